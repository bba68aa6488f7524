set_option maxRecDepth 100000 in
theorem m160_0 (d sl : Nat) (I : Nat → Int32) (w : Int64) (A : Nat → Nat → Int32) (N : Nat → Nat → Int64)  :
  R d 160 (0, [some (.ref 0)], [], sl, (RH I w A N)) =
    some (4, [some (.ref 0)], [.int (I 0)], sl, (RH I w A N)) :=
  (R_gob [] 400 _ _ _).trans rfl
set_option maxRecDepth 100000 in
theorem m161_0 (d sl : Nat) (I : Nat → Int32) (w : Int64) (A : Nat → Nat → Int32) (N : Nat → Nat → Int64)  :
  R d 161 (0, [some (.ref 0)], [], sl, (RH I w A N)) =
    some (6, [some (.ref 0)], [.int (nI 0)], sl, (RH (up1 I 0 (nI 1)) w A N)) :=
  (R_gob [] 400 _ _ _).trans rfl
set_option maxRecDepth 100000 in
theorem m162_0 (d sl : Nat) (I : Nat → Int32) (w : Int64) (A : Nat → Nat → Int32) (N : Nat → Nat → Int64) (a1 : Int32) :
  R d 162 (0, [some (.ref 0), some (.int a1), none], [], sl, (RH I w A N)) =
    R d 162 (3, [some (.ref 0), some (.int a1), some (.int (nI 24))], [], sl, (RH I w A N)) :=
  (R_gob [3] 400 _ _ _).trans rfl
set_option maxRecDepth 100000 in
theorem m162_3 (d sl : Nat) (I : Nat → Int32) (w : Int64) (A : Nat → Nat → Int32) (N : Nat → Nat → Int64) (a1 : Int32) (a2 : Int32) :
  R d 162 (3, [some (.ref 0), some (.int a1), some (.int a2)], [], sl, (RH I w A N)) =
    cond (decide (a2 < (nI 0))) (some (39, [some (.ref 0), some (.int a1), some (.int a2)], [], sl, (RH I w A N))) (cond (x_in (I 2) 940) (R d 162 (3, [some (.ref 0), some (.int a1), some (.int (a2 + (-8 : Int32)))], [], sl, (RH (up1 I 2 ((I 2) + (nI 1))) w (up1 A 1 (upd (A 1) (I 2).toNatClampNeg ((a1.toUInt32 >>> (a2.toUInt32 &&& Int32.toUInt32 31)).toInt32 &&& (nI 255)))) N))) none) :=
  (R_gob [3] 400 _ _ _).trans rfl
set_option maxRecDepth 100000 in
theorem m163_0 (d sl : Nat) (I : Nat → Int32) (w : Int64) (A : Nat → Nat → Int32) (N : Nat → Nat → Int64) (a1 : Int32) (a2 : Int32) (a3 : Int32) (a4 : Int32) (a5 : Int32) :
  R (d + 1) 163 (0, [some (.ref 0), some (.int a1), some (.int a2), some (.int a3), some (.int a4), some (.int a5)], [], sl, (RH I w A N)) =
    cond (decide (((I 2) + (nI 20)) ≤ (nI 940))) (bC (C d 162 [.ref 0, .int a1] sl (RH (up1 I 0 (nI 0)) w A N)) (fun vs sl h => R (d + 1) 163 (25, [some (.ref 0), some (.int a1), some (.int a2), some (.int a3), some (.int a4), some (.int a5)], vs ++ [], sl, h))) (some (19, [some (.ref 0), some (.int a1), some (.int a2), some (.int a3), some (.int a4), some (.int a5)], [.int (-1 : Int32)], sl, (RH (up1 I 0 (nI 0)) w A N))) :=
  (R_gob [25, 30, 35, 41, 47] 400 _ _ _).trans rfl
set_option maxRecDepth 100000 in
theorem m163_25 (d sl : Nat) (I : Nat → Int32) (w : Int64) (A : Nat → Nat → Int32) (N : Nat → Nat → Int64) (a1 : Int32) (a2 : Int32) (a3 : Int32) (a4 : Int32) (a5 : Int32) :
  R (d + 1) 163 (25, [some (.ref 0), some (.int a1), some (.int a2), some (.int a3), some (.int a4), some (.int a5)], [], sl, (RH I w A N)) =
    bC (C d 162 [.ref 0, .int a2] sl (RH I w A N)) (fun vs sl h => R (d + 1) 163 (30, [some (.ref 0), some (.int a1), some (.int a2), some (.int a3), some (.int a4), some (.int a5)], vs ++ [], sl, h)) :=
  (R_gob [25, 30, 35, 41, 47] 400 _ _ _).trans rfl
set_option maxRecDepth 100000 in
theorem m163_30 (d sl : Nat) (I : Nat → Int32) (w : Int64) (A : Nat → Nat → Int32) (N : Nat → Nat → Int64) (a1 : Int32) (a2 : Int32) (a3 : Int32) (a4 : Int32) (a5 : Int32) :
  R (d + 1) 163 (30, [some (.ref 0), some (.int a1), some (.int a2), some (.int a3), some (.int a4), some (.int a5)], [], sl, (RH I w A N)) =
    bC (C d 162 [.ref 0, .int a3] sl (RH I w A N)) (fun vs sl h => R (d + 1) 163 (35, [some (.ref 0), some (.int a1), some (.int a2), some (.int a3), some (.int a4), some (.int a5)], vs ++ [], sl, h)) :=
  (R_gob [25, 30, 35, 41, 47] 400 _ _ _).trans rfl
set_option maxRecDepth 100000 in
theorem m163_35 (d sl : Nat) (I : Nat → Int32) (w : Int64) (A : Nat → Nat → Int32) (N : Nat → Nat → Int64) (a1 : Int32) (a2 : Int32) (a3 : Int32) (a4 : Int32) (a5 : Int32) :
  R (d + 1) 163 (35, [some (.ref 0), some (.int a1), some (.int a2), some (.int a3), some (.int a4), some (.int a5)], [], sl, (RH I w A N)) =
    bC (C d 162 [.ref 0, .int a4] sl (RH I w A N)) (fun vs sl h => R (d + 1) 163 (41, [some (.ref 0), some (.int a1), some (.int a2), some (.int a3), some (.int a4), some (.int a5)], vs ++ [], sl, h)) :=
  (R_gob [25, 30, 35, 41, 47] 400 _ _ _).trans rfl
set_option maxRecDepth 100000 in
theorem m163_41 (d sl : Nat) (I : Nat → Int32) (w : Int64) (A : Nat → Nat → Int32) (N : Nat → Nat → Int64) (a1 : Int32) (a2 : Int32) (a3 : Int32) (a4 : Int32) (a5 : Int32) :
  R (d + 1) 163 (41, [some (.ref 0), some (.int a1), some (.int a2), some (.int a3), some (.int a4), some (.int a5)], [], sl, (RH I w A N)) =
    bC (C d 162 [.ref 0, .int a5] sl (RH I w A N)) (fun vs sl h => R (d + 1) 163 (47, [some (.ref 0), some (.int a1), some (.int a2), some (.int a3), some (.int a4), some (.int a5)], vs ++ [], sl, h)) :=
  (R_gob [25, 30, 35, 41, 47] 400 _ _ _).trans rfl
set_option maxRecDepth 100000 in
theorem m163_47 (d sl : Nat) (I : Nat → Int32) (w : Int64) (A : Nat → Nat → Int32) (N : Nat → Nat → Int64) (a1 : Int32) (a2 : Int32) (a3 : Int32) (a4 : Int32) (a5 : Int32) :
  R (d + 1) 163 (47, [some (.ref 0), some (.int a1), some (.int a2), some (.int a3), some (.int a4), some (.int a5)], [], sl, (RH I w A N)) =
    some (51, [some (.ref 0), some (.int a1), some (.int a2), some (.int a3), some (.int a4), some (.int a5)], [.int (I 2)], sl, (RH I w A N)) :=
  (R_gob [25, 30, 35, 41, 47] 400 _ _ _).trans rfl
set_option maxRecDepth 100000 in
theorem m164_0 (d sl : Nat) (I : Nat → Int32) (w : Int64) (A : Nat → Nat → Int32) (N : Nat → Nat → Int64) (a1 : Int32) :
  R d 164 (0, [some (.ref 0), some (.int a1)], [], sl, (RH I w A N)) =
    cond (decide (a1 < (nI 0))) (some (18, [some (.ref 0), some (.int a1)], [.int (nI 0)], sl, (RH (up1 I 0 (nI 0)) w A N))) (cond (decide (a1 ≤ (I 2))) (some (25, [some (.ref 0), some (.int a1)], [.int (nI 1)], sl, (RH (up1 (up1 I 0 (nI 0)) 2 a1) w A N))) (some (18, [some (.ref 0), some (.int a1)], [.int (nI 0)], sl, (RH (up1 I 0 (nI 0)) w A N)))) :=
  (R_gob [] 400 _ _ _).trans rfl
set_option maxRecDepth 100000 in
theorem m165_0 (d sl : Nat) (I : Nat → Int32) (w : Int64) (A : Nat → Nat → Int32) (N : Nat → Nat → Int64)  :
  R d 165 (0, [some (.ref 0), none], [], sl, (RH I w A N)) =
    some (11, [some (.ref 0), some (.int (I 2))], [.int (I 2)], sl, (RH (up1 I 2 (nI 0)) w A N)) :=
  (R_gob [] 400 _ _ _).trans rfl
set_option maxRecDepth 100000 in
theorem m166_0 (d sl : Nat) (I : Nat → Int32) (w : Int64) (A : Nat → Nat → Int32) (N : Nat → Nat → Int64) (a0 : Int32) (a1 : Int32) (a2 : Int32) :
  R d 166 (0, [some (.int a0), some (.int a1), some (.int a2)], [], sl, (RH I w A N)) =
    cond (decide (a0 < a1)) (some (15, [some (.int a0), some (.int a1), some (.int a2)], [.int (nI 0)], sl, (RH I w A N))) (cond (decide (a2 < a0)) (some (15, [some (.int a0), some (.int a1), some (.int a2)], [.int (nI 0)], sl, (RH I w A N))) (some (15, [some (.int a0), some (.int a1), some (.int a2)], [.int (nI 1)], sl, (RH I w A N)))) :=
  (R_gob [] 400 _ _ _).trans rfl
set_option maxRecDepth 100000 in
theorem m167_0 (d sl : Nat) (I : Nat → Int32) (w : Int64) (A : Nat → Nat → Int32) (N : Nat → Nat → Int64) (a0 : Int32) (a1 : Int32) :
  R d 167 (0, [some (.int a0), some (.int a1)], [], sl, (RH I w A N)) =
    cond (!decide (((a0 >>> (a1 &&& nI 31)) &&& (nI 1)) = (nI 1))) (some (14, [some (.int a0), some (.int a1)], [.int (nI 0)], sl, (RH I w A N))) (some (14, [some (.int a0), some (.int a1)], [.int (nI 1)], sl, (RH I w A N))) :=
  (R_gob [] 400 _ _ _).trans rfl
set_option maxRecDepth 100000 in
theorem m168_0 (d sl : Nat) (I : Nat → Int32) (w : Int64) (A : Nat → Nat → Int32) (N : Nat → Nat → Int64) (a0 : Int32) :
  R d 168 (0, [some (.int a0), none, none], [], sl, (RH I w A N)) =
    R d 168 (4, [some (.int a0), some (.int (nI 0)), some (.int a0)], [], sl, (RH I w A N)) :=
  (R_gob [4] 400 _ _ _).trans rfl
set_option maxRecDepth 100000 in
theorem m168_4 (d sl : Nat) (I : Nat → Int32) (w : Int64) (A : Nat → Nat → Int32) (N : Nat → Nat → Int64) (a0 : Int32) (a1 : Int32) (a2 : Int32) :
  R d 168 (4, [some (.int a0), some (.int a1), some (.int a2)], [], sl, (RH I w A N)) =
    cond (decide (a2 = (nI 0))) (some (21, [some (.int a0), some (.int a1), some (.int a2)], [.int a1], sl, (RH I w A N))) (R d 168 (4, [some (.int a0), some (.int (a1 + (nI 1))), some (.int (a2 &&& (a2 - (nI 1))))], [], sl, (RH I w A N))) :=
  (R_gob [4] 400 _ _ _).trans rfl
set_option maxRecDepth 100000 in
theorem m169_0 (d sl : Nat) (I : Nat → Int32) (w : Int64) (A : Nat → Nat → Int32) (N : Nat → Nat → Int64) (a0 : Int32) (a1 : Int32) :
  R d 169 (0, [some (.int a0), some (.int a1)], [], sl, (RH I w A N)) =
    cond (decide (a1 ≤ a0)) (some (10, [some (.int a0), some (.int a1)], [.int a1], sl, (RH I w A N))) (some (10, [some (.int a0), some (.int a1)], [.int a0], sl, (RH I w A N))) :=
  (R_gob [] 400 _ _ _).trans rfl
set_option maxRecDepth 100000 in
theorem m170_0 (d sl : Nat) (I : Nat → Int32) (w : Int64) (A : Nat → Nat → Int32) (N : Nat → Nat → Int64) (a0 : Int32) (a1 : Int32) :
  R d 170 (0, [some (.int a0), some (.int a1), none, none, none], [], sl, (RH I w A N)) =
    R d 170 (4, [some (.int a0), some (.int a1), some (.int a0), some (.int a1), none], [], sl, (RH I w A N)) :=
  (R_gob [4] 400 _ _ _).trans rfl
set_option maxRecDepth 100000 in
theorem m170_4 (d sl : Nat) (I : Nat → Int32) (w : Int64) (A : Nat → Nat → Int32) (N : Nat → Nat → Int64) (a0 : Int32) (a1 : Int32) (a2 : Int32) (a3 : Int32) :
  R d 170 (4, [some (.int a0), some (.int a1), some (.int a2), some (.int a3), none], [], sl, (RH I w A N)) =
    cond (decide (a3 = (nI 0))) (some (22, [some (.int a0), some (.int a1), some (.int a2), some (.int a3), none], [.int a2], sl, (RH I w A N))) (cond (!decide (a3 = (nI 0))) (R d 170 (4, [some (.int a0), some (.int a1), some (.int a3), some (.int (a2 - a2 / a3 * a3)), some (.int (a2 - a2 / a3 * a3))], [], sl, (RH I w A N))) none) :=
  (R_gob [4] 400 _ _ _).trans rfl
set_option maxRecDepth 100000 in
theorem m170_4_1 (d sl : Nat) (I : Nat → Int32) (w : Int64) (A : Nat → Nat → Int32) (N : Nat → Nat → Int64) (a0 : Int32) (a1 : Int32) (a2 : Int32) (a3 : Int32) (a4 : Int32) :
  R d 170 (4, [some (.int a0), some (.int a1), some (.int a2), some (.int a3), some (.int a4)], [], sl, (RH I w A N)) =
    cond (decide (a3 = (nI 0))) (some (22, [some (.int a0), some (.int a1), some (.int a2), some (.int a3), some (.int a4)], [.int a2], sl, (RH I w A N))) (cond (!decide (a3 = (nI 0))) (R d 170 (4, [some (.int a0), some (.int a1), some (.int a3), some (.int (a2 - a2 / a3 * a3)), some (.int (a2 - a2 / a3 * a3))], [], sl, (RH I w A N))) none) :=
  (R_gob [4] 400 _ _ _).trans rfl
set_option maxRecDepth 100000 in
theorem m171_0 (d sl : Nat) (I : Nat → Int32) (w : Int64) (A : Nat → Nat → Int32) (N : Nat → Nat → Int64) (a1 : Int32) :
  R d 171 (0, [some (.ref 0), some (.int a1)], [], sl, (RH I w A N)) =
    cond (decide ((I 3) ≤ a1)) (some (18, [some (.ref 0), some (.int a1)], [.int (nI 0)], sl, (RH I w A N))) (cond (x_in a1 940) (some (18, [some (.ref 0), some (.int a1)], [.int ((A 1) a1.toNatClampNeg)], sl, (RH I w A N))) none) :=
  (R_gob [] 400 _ _ _).trans rfl
set_option maxRecDepth 100000 in
theorem m172_0 (d sl : Nat) (I : Nat → Int32) (w : Int64) (A : Nat → Nat → Int32) (N : Nat → Nat → Int64) (a0 : Int32) :
  R d 172 (0, [some (.int a0)], [], sl, (RH I w A N)) =
    cond (decide (a0 < (nI 48))) (some (17, [some (.int a0)], [.int (nI 0)], sl, (RH I w A N))) (cond (decide ((nI 57) < a0)) (some (17, [some (.int a0)], [.int (nI 0)], sl, (RH I w A N))) (some (17, [some (.int a0)], [.int (nI 1)], sl, (RH I w A N)))) :=
  (R_gob [] 400 _ _ _).trans rfl
set_option maxRecDepth 100000 in
theorem m173_0 (d sl : Nat) (I : Nat → Int32) (w : Int64) (A : Nat → Nat → Int32) (N : Nat → Nat → Int64) (a0 : Int32) :
  R d 173 (0, [some (.int a0)], [], sl, (RH I w A N)) =
    cond (decide (a0 < (nI 97))) (some (17, [some (.int a0)], [.int (nI 0)], sl, (RH I w A N))) (cond (decide ((nI 122) < a0)) (some (17, [some (.int a0)], [.int (nI 0)], sl, (RH I w A N))) (some (17, [some (.int a0)], [.int (nI 1)], sl, (RH I w A N)))) :=
  (R_gob [] 400 _ _ _).trans rfl
set_option maxRecDepth 100000 in
theorem m174_0 (d sl : Nat) (I : Nat → Int32) (w : Int64) (A : Nat → Nat → Int32) (N : Nat → Nat → Int64)  :
  R (d + 1) 174 (0, [some (.ref 0), none, none, none, none], [], sl, (RH I w A N)) =
    cond (decide ((I 3) ≤ (I 5))) (cond (decide ((I 3) ≤ (I 4))) (cond (decide ((I 5) < (I 3))) (cond (x_in (I 5) 940) (bC (C d 173 [.int ((A 1) (I 5).toNatClampNeg)] sl (RH (up1 I 6 (I 5)) w A N)) (fun vs sl h => R (d + 1) 174 (127, [some (.ref 0), some (.int ((A 1) (I 5).toNatClampNeg)), none, none, none], vs ++ [], sl, h))) none) (some (112, [some (.ref 0), none, none, none, none], [], sl, (RH (up1 (up1 I 6 (I 5)) 7 (nI 0)) w A N)))) (cond (decide ((I 5) < (I 4))) (cond (decide ((I 5) < (I 3))) (cond (x_in (I 5) 940) (bC (C d 173 [.int ((A 1) (I 5).toNatClampNeg)] sl (RH (up1 I 6 (I 5)) w A N)) (fun vs sl h => R (d + 1) 174 (127, [some (.ref 0), some (.int ((A 1) (I 5).toNatClampNeg)), none, none, none], vs ++ [], sl, h))) none) (some (112, [some (.ref 0), none, none, none, none], [], sl, (RH (up1 (up1 I 6 (I 5)) 7 (nI 0)) w A N)))) (some (95, [some (.ref 0), none, none, none, none], [], sl, (RH (up1 (up1 I 6 (I 4)) 7 (nI 1)) w A N))))) (cond (x_in (I 5) 940) (cond (decide (((A 1) (I 5).toNatClampNeg) = (nI 32))) (R (d + 1) 174 (0, [some (.ref 0), none, none, none, none], [], sl, (RH (up1 I 5 ((I 5) + (nI 1))) w A N))) (cond (x_in (I 5) 940) (cond (!decide (((A 1) (I 5).toNatClampNeg) = (nI 10))) (cond (decide ((I 3) ≤ (I 4))) (cond (decide ((I 5) < (I 3))) (cond (x_in (I 5) 940) (bC (C d 173 [.int ((A 1) (I 5).toNatClampNeg)] sl (RH (up1 I 6 (I 5)) w A N)) (fun vs sl h => R (d + 1) 174 (127, [some (.ref 0), some (.int ((A 1) (I 5).toNatClampNeg)), none, none, none], vs ++ [], sl, h))) none) (some (112, [some (.ref 0), none, none, none, none], [], sl, (RH (up1 (up1 I 6 (I 5)) 7 (nI 0)) w A N)))) (cond (decide ((I 5) < (I 4))) (cond (decide ((I 5) < (I 3))) (cond (x_in (I 5) 940) (bC (C d 173 [.int ((A 1) (I 5).toNatClampNeg)] sl (RH (up1 I 6 (I 5)) w A N)) (fun vs sl h => R (d + 1) 174 (127, [some (.ref 0), some (.int ((A 1) (I 5).toNatClampNeg)), none, none, none], vs ++ [], sl, h))) none) (some (112, [some (.ref 0), none, none, none, none], [], sl, (RH (up1 (up1 I 6 (I 5)) 7 (nI 0)) w A N)))) (some (95, [some (.ref 0), none, none, none, none], [], sl, (RH (up1 (up1 I 6 (I 4)) 7 (nI 1)) w A N))))) (R (d + 1) 174 (0, [some (.ref 0), none, none, none, none], [], sl, (RH (up1 I 5 ((I 5) + (nI 1))) w A N)))) none)) none) :=
  (R_gob [0, 127, 134, 202, 215, 223, 226, 237, 240, 263] 400 _ _ _).trans rfl
set_option maxRecDepth 100000 in
theorem m174_127 (d sl : Nat) (I : Nat → Int32) (w : Int64) (A : Nat → Nat → Int32) (N : Nat → Nat → Int64) (a1 : Int32) (b0 : Int32) :
  R (d + 1) 174 (127, [some (.ref 0), some (.int a1), none, none, none], [.int b0], sl, (RH I w A N)) =
    cond (!decide (b0 = (nI 0))) (bC (C d 173 [.int a1] sl (RH I w A N)) (fun vs sl h => R (d + 1) 174 (202, [some (.ref 0), some (.int a1), none, none, none], vs ++ [], sl, h))) (bC (C d 172 [.int a1] sl (RH I w A N)) (fun vs sl h => R (d + 1) 174 (134, [some (.ref 0), some (.int a1), none, none, none], vs ++ [], sl, h))) :=
  (R_gob [0, 127, 134, 202, 215, 223, 226, 237, 240, 263] 400 _ _ _).trans rfl
set_option maxRecDepth 100000 in
theorem m174_202 (d sl : Nat) (I : Nat → Int32) (w : Int64) (A : Nat → Nat → Int32) (N : Nat → Nat → Int64) (a1 : Int32) (b0 : Int32) :
  R (d + 1) 174 (202, [some (.ref 0), some (.int a1), none, none, none], [.int b0], sl, (RH I w A N)) =
    R (d + 1) 174 (215, [some (.ref 0), some (.int a1), some (.int b0), some (.int (nI 1)), none], [], sl, (RH (up1 I 8 (nI 0)) (Int64.ofNat 0) A N)) :=
  (R_gob [0, 127, 134, 202, 215, 223, 226, 237, 240, 263] 400 _ _ _).trans rfl
set_option maxRecDepth 100000 in
theorem m174_134 (d sl : Nat) (I : Nat → Int32) (w : Int64) (A : Nat → Nat → Int32) (N : Nat → Nat → Int64) (a1 : Int32) (b0 : Int32) :
  R (d + 1) 174 (134, [some (.ref 0), some (.int a1), none, none, none], [.int b0], sl, (RH I w A N)) =
    cond (!decide (b0 = (nI 0))) (bC (C d 173 [.int a1] sl (RH I w A N)) (fun vs sl h => R (d + 1) 174 (202, [some (.ref 0), some (.int a1), none, none, none], vs ++ [], sl, h))) (cond (decide (a1 = (nI 59))) (some (197, [some (.ref 0), some (.int a1), none, none, none], [], sl, (RH (up1 (up1 (up1 I 5 ((I 5) + (nI 1))) 7 (nI 4)) 9 a1) w A N))) (cond (decide (a1 = (nI 60))) (some (197, [some (.ref 0), some (.int a1), none, none, none], [], sl, (RH (up1 (up1 (up1 I 5 ((I 5) + (nI 1))) 7 (nI 4)) 9 a1) w A N))) (cond (decide (a1 = (nI 61))) (some (197, [some (.ref 0), some (.int a1), none, none, none], [], sl, (RH (up1 (up1 (up1 I 5 ((I 5) + (nI 1))) 7 (nI 4)) 9 a1) w A N))) (cond (decide (a1 = (nI 62))) (some (197, [some (.ref 0), some (.int a1), none, none, none], [], sl, (RH (up1 (up1 (up1 I 5 ((I 5) + (nI 1))) 7 (nI 4)) 9 a1) w A N))) (cond (decide (a1 = (nI 40))) (some (197, [some (.ref 0), some (.int a1), none, none, none], [], sl, (RH (up1 (up1 (up1 I 5 ((I 5) + (nI 1))) 7 (nI 4)) 9 a1) w A N))) (cond (!decide (a1 = (nI 41))) (some (197, [some (.ref 0), some (.int a1), none, none, none], [], sl, (RH (up1 (up1 (up1 I 5 ((I 5) + (nI 1))) 7 (nI 1)) 9 a1) w A N))) (some (197, [some (.ref 0), some (.int a1), none, none, none], [], sl, (RH (up1 (up1 (up1 I 5 ((I 5) + (nI 1))) 7 (nI 4)) 9 a1) w A N))))))))) :=
  (R_gob [0, 127, 134, 202, 215, 223, 226, 237, 240, 263] 400 _ _ _).trans rfl
set_option maxRecDepth 100000 in
theorem m174_215 (d sl : Nat) (I : Nat → Int32) (w : Int64) (A : Nat → Nat → Int32) (N : Nat → Nat → Int64) (a1 : Int32) (a2 : Int32) (a3 : Int32) :
  R (d + 1) 174 (215, [some (.ref 0), some (.int a1), some (.int a2), some (.int a3), none], [], sl, (RH I w A N)) =
    bC (C d 171 [.ref 0, .int (I 5)] sl (RH I w A N)) (fun vs sl h => R (d + 1) 174 (223, [some (.ref 0), some (.int a1), some (.int a2), some (.int a3), none], vs ++ [], sl, h)) :=
  (R_gob [0, 127, 134, 202, 215, 223, 226, 237, 240, 263] 400 _ _ _).trans rfl
set_option maxRecDepth 100000 in
theorem m174_223 (d sl : Nat) (I : Nat → Int32) (w : Int64) (A : Nat → Nat → Int32) (N : Nat → Nat → Int64) (a1 : Int32) (a2 : Int32) (a3 : Int32) (b0 : Int32) :
  R (d + 1) 174 (223, [some (.ref 0), some (.int a1), some (.int a2), some (.int a3), none], [.int b0], sl, (RH I w A N)) =
    bC (C d 173 [.int b0] sl (RH I w A N)) (fun vs sl h => R (d + 1) 174 (226, [some (.ref 0), some (.int a1), some (.int a2), some (.int a3), none], vs ++ [], sl, h)) :=
  (R_gob [0, 127, 134, 202, 215, 223, 226, 237, 240, 263] 400 _ _ _).trans rfl
set_option maxRecDepth 100000 in
theorem m174_226 (d sl : Nat) (I : Nat → Int32) (w : Int64) (A : Nat → Nat → Int32) (N : Nat → Nat → Int64) (a1 : Int32) (a2 : Int32) (a3 : Int32) (b0 : Int32) :
  R (d + 1) 174 (226, [some (.ref 0), some (.int a1), some (.int a2), some (.int a3), none], [.int b0], sl, (RH I w A N)) =
    cond (!decide (b0 = (nI 0))) (cond (x_in (I 5) 940) (cond (decide (a3 = (nI 0))) (cond (decide ((nI 7) ≤ ((I 5) - (I 6)))) (cond (decide ((nI 3) ≤ ((I 5) - (I 6)))) (R (d + 1) 174 (215, [some (.ref 0), some (.int a1), some (.int a2), some (.int (nI 0)), some (.int ((A 1) (I 5).toNatClampNeg))], [], sl, (RH (up1 I 5 ((I 5) + (nI 1))) w A N))) (R (d + 1) 174 (215, [some (.ref 0), some (.int a1), some (.int a2), some (.int (nI 0)), some (.int ((A 1) (I 5).toNatClampNeg))], [], sl, (RH (up1 (up1 I 5 ((I 5) + (nI 1))) 8 ((((nI 10) * (I 8)) + ((A 1) (I 5).toNatClampNeg)) - (nI 48))) w A N)))) (cond (decide ((nI 3) ≤ ((I 5) - (I 6)))) (R (d + 1) 174 (215, [some (.ref 0), some (.int a1), some (.int a2), some (.int (nI 0)), some (.int ((A 1) (I 5).toNatClampNeg))], [], sl, (RH (up1 I 5 ((I 5) + (nI 1))) ((((nI 27).toInt64 * w) + ((A 1) (I 5).toNatClampNeg).toInt64) - (nI 96).toInt64) A N))) (R (d + 1) 174 (215, [some (.ref 0), some (.int a1), some (.int a2), some (.int (nI 0)), some (.int ((A 1) (I 5).toNatClampNeg))], [], sl, (RH (up1 (up1 I 5 ((I 5) + (nI 1))) 8 ((((nI 10) * (I 8)) + ((A 1) (I 5).toNatClampNeg)) - (nI 48))) ((((nI 27).toInt64 * w) + ((A 1) (I 5).toNatClampNeg).toInt64) - (nI 96).toInt64) A N))))) (bC (C d 173 [.int ((A 1) (I 5).toNatClampNeg)] sl (RH I w A N)) (fun vs sl h => R (d + 1) 174 (263, [some (.ref 0), some (.int a1), some (.int a2), some (.int a3), some (.int ((A 1) (I 5).toNatClampNeg))], vs ++ [], sl, h)))) none) (bC (C d 171 [.ref 0, .int (I 5)] sl (RH I w A N)) (fun vs sl h => R (d + 1) 174 (237, [some (.ref 0), some (.int a1), some (.int a2), some (.int a3), none], vs ++ [], sl, h))) :=
  (R_gob [0, 127, 134, 202, 215, 223, 226, 237, 240, 263] 400 _ _ _).trans rfl
set_option maxRecDepth 100000 in
theorem m174_215_1 (d sl : Nat) (I : Nat → Int32) (w : Int64) (A : Nat → Nat → Int32) (N : Nat → Nat → Int64) (a1 : Int32) (a2 : Int32) (a3 : Int32) (a4 : Int32) :
  R (d + 1) 174 (215, [some (.ref 0), some (.int a1), some (.int a2), some (.int a3), some (.int a4)], [], sl, (RH I w A N)) =
    bC (C d 171 [.ref 0, .int (I 5)] sl (RH I w A N)) (fun vs sl h => R (d + 1) 174 (223, [some (.ref 0), some (.int a1), some (.int a2), some (.int a3), some (.int a4)], vs ++ [], sl, h)) :=
  (R_gob [0, 127, 134, 202, 215, 223, 226, 237, 240, 263] 400 _ _ _).trans rfl
set_option maxRecDepth 100000 in
theorem m174_263 (d sl : Nat) (I : Nat → Int32) (w : Int64) (A : Nat → Nat → Int32) (N : Nat → Nat → Int64) (a1 : Int32) (a2 : Int32) (a3 : Int32) (a4 : Int32) (b0 : Int32) :
  R (d + 1) 174 (263, [some (.ref 0), some (.int a1), some (.int a2), some (.int a3), some (.int a4)], [.int b0], sl, (RH I w A N)) =
    cond (!decide (b0 = a2)) (cond (decide ((nI 7) ≤ ((I 5) - (I 6)))) (cond (decide ((nI 3) ≤ ((I 5) - (I 6)))) (R (d + 1) 174 (215, [some (.ref 0), some (.int a1), some (.int a2), some (.int (nI 0)), some (.int a4)], [], sl, (RH (up1 I 5 ((I 5) + (nI 1))) w A N))) (R (d + 1) 174 (215, [some (.ref 0), some (.int a1), some (.int a2), some (.int (nI 0)), some (.int a4)], [], sl, (RH (up1 (up1 I 5 ((I 5) + (nI 1))) 8 ((((nI 10) * (I 8)) + a4) - (nI 48))) w A N)))) (cond (decide ((nI 3) ≤ ((I 5) - (I 6)))) (R (d + 1) 174 (215, [some (.ref 0), some (.int a1), some (.int a2), some (.int (nI 0)), some (.int a4)], [], sl, (RH (up1 I 5 ((I 5) + (nI 1))) ((((nI 27).toInt64 * w) + a4.toInt64) - (nI 96).toInt64) A N))) (R (d + 1) 174 (215, [some (.ref 0), some (.int a1), some (.int a2), some (.int (nI 0)), some (.int a4)], [], sl, (RH (up1 (up1 I 5 ((I 5) + (nI 1))) 8 ((((nI 10) * (I 8)) + a4) - (nI 48))) ((((nI 27).toInt64 * w) + a4.toInt64) - (nI 96).toInt64) A N))))) (cond (decide ((nI 7) ≤ ((I 5) - (I 6)))) (cond (decide ((nI 3) ≤ ((I 5) - (I 6)))) (R (d + 1) 174 (215, [some (.ref 0), some (.int a1), some (.int a2), some (.int (nI 1)), some (.int a4)], [], sl, (RH (up1 I 5 ((I 5) + (nI 1))) w A N))) (R (d + 1) 174 (215, [some (.ref 0), some (.int a1), some (.int a2), some (.int (nI 1)), some (.int a4)], [], sl, (RH (up1 (up1 I 5 ((I 5) + (nI 1))) 8 ((((nI 10) * (I 8)) + a4) - (nI 48))) w A N)))) (cond (decide ((nI 3) ≤ ((I 5) - (I 6)))) (R (d + 1) 174 (215, [some (.ref 0), some (.int a1), some (.int a2), some (.int (nI 1)), some (.int a4)], [], sl, (RH (up1 I 5 ((I 5) + (nI 1))) ((((nI 27).toInt64 * w) + a4.toInt64) - (nI 96).toInt64) A N))) (R (d + 1) 174 (215, [some (.ref 0), some (.int a1), some (.int a2), some (.int (nI 1)), some (.int a4)], [], sl, (RH (up1 (up1 I 5 ((I 5) + (nI 1))) 8 ((((nI 10) * (I 8)) + a4) - (nI 48))) ((((nI 27).toInt64 * w) + a4.toInt64) - (nI 96).toInt64) A N))))) :=
  (R_gob [0, 127, 134, 202, 215, 223, 226, 237, 240, 263] 400 _ _ _).trans rfl
set_option maxRecDepth 100000 in
theorem m174_237 (d sl : Nat) (I : Nat → Int32) (w : Int64) (A : Nat → Nat → Int32) (N : Nat → Nat → Int64) (a1 : Int32) (a2 : Int32) (a3 : Int32) (b0 : Int32) :
  R (d + 1) 174 (237, [some (.ref 0), some (.int a1), some (.int a2), some (.int a3), none], [.int b0], sl, (RH I w A N)) =
    bC (C d 172 [.int b0] sl (RH I w A N)) (fun vs sl h => R (d + 1) 174 (240, [some (.ref 0), some (.int a1), some (.int a2), some (.int a3), none], vs ++ [], sl, h)) :=
  (R_gob [0, 127, 134, 202, 215, 223, 226, 237, 240, 263] 400 _ _ _).trans rfl
set_option maxRecDepth 100000 in
theorem m174_223_1 (d sl : Nat) (I : Nat → Int32) (w : Int64) (A : Nat → Nat → Int32) (N : Nat → Nat → Int64) (a1 : Int32) (a2 : Int32) (a3 : Int32) (a4 : Int32) (b0 : Int32) :
  R (d + 1) 174 (223, [some (.ref 0), some (.int a1), some (.int a2), some (.int a3), some (.int a4)], [.int b0], sl, (RH I w A N)) =
    bC (C d 173 [.int b0] sl (RH I w A N)) (fun vs sl h => R (d + 1) 174 (226, [some (.ref 0), some (.int a1), some (.int a2), some (.int a3), some (.int a4)], vs ++ [], sl, h)) :=
  (R_gob [0, 127, 134, 202, 215, 223, 226, 237, 240, 263] 400 _ _ _).trans rfl
set_option maxRecDepth 100000 in
theorem m174_240 (d sl : Nat) (I : Nat → Int32) (w : Int64) (A : Nat → Nat → Int32) (N : Nat → Nat → Int64) (a1 : Int32) (a2 : Int32) (a3 : Int32) (b0 : Int32) :
  R (d + 1) 174 (240, [some (.ref 0), some (.int a1), some (.int a2), some (.int a3), none], [.int b0], sl, (RH I w A N)) =
    cond (decide (b0 = (nI 0))) (cond (decide (a3 = (nI 0))) (some (393, [some (.ref 0), some (.int a1), some (.int a2), some (.int a3), none], [], sl, (RH (up1 I 7 (nI 1)) w A N))) (cond (decide (a2 = (nI 0))) (cond (decide (((I 5) - (I 6)) ≤ (nI 3))) (cond (decide (a2 = (nI 0))) (some (393, [some (.ref 0), some (.int a1), some (.int a2), some (.int a3), none], [], sl, (RH (up1 I 7 (nI 3)) w A N))) (some (393, [some (.ref 0), some (.int a1), some (.int a2), some (.int a3), none], [], sl, (RH (up1 I 7 (nI 2)) w A N)))) (some (393, [some (.ref 0), some (.int a1), some (.int a2), some (.int a3), none], [], sl, (RH (up1 I 7 (nI 1)) w A N)))) (cond (decide (((I 5) - (I 6)) ≤ (nI 7))) (cond (decide (a2 = (nI 0))) (some (393, [some (.ref 0), some (.int a1), some (.int a2), some (.int a3), none], [], sl, (RH (up1 I 7 (nI 3)) w A N))) (some (393, [some (.ref 0), some (.int a1), some (.int a2), some (.int a3), none], [], sl, (RH (up1 I 7 (nI 2)) w A N)))) (some (393, [some (.ref 0), some (.int a1), some (.int a2), some (.int a3), none], [], sl, (RH (up1 I 7 (nI 1)) w A N)))))) (cond (x_in (I 5) 940) (cond (decide (a3 = (nI 0))) (cond (decide ((nI 7) ≤ ((I 5) - (I 6)))) (cond (decide ((nI 3) ≤ ((I 5) - (I 6)))) (R (d + 1) 174 (215, [some (.ref 0), some (.int a1), some (.int a2), some (.int (nI 0)), some (.int ((A 1) (I 5).toNatClampNeg))], [], sl, (RH (up1 I 5 ((I 5) + (nI 1))) w A N))) (R (d + 1) 174 (215, [some (.ref 0), some (.int a1), some (.int a2), some (.int (nI 0)), some (.int ((A 1) (I 5).toNatClampNeg))], [], sl, (RH (up1 (up1 I 5 ((I 5) + (nI 1))) 8 ((((nI 10) * (I 8)) + ((A 1) (I 5).toNatClampNeg)) - (nI 48))) w A N)))) (cond (decide ((nI 3) ≤ ((I 5) - (I 6)))) (R (d + 1) 174 (215, [some (.ref 0), some (.int a1), some (.int a2), some (.int (nI 0)), some (.int ((A 1) (I 5).toNatClampNeg))], [], sl, (RH (up1 I 5 ((I 5) + (nI 1))) ((((nI 27).toInt64 * w) + ((A 1) (I 5).toNatClampNeg).toInt64) - (nI 96).toInt64) A N))) (R (d + 1) 174 (215, [some (.ref 0), some (.int a1), some (.int a2), some (.int (nI 0)), some (.int ((A 1) (I 5).toNatClampNeg))], [], sl, (RH (up1 (up1 I 5 ((I 5) + (nI 1))) 8 ((((nI 10) * (I 8)) + ((A 1) (I 5).toNatClampNeg)) - (nI 48))) ((((nI 27).toInt64 * w) + ((A 1) (I 5).toNatClampNeg).toInt64) - (nI 96).toInt64) A N))))) (bC (C d 173 [.int ((A 1) (I 5).toNatClampNeg)] sl (RH I w A N)) (fun vs sl h => R (d + 1) 174 (263, [some (.ref 0), some (.int a1), some (.int a2), some (.int a3), some (.int ((A 1) (I 5).toNatClampNeg))], vs ++ [], sl, h)))) none) :=
  (R_gob [0, 127, 134, 202, 215, 223, 226, 237, 240, 263] 400 _ _ _).trans rfl
set_option maxRecDepth 100000 in
theorem m174_226_1 (d sl : Nat) (I : Nat → Int32) (w : Int64) (A : Nat → Nat → Int32) (N : Nat → Nat → Int64) (a1 : Int32) (a2 : Int32) (a3 : Int32) (a4 : Int32) (b0 : Int32) :
  R (d + 1) 174 (226, [some (.ref 0), some (.int a1), some (.int a2), some (.int a3), some (.int a4)], [.int b0], sl, (RH I w A N)) =
    cond (!decide (b0 = (nI 0))) (cond (x_in (I 5) 940) (cond (decide (a3 = (nI 0))) (cond (decide ((nI 7) ≤ ((I 5) - (I 6)))) (cond (decide ((nI 3) ≤ ((I 5) - (I 6)))) (R (d + 1) 174 (215, [some (.ref 0), some (.int a1), some (.int a2), some (.int (nI 0)), some (.int ((A 1) (I 5).toNatClampNeg))], [], sl, (RH (up1 I 5 ((I 5) + (nI 1))) w A N))) (R (d + 1) 174 (215, [some (.ref 0), some (.int a1), some (.int a2), some (.int (nI 0)), some (.int ((A 1) (I 5).toNatClampNeg))], [], sl, (RH (up1 (up1 I 5 ((I 5) + (nI 1))) 8 ((((nI 10) * (I 8)) + ((A 1) (I 5).toNatClampNeg)) - (nI 48))) w A N)))) (cond (decide ((nI 3) ≤ ((I 5) - (I 6)))) (R (d + 1) 174 (215, [some (.ref 0), some (.int a1), some (.int a2), some (.int (nI 0)), some (.int ((A 1) (I 5).toNatClampNeg))], [], sl, (RH (up1 I 5 ((I 5) + (nI 1))) ((((nI 27).toInt64 * w) + ((A 1) (I 5).toNatClampNeg).toInt64) - (nI 96).toInt64) A N))) (R (d + 1) 174 (215, [some (.ref 0), some (.int a1), some (.int a2), some (.int (nI 0)), some (.int ((A 1) (I 5).toNatClampNeg))], [], sl, (RH (up1 (up1 I 5 ((I 5) + (nI 1))) 8 ((((nI 10) * (I 8)) + ((A 1) (I 5).toNatClampNeg)) - (nI 48))) ((((nI 27).toInt64 * w) + ((A 1) (I 5).toNatClampNeg).toInt64) - (nI 96).toInt64) A N))))) (bC (C d 173 [.int ((A 1) (I 5).toNatClampNeg)] sl (RH I w A N)) (fun vs sl h => R (d + 1) 174 (263, [some (.ref 0), some (.int a1), some (.int a2), some (.int a3), some (.int ((A 1) (I 5).toNatClampNeg))], vs ++ [], sl, h)))) none) (bC (C d 171 [.ref 0, .int (I 5)] sl (RH I w A N)) (fun vs sl h => R (d + 1) 174 (237, [some (.ref 0), some (.int a1), some (.int a2), some (.int a3), some (.int a4)], vs ++ [], sl, h))) :=
  (R_gob [0, 127, 134, 202, 215, 223, 226, 237, 240, 263] 400 _ _ _).trans rfl
set_option maxRecDepth 100000 in
theorem m174_237_1 (d sl : Nat) (I : Nat → Int32) (w : Int64) (A : Nat → Nat → Int32) (N : Nat → Nat → Int64) (a1 : Int32) (a2 : Int32) (a3 : Int32) (a4 : Int32) (b0 : Int32) :
  R (d + 1) 174 (237, [some (.ref 0), some (.int a1), some (.int a2), some (.int a3), some (.int a4)], [.int b0], sl, (RH I w A N)) =
    bC (C d 172 [.int b0] sl (RH I w A N)) (fun vs sl h => R (d + 1) 174 (240, [some (.ref 0), some (.int a1), some (.int a2), some (.int a3), some (.int a4)], vs ++ [], sl, h)) :=
  (R_gob [0, 127, 134, 202, 215, 223, 226, 237, 240, 263] 400 _ _ _).trans rfl
set_option maxRecDepth 100000 in
theorem m174_240_1 (d sl : Nat) (I : Nat → Int32) (w : Int64) (A : Nat → Nat → Int32) (N : Nat → Nat → Int64) (a1 : Int32) (a2 : Int32) (a3 : Int32) (a4 : Int32) (b0 : Int32) :
  R (d + 1) 174 (240, [some (.ref 0), some (.int a1), some (.int a2), some (.int a3), some (.int a4)], [.int b0], sl, (RH I w A N)) =
    cond (decide (b0 = (nI 0))) (cond (decide (a3 = (nI 0))) (some (393, [some (.ref 0), some (.int a1), some (.int a2), some (.int a3), some (.int a4)], [], sl, (RH (up1 I 7 (nI 1)) w A N))) (cond (decide (a2 = (nI 0))) (cond (decide (((I 5) - (I 6)) ≤ (nI 3))) (cond (decide (a2 = (nI 0))) (some (393, [some (.ref 0), some (.int a1), some (.int a2), some (.int a3), some (.int a4)], [], sl, (RH (up1 I 7 (nI 3)) w A N))) (some (393, [some (.ref 0), some (.int a1), some (.int a2), some (.int a3), some (.int a4)], [], sl, (RH (up1 I 7 (nI 2)) w A N)))) (some (393, [some (.ref 0), some (.int a1), some (.int a2), some (.int a3), some (.int a4)], [], sl, (RH (up1 I 7 (nI 1)) w A N)))) (cond (decide (((I 5) - (I 6)) ≤ (nI 7))) (cond (decide (a2 = (nI 0))) (some (393, [some (.ref 0), some (.int a1), some (.int a2), some (.int a3), some (.int a4)], [], sl, (RH (up1 I 7 (nI 3)) w A N))) (some (393, [some (.ref 0), some (.int a1), some (.int a2), some (.int a3), some (.int a4)], [], sl, (RH (up1 I 7 (nI 2)) w A N)))) (some (393, [some (.ref 0), some (.int a1), some (.int a2), some (.int a3), some (.int a4)], [], sl, (RH (up1 I 7 (nI 1)) w A N)))))) (cond (x_in (I 5) 940) (cond (decide (a3 = (nI 0))) (cond (decide ((nI 7) ≤ ((I 5) - (I 6)))) (cond (decide ((nI 3) ≤ ((I 5) - (I 6)))) (R (d + 1) 174 (215, [some (.ref 0), some (.int a1), some (.int a2), some (.int (nI 0)), some (.int ((A 1) (I 5).toNatClampNeg))], [], sl, (RH (up1 I 5 ((I 5) + (nI 1))) w A N))) (R (d + 1) 174 (215, [some (.ref 0), some (.int a1), some (.int a2), some (.int (nI 0)), some (.int ((A 1) (I 5).toNatClampNeg))], [], sl, (RH (up1 (up1 I 5 ((I 5) + (nI 1))) 8 ((((nI 10) * (I 8)) + ((A 1) (I 5).toNatClampNeg)) - (nI 48))) w A N)))) (cond (decide ((nI 3) ≤ ((I 5) - (I 6)))) (R (d + 1) 174 (215, [some (.ref 0), some (.int a1), some (.int a2), some (.int (nI 0)), some (.int ((A 1) (I 5).toNatClampNeg))], [], sl, (RH (up1 I 5 ((I 5) + (nI 1))) ((((nI 27).toInt64 * w) + ((A 1) (I 5).toNatClampNeg).toInt64) - (nI 96).toInt64) A N))) (R (d + 1) 174 (215, [some (.ref 0), some (.int a1), some (.int a2), some (.int (nI 0)), some (.int ((A 1) (I 5).toNatClampNeg))], [], sl, (RH (up1 (up1 I 5 ((I 5) + (nI 1))) 8 ((((nI 10) * (I 8)) + ((A 1) (I 5).toNatClampNeg)) - (nI 48))) ((((nI 27).toInt64 * w) + ((A 1) (I 5).toNatClampNeg).toInt64) - (nI 96).toInt64) A N))))) (bC (C d 173 [.int ((A 1) (I 5).toNatClampNeg)] sl (RH I w A N)) (fun vs sl h => R (d + 1) 174 (263, [some (.ref 0), some (.int a1), some (.int a2), some (.int a3), some (.int ((A 1) (I 5).toNatClampNeg))], vs ++ [], sl, h)))) none) :=
  (R_gob [0, 127, 134, 202, 215, 223, 226, 237, 240, 263] 400 _ _ _).trans rfl
set_option maxRecDepth 100000 in
theorem m175_0 (d sl : Nat) (I : Nat → Int32) (w : Int64) (A : Nat → Nat → Int32) (N : Nat → Nat → Int64) (a0 : Int32) (a1 : Int32) (a2 : Int32) (a3 : Int32) (a4 : Int32) (a5 : Int32) (a6 : Int32) :
  R d 175 (0, [some (.int a0), some (.int a1), some (.int a2), some (.int a3), some (.int a4), some (.int a5), some (.int a6), none, none], [], sl, (RH I w A N)) =
    cond (decide (a2 ≤ (nI 0))) (cond (decide (a3 ≤ (nI 0))) (cond (decide (a4 ≤ (nI 0))) (cond (decide (a5 ≤ (nI 0))) (cond (decide (a6 ≤ (nI 0))) (some (122, [some (.int a0), some (.int a1), some (.int a2), some (.int a3), some (.int a4), some (.int a5), some (.int a6), some (.long ((((nI 27).toInt64 * (a0.toInt64 - (nI 96).toInt64)) + a1.toInt64) - (nI 96).toInt64)), none], [.long ((((nI 27).toInt64 * (a0.toInt64 - (nI 96).toInt64)) + a1.toInt64) - (nI 96).toInt64)], sl, (RH I w A N))) (some (122, [some (.int a0), some (.int a1), some (.int a2), some (.int a3), some (.int a4), some (.int a5), some (.int a6), some (.long ((((nI 27).toInt64 * ((((nI 27).toInt64 * (a0.toInt64 - (nI 96).toInt64)) + a1.toInt64) - (nI 96).toInt64)) + a6.toInt64) - (nI 96).toInt64)), none], [.long ((((nI 27).toInt64 * ((((nI 27).toInt64 * (a0.toInt64 - (nI 96).toInt64)) + a1.toInt64) - (nI 96).toInt64)) + a6.toInt64) - (nI 96).toInt64)], sl, (RH I w A N)))) (cond (decide (a6 ≤ (nI 0))) (some (122, [some (.int a0), some (.int a1), some (.int a2), some (.int a3), some (.int a4), some (.int a5), some (.int a6), some (.long ((((nI 27).toInt64 * ((((nI 27).toInt64 * (a0.toInt64 - (nI 96).toInt64)) + a1.toInt64) - (nI 96).toInt64)) + a5.toInt64) - (nI 96).toInt64)), none], [.long ((((nI 27).toInt64 * ((((nI 27).toInt64 * (a0.toInt64 - (nI 96).toInt64)) + a1.toInt64) - (nI 96).toInt64)) + a5.toInt64) - (nI 96).toInt64)], sl, (RH I w A N))) (some (122, [some (.int a0), some (.int a1), some (.int a2), some (.int a3), some (.int a4), some (.int a5), some (.int a6), some (.long ((((nI 27).toInt64 * ((((nI 27).toInt64 * ((((nI 27).toInt64 * (a0.toInt64 - (nI 96).toInt64)) + a1.toInt64) - (nI 96).toInt64)) + a5.toInt64) - (nI 96).toInt64)) + a6.toInt64) - (nI 96).toInt64)), none], [.long ((((nI 27).toInt64 * ((((nI 27).toInt64 * ((((nI 27).toInt64 * (a0.toInt64 - (nI 96).toInt64)) + a1.toInt64) - (nI 96).toInt64)) + a5.toInt64) - (nI 96).toInt64)) + a6.toInt64) - (nI 96).toInt64)], sl, (RH I w A N))))) (cond (decide (a5 ≤ (nI 0))) (cond (decide (a6 ≤ (nI 0))) (some (122, [some (.int a0), some (.int a1), some (.int a2), some (.int a3), some (.int a4), some (.int a5), some (.int a6), some (.long ((((nI 27).toInt64 * ((((nI 27).toInt64 * (a0.toInt64 - (nI 96).toInt64)) + a1.toInt64) - (nI 96).toInt64)) + a4.toInt64) - (nI 96).toInt64)), none], [.long ((((nI 27).toInt64 * ((((nI 27).toInt64 * (a0.toInt64 - (nI 96).toInt64)) + a1.toInt64) - (nI 96).toInt64)) + a4.toInt64) - (nI 96).toInt64)], sl, (RH I w A N))) (some (122, [some (.int a0), some (.int a1), some (.int a2), some (.int a3), some (.int a4), some (.int a5), some (.int a6), some (.long ((((nI 27).toInt64 * ((((nI 27).toInt64 * ((((nI 27).toInt64 * (a0.toInt64 - (nI 96).toInt64)) + a1.toInt64) - (nI 96).toInt64)) + a4.toInt64) - (nI 96).toInt64)) + a6.toInt64) - (nI 96).toInt64)), none], [.long ((((nI 27).toInt64 * ((((nI 27).toInt64 * ((((nI 27).toInt64 * (a0.toInt64 - (nI 96).toInt64)) + a1.toInt64) - (nI 96).toInt64)) + a4.toInt64) - (nI 96).toInt64)) + a6.toInt64) - (nI 96).toInt64)], sl, (RH I w A N)))) (cond (decide (a6 ≤ (nI 0))) (some (122, [some (.int a0), some (.int a1), some (.int a2), some (.int a3), some (.int a4), some (.int a5), some (.int a6), some (.long ((((nI 27).toInt64 * ((((nI 27).toInt64 * ((((nI 27).toInt64 * (a0.toInt64 - (nI 96).toInt64)) + a1.toInt64) - (nI 96).toInt64)) + a4.toInt64) - (nI 96).toInt64)) + a5.toInt64) - (nI 96).toInt64)), none], [.long ((((nI 27).toInt64 * ((((nI 27).toInt64 * ((((nI 27).toInt64 * (a0.toInt64 - (nI 96).toInt64)) + a1.toInt64) - (nI 96).toInt64)) + a4.toInt64) - (nI 96).toInt64)) + a5.toInt64) - (nI 96).toInt64)], sl, (RH I w A N))) (some (122, [some (.int a0), some (.int a1), some (.int a2), some (.int a3), some (.int a4), some (.int a5), some (.int a6), some (.long ((((nI 27).toInt64 * ((((nI 27).toInt64 * ((((nI 27).toInt64 * ((((nI 27).toInt64 * (a0.toInt64 - (nI 96).toInt64)) + a1.toInt64) - (nI 96).toInt64)) + a4.toInt64) - (nI 96).toInt64)) + a5.toInt64) - (nI 96).toInt64)) + a6.toInt64) - (nI 96).toInt64)), none], [.long ((((nI 27).toInt64 * ((((nI 27).toInt64 * ((((nI 27).toInt64 * ((((nI 27).toInt64 * (a0.toInt64 - (nI 96).toInt64)) + a1.toInt64) - (nI 96).toInt64)) + a4.toInt64) - (nI 96).toInt64)) + a5.toInt64) - (nI 96).toInt64)) + a6.toInt64) - (nI 96).toInt64)], sl, (RH I w A N)))))) (cond (decide (a4 ≤ (nI 0))) (cond (decide (a5 ≤ (nI 0))) (cond (decide (a6 ≤ (nI 0))) (some (122, [some (.int a0), some (.int a1), some (.int a2), some (.int a3), some (.int a4), some (.int a5), some (.int a6), some (.long ((((nI 27).toInt64 * ((((nI 27).toInt64 * (a0.toInt64 - (nI 96).toInt64)) + a1.toInt64) - (nI 96).toInt64)) + a3.toInt64) - (nI 96).toInt64)), none], [.long ((((nI 27).toInt64 * ((((nI 27).toInt64 * (a0.toInt64 - (nI 96).toInt64)) + a1.toInt64) - (nI 96).toInt64)) + a3.toInt64) - (nI 96).toInt64)], sl, (RH I w A N))) (some (122, [some (.int a0), some (.int a1), some (.int a2), some (.int a3), some (.int a4), some (.int a5), some (.int a6), some (.long ((((nI 27).toInt64 * ((((nI 27).toInt64 * ((((nI 27).toInt64 * (a0.toInt64 - (nI 96).toInt64)) + a1.toInt64) - (nI 96).toInt64)) + a3.toInt64) - (nI 96).toInt64)) + a6.toInt64) - (nI 96).toInt64)), none], [.long ((((nI 27).toInt64 * ((((nI 27).toInt64 * ((((nI 27).toInt64 * (a0.toInt64 - (nI 96).toInt64)) + a1.toInt64) - (nI 96).toInt64)) + a3.toInt64) - (nI 96).toInt64)) + a6.toInt64) - (nI 96).toInt64)], sl, (RH I w A N)))) (cond (decide (a6 ≤ (nI 0))) (some (122, [some (.int a0), some (.int a1), some (.int a2), some (.int a3), some (.int a4), some (.int a5), some (.int a6), some (.long ((((nI 27).toInt64 * ((((nI 27).toInt64 * ((((nI 27).toInt64 * (a0.toInt64 - (nI 96).toInt64)) + a1.toInt64) - (nI 96).toInt64)) + a3.toInt64) - (nI 96).toInt64)) + a5.toInt64) - (nI 96).toInt64)), none], [.long ((((nI 27).toInt64 * ((((nI 27).toInt64 * ((((nI 27).toInt64 * (a0.toInt64 - (nI 96).toInt64)) + a1.toInt64) - (nI 96).toInt64)) + a3.toInt64) - (nI 96).toInt64)) + a5.toInt64) - (nI 96).toInt64)], sl, (RH I w A N))) (some (122, [some (.int a0), some (.int a1), some (.int a2), some (.int a3), some (.int a4), some (.int a5), some (.int a6), some (.long ((((nI 27).toInt64 * ((((nI 27).toInt64 * ((((nI 27).toInt64 * ((((nI 27).toInt64 * (a0.toInt64 - (nI 96).toInt64)) + a1.toInt64) - (nI 96).toInt64)) + a3.toInt64) - (nI 96).toInt64)) + a5.toInt64) - (nI 96).toInt64)) + a6.toInt64) - (nI 96).toInt64)), none], [.long ((((nI 27).toInt64 * ((((nI 27).toInt64 * ((((nI 27).toInt64 * ((((nI 27).toInt64 * (a0.toInt64 - (nI 96).toInt64)) + a1.toInt64) - (nI 96).toInt64)) + a3.toInt64) - (nI 96).toInt64)) + a5.toInt64) - (nI 96).toInt64)) + a6.toInt64) - (nI 96).toInt64)], sl, (RH I w A N))))) (cond (decide (a5 ≤ (nI 0))) (cond (decide (a6 ≤ (nI 0))) (some (122, [some (.int a0), some (.int a1), some (.int a2), some (.int a3), some (.int a4), some (.int a5), some (.int a6), some (.long ((((nI 27).toInt64 * ((((nI 27).toInt64 * ((((nI 27).toInt64 * (a0.toInt64 - (nI 96).toInt64)) + a1.toInt64) - (nI 96).toInt64)) + a3.toInt64) - (nI 96).toInt64)) + a4.toInt64) - (nI 96).toInt64)), none], [.long ((((nI 27).toInt64 * ((((nI 27).toInt64 * ((((nI 27).toInt64 * (a0.toInt64 - (nI 96).toInt64)) + a1.toInt64) - (nI 96).toInt64)) + a3.toInt64) - (nI 96).toInt64)) + a4.toInt64) - (nI 96).toInt64)], sl, (RH I w A N))) (some (122, [some (.int a0), some (.int a1), some (.int a2), some (.int a3), some (.int a4), some (.int a5), some (.int a6), some (.long ((((nI 27).toInt64 * ((((nI 27).toInt64 * ((((nI 27).toInt64 * ((((nI 27).toInt64 * (a0.toInt64 - (nI 96).toInt64)) + a1.toInt64) - (nI 96).toInt64)) + a3.toInt64) - (nI 96).toInt64)) + a4.toInt64) - (nI 96).toInt64)) + a6.toInt64) - (nI 96).toInt64)), none], [.long ((((nI 27).toInt64 * ((((nI 27).toInt64 * ((((nI 27).toInt64 * ((((nI 27).toInt64 * (a0.toInt64 - (nI 96).toInt64)) + a1.toInt64) - (nI 96).toInt64)) + a3.toInt64) - (nI 96).toInt64)) + a4.toInt64) - (nI 96).toInt64)) + a6.toInt64) - (nI 96).toInt64)], sl, (RH I w A N)))) (cond (decide (a6 ≤ (nI 0))) (some (122, [some (.int a0), some (.int a1), some (.int a2), some (.int a3), some (.int a4), some (.int a5), some (.int a6), some (.long ((((nI 27).toInt64 * ((((nI 27).toInt64 * ((((nI 27).toInt64 * ((((nI 27).toInt64 * (a0.toInt64 - (nI 96).toInt64)) + a1.toInt64) - (nI 96).toInt64)) + a3.toInt64) - (nI 96).toInt64)) + a4.toInt64) - (nI 96).toInt64)) + a5.toInt64) - (nI 96).toInt64)), none], [.long ((((nI 27).toInt64 * ((((nI 27).toInt64 * ((((nI 27).toInt64 * ((((nI 27).toInt64 * (a0.toInt64 - (nI 96).toInt64)) + a1.toInt64) - (nI 96).toInt64)) + a3.toInt64) - (nI 96).toInt64)) + a4.toInt64) - (nI 96).toInt64)) + a5.toInt64) - (nI 96).toInt64)], sl, (RH I w A N))) (some (122, [some (.int a0), some (.int a1), some (.int a2), some (.int a3), some (.int a4), some (.int a5), some (.int a6), some (.long ((((nI 27).toInt64 * ((((nI 27).toInt64 * ((((nI 27).toInt64 * ((((nI 27).toInt64 * ((((nI 27).toInt64 * (a0.toInt64 - (nI 96).toInt64)) + a1.toInt64) - (nI 96).toInt64)) + a3.toInt64) - (nI 96).toInt64)) + a4.toInt64) - (nI 96).toInt64)) + a5.toInt64) - (nI 96).toInt64)) + a6.toInt64) - (nI 96).toInt64)), none], [.long ((((nI 27).toInt64 * ((((nI 27).toInt64 * ((((nI 27).toInt64 * ((((nI 27).toInt64 * ((((nI 27).toInt64 * (a0.toInt64 - (nI 96).toInt64)) + a1.toInt64) - (nI 96).toInt64)) + a3.toInt64) - (nI 96).toInt64)) + a4.toInt64) - (nI 96).toInt64)) + a5.toInt64) - (nI 96).toInt64)) + a6.toInt64) - (nI 96).toInt64)], sl, (RH I w A N))))))) (cond (decide (a3 ≤ (nI 0))) (cond (decide (a4 ≤ (nI 0))) (cond (decide (a5 ≤ (nI 0))) (cond (decide (a6 ≤ (nI 0))) (some (122, [some (.int a0), some (.int a1), some (.int a2), some (.int a3), some (.int a4), some (.int a5), some (.int a6), some (.long ((((nI 27).toInt64 * ((((nI 27).toInt64 * (a0.toInt64 - (nI 96).toInt64)) + a1.toInt64) - (nI 96).toInt64)) + a2.toInt64) - (nI 96).toInt64)), none], [.long ((((nI 27).toInt64 * ((((nI 27).toInt64 * (a0.toInt64 - (nI 96).toInt64)) + a1.toInt64) - (nI 96).toInt64)) + a2.toInt64) - (nI 96).toInt64)], sl, (RH I w A N))) (some (122, [some (.int a0), some (.int a1), some (.int a2), some (.int a3), some (.int a4), some (.int a5), some (.int a6), some (.long ((((nI 27).toInt64 * ((((nI 27).toInt64 * ((((nI 27).toInt64 * (a0.toInt64 - (nI 96).toInt64)) + a1.toInt64) - (nI 96).toInt64)) + a2.toInt64) - (nI 96).toInt64)) + a6.toInt64) - (nI 96).toInt64)), none], [.long ((((nI 27).toInt64 * ((((nI 27).toInt64 * ((((nI 27).toInt64 * (a0.toInt64 - (nI 96).toInt64)) + a1.toInt64) - (nI 96).toInt64)) + a2.toInt64) - (nI 96).toInt64)) + a6.toInt64) - (nI 96).toInt64)], sl, (RH I w A N)))) (cond (decide (a6 ≤ (nI 0))) (some (122, [some (.int a0), some (.int a1), some (.int a2), some (.int a3), some (.int a4), some (.int a5), some (.int a6), some (.long ((((nI 27).toInt64 * ((((nI 27).toInt64 * ((((nI 27).toInt64 * (a0.toInt64 - (nI 96).toInt64)) + a1.toInt64) - (nI 96).toInt64)) + a2.toInt64) - (nI 96).toInt64)) + a5.toInt64) - (nI 96).toInt64)), none], [.long ((((nI 27).toInt64 * ((((nI 27).toInt64 * ((((nI 27).toInt64 * (a0.toInt64 - (nI 96).toInt64)) + a1.toInt64) - (nI 96).toInt64)) + a2.toInt64) - (nI 96).toInt64)) + a5.toInt64) - (nI 96).toInt64)], sl, (RH I w A N))) (some (122, [some (.int a0), some (.int a1), some (.int a2), some (.int a3), some (.int a4), some (.int a5), some (.int a6), some (.long ((((nI 27).toInt64 * ((((nI 27).toInt64 * ((((nI 27).toInt64 * ((((nI 27).toInt64 * (a0.toInt64 - (nI 96).toInt64)) + a1.toInt64) - (nI 96).toInt64)) + a2.toInt64) - (nI 96).toInt64)) + a5.toInt64) - (nI 96).toInt64)) + a6.toInt64) - (nI 96).toInt64)), none], [.long ((((nI 27).toInt64 * ((((nI 27).toInt64 * ((((nI 27).toInt64 * ((((nI 27).toInt64 * (a0.toInt64 - (nI 96).toInt64)) + a1.toInt64) - (nI 96).toInt64)) + a2.toInt64) - (nI 96).toInt64)) + a5.toInt64) - (nI 96).toInt64)) + a6.toInt64) - (nI 96).toInt64)], sl, (RH I w A N))))) (cond (decide (a5 ≤ (nI 0))) (cond (decide (a6 ≤ (nI 0))) (some (122, [some (.int a0), some (.int a1), some (.int a2), some (.int a3), some (.int a4), some (.int a5), some (.int a6), some (.long ((((nI 27).toInt64 * ((((nI 27).toInt64 * ((((nI 27).toInt64 * (a0.toInt64 - (nI 96).toInt64)) + a1.toInt64) - (nI 96).toInt64)) + a2.toInt64) - (nI 96).toInt64)) + a4.toInt64) - (nI 96).toInt64)), none], [.long ((((nI 27).toInt64 * ((((nI 27).toInt64 * ((((nI 27).toInt64 * (a0.toInt64 - (nI 96).toInt64)) + a1.toInt64) - (nI 96).toInt64)) + a2.toInt64) - (nI 96).toInt64)) + a4.toInt64) - (nI 96).toInt64)], sl, (RH I w A N))) (some (122, [some (.int a0), some (.int a1), some (.int a2), some (.int a3), some (.int a4), some (.int a5), some (.int a6), some (.long ((((nI 27).toInt64 * ((((nI 27).toInt64 * ((((nI 27).toInt64 * ((((nI 27).toInt64 * (a0.toInt64 - (nI 96).toInt64)) + a1.toInt64) - (nI 96).toInt64)) + a2.toInt64) - (nI 96).toInt64)) + a4.toInt64) - (nI 96).toInt64)) + a6.toInt64) - (nI 96).toInt64)), none], [.long ((((nI 27).toInt64 * ((((nI 27).toInt64 * ((((nI 27).toInt64 * ((((nI 27).toInt64 * (a0.toInt64 - (nI 96).toInt64)) + a1.toInt64) - (nI 96).toInt64)) + a2.toInt64) - (nI 96).toInt64)) + a4.toInt64) - (nI 96).toInt64)) + a6.toInt64) - (nI 96).toInt64)], sl, (RH I w A N)))) (cond (decide (a6 ≤ (nI 0))) (some (122, [some (.int a0), some (.int a1), some (.int a2), some (.int a3), some (.int a4), some (.int a5), some (.int a6), some (.long ((((nI 27).toInt64 * ((((nI 27).toInt64 * ((((nI 27).toInt64 * ((((nI 27).toInt64 * (a0.toInt64 - (nI 96).toInt64)) + a1.toInt64) - (nI 96).toInt64)) + a2.toInt64) - (nI 96).toInt64)) + a4.toInt64) - (nI 96).toInt64)) + a5.toInt64) - (nI 96).toInt64)), none], [.long ((((nI 27).toInt64 * ((((nI 27).toInt64 * ((((nI 27).toInt64 * ((((nI 27).toInt64 * (a0.toInt64 - (nI 96).toInt64)) + a1.toInt64) - (nI 96).toInt64)) + a2.toInt64) - (nI 96).toInt64)) + a4.toInt64) - (nI 96).toInt64)) + a5.toInt64) - (nI 96).toInt64)], sl, (RH I w A N))) (some (122, [some (.int a0), some (.int a1), some (.int a2), some (.int a3), some (.int a4), some (.int a5), some (.int a6), some (.long ((((nI 27).toInt64 * ((((nI 27).toInt64 * ((((nI 27).toInt64 * ((((nI 27).toInt64 * ((((nI 27).toInt64 * (a0.toInt64 - (nI 96).toInt64)) + a1.toInt64) - (nI 96).toInt64)) + a2.toInt64) - (nI 96).toInt64)) + a4.toInt64) - (nI 96).toInt64)) + a5.toInt64) - (nI 96).toInt64)) + a6.toInt64) - (nI 96).toInt64)), none], [.long ((((nI 27).toInt64 * ((((nI 27).toInt64 * ((((nI 27).toInt64 * ((((nI 27).toInt64 * ((((nI 27).toInt64 * (a0.toInt64 - (nI 96).toInt64)) + a1.toInt64) - (nI 96).toInt64)) + a2.toInt64) - (nI 96).toInt64)) + a4.toInt64) - (nI 96).toInt64)) + a5.toInt64) - (nI 96).toInt64)) + a6.toInt64) - (nI 96).toInt64)], sl, (RH I w A N)))))) (cond (decide (a4 ≤ (nI 0))) (cond (decide (a5 ≤ (nI 0))) (cond (decide (a6 ≤ (nI 0))) (some (122, [some (.int a0), some (.int a1), some (.int a2), some (.int a3), some (.int a4), some (.int a5), some (.int a6), some (.long ((((nI 27).toInt64 * ((((nI 27).toInt64 * ((((nI 27).toInt64 * (a0.toInt64 - (nI 96).toInt64)) + a1.toInt64) - (nI 96).toInt64)) + a2.toInt64) - (nI 96).toInt64)) + a3.toInt64) - (nI 96).toInt64)), none], [.long ((((nI 27).toInt64 * ((((nI 27).toInt64 * ((((nI 27).toInt64 * (a0.toInt64 - (nI 96).toInt64)) + a1.toInt64) - (nI 96).toInt64)) + a2.toInt64) - (nI 96).toInt64)) + a3.toInt64) - (nI 96).toInt64)], sl, (RH I w A N))) (some (122, [some (.int a0), some (.int a1), some (.int a2), some (.int a3), some (.int a4), some (.int a5), some (.int a6), some (.long ((((nI 27).toInt64 * ((((nI 27).toInt64 * ((((nI 27).toInt64 * ((((nI 27).toInt64 * (a0.toInt64 - (nI 96).toInt64)) + a1.toInt64) - (nI 96).toInt64)) + a2.toInt64) - (nI 96).toInt64)) + a3.toInt64) - (nI 96).toInt64)) + a6.toInt64) - (nI 96).toInt64)), none], [.long ((((nI 27).toInt64 * ((((nI 27).toInt64 * ((((nI 27).toInt64 * ((((nI 27).toInt64 * (a0.toInt64 - (nI 96).toInt64)) + a1.toInt64) - (nI 96).toInt64)) + a2.toInt64) - (nI 96).toInt64)) + a3.toInt64) - (nI 96).toInt64)) + a6.toInt64) - (nI 96).toInt64)], sl, (RH I w A N)))) (cond (decide (a6 ≤ (nI 0))) (some (122, [some (.int a0), some (.int a1), some (.int a2), some (.int a3), some (.int a4), some (.int a5), some (.int a6), some (.long ((((nI 27).toInt64 * ((((nI 27).toInt64 * ((((nI 27).toInt64 * ((((nI 27).toInt64 * (a0.toInt64 - (nI 96).toInt64)) + a1.toInt64) - (nI 96).toInt64)) + a2.toInt64) - (nI 96).toInt64)) + a3.toInt64) - (nI 96).toInt64)) + a5.toInt64) - (nI 96).toInt64)), none], [.long ((((nI 27).toInt64 * ((((nI 27).toInt64 * ((((nI 27).toInt64 * ((((nI 27).toInt64 * (a0.toInt64 - (nI 96).toInt64)) + a1.toInt64) - (nI 96).toInt64)) + a2.toInt64) - (nI 96).toInt64)) + a3.toInt64) - (nI 96).toInt64)) + a5.toInt64) - (nI 96).toInt64)], sl, (RH I w A N))) (some (122, [some (.int a0), some (.int a1), some (.int a2), some (.int a3), some (.int a4), some (.int a5), some (.int a6), some (.long ((((nI 27).toInt64 * ((((nI 27).toInt64 * ((((nI 27).toInt64 * ((((nI 27).toInt64 * ((((nI 27).toInt64 * (a0.toInt64 - (nI 96).toInt64)) + a1.toInt64) - (nI 96).toInt64)) + a2.toInt64) - (nI 96).toInt64)) + a3.toInt64) - (nI 96).toInt64)) + a5.toInt64) - (nI 96).toInt64)) + a6.toInt64) - (nI 96).toInt64)), none], [.long ((((nI 27).toInt64 * ((((nI 27).toInt64 * ((((nI 27).toInt64 * ((((nI 27).toInt64 * ((((nI 27).toInt64 * (a0.toInt64 - (nI 96).toInt64)) + a1.toInt64) - (nI 96).toInt64)) + a2.toInt64) - (nI 96).toInt64)) + a3.toInt64) - (nI 96).toInt64)) + a5.toInt64) - (nI 96).toInt64)) + a6.toInt64) - (nI 96).toInt64)], sl, (RH I w A N))))) (cond (decide (a5 ≤ (nI 0))) (cond (decide (a6 ≤ (nI 0))) (some (122, [some (.int a0), some (.int a1), some (.int a2), some (.int a3), some (.int a4), some (.int a5), some (.int a6), some (.long ((((nI 27).toInt64 * ((((nI 27).toInt64 * ((((nI 27).toInt64 * ((((nI 27).toInt64 * (a0.toInt64 - (nI 96).toInt64)) + a1.toInt64) - (nI 96).toInt64)) + a2.toInt64) - (nI 96).toInt64)) + a3.toInt64) - (nI 96).toInt64)) + a4.toInt64) - (nI 96).toInt64)), none], [.long ((((nI 27).toInt64 * ((((nI 27).toInt64 * ((((nI 27).toInt64 * ((((nI 27).toInt64 * (a0.toInt64 - (nI 96).toInt64)) + a1.toInt64) - (nI 96).toInt64)) + a2.toInt64) - (nI 96).toInt64)) + a3.toInt64) - (nI 96).toInt64)) + a4.toInt64) - (nI 96).toInt64)], sl, (RH I w A N))) (some (122, [some (.int a0), some (.int a1), some (.int a2), some (.int a3), some (.int a4), some (.int a5), some (.int a6), some (.long ((((nI 27).toInt64 * ((((nI 27).toInt64 * ((((nI 27).toInt64 * ((((nI 27).toInt64 * ((((nI 27).toInt64 * (a0.toInt64 - (nI 96).toInt64)) + a1.toInt64) - (nI 96).toInt64)) + a2.toInt64) - (nI 96).toInt64)) + a3.toInt64) - (nI 96).toInt64)) + a4.toInt64) - (nI 96).toInt64)) + a6.toInt64) - (nI 96).toInt64)), none], [.long ((((nI 27).toInt64 * ((((nI 27).toInt64 * ((((nI 27).toInt64 * ((((nI 27).toInt64 * ((((nI 27).toInt64 * (a0.toInt64 - (nI 96).toInt64)) + a1.toInt64) - (nI 96).toInt64)) + a2.toInt64) - (nI 96).toInt64)) + a3.toInt64) - (nI 96).toInt64)) + a4.toInt64) - (nI 96).toInt64)) + a6.toInt64) - (nI 96).toInt64)], sl, (RH I w A N)))) (cond (decide (a6 ≤ (nI 0))) (some (122, [some (.int a0), some (.int a1), some (.int a2), some (.int a3), some (.int a4), some (.int a5), some (.int a6), some (.long ((((nI 27).toInt64 * ((((nI 27).toInt64 * ((((nI 27).toInt64 * ((((nI 27).toInt64 * ((((nI 27).toInt64 * (a0.toInt64 - (nI 96).toInt64)) + a1.toInt64) - (nI 96).toInt64)) + a2.toInt64) - (nI 96).toInt64)) + a3.toInt64) - (nI 96).toInt64)) + a4.toInt64) - (nI 96).toInt64)) + a5.toInt64) - (nI 96).toInt64)), none], [.long ((((nI 27).toInt64 * ((((nI 27).toInt64 * ((((nI 27).toInt64 * ((((nI 27).toInt64 * ((((nI 27).toInt64 * (a0.toInt64 - (nI 96).toInt64)) + a1.toInt64) - (nI 96).toInt64)) + a2.toInt64) - (nI 96).toInt64)) + a3.toInt64) - (nI 96).toInt64)) + a4.toInt64) - (nI 96).toInt64)) + a5.toInt64) - (nI 96).toInt64)], sl, (RH I w A N))) (some (122, [some (.int a0), some (.int a1), some (.int a2), some (.int a3), some (.int a4), some (.int a5), some (.int a6), some (.long ((((nI 27).toInt64 * ((((nI 27).toInt64 * ((((nI 27).toInt64 * ((((nI 27).toInt64 * ((((nI 27).toInt64 * ((((nI 27).toInt64 * (a0.toInt64 - (nI 96).toInt64)) + a1.toInt64) - (nI 96).toInt64)) + a2.toInt64) - (nI 96).toInt64)) + a3.toInt64) - (nI 96).toInt64)) + a4.toInt64) - (nI 96).toInt64)) + a5.toInt64) - (nI 96).toInt64)) + a6.toInt64) - (nI 96).toInt64)), none], [.long ((((nI 27).toInt64 * ((((nI 27).toInt64 * ((((nI 27).toInt64 * ((((nI 27).toInt64 * ((((nI 27).toInt64 * ((((nI 27).toInt64 * (a0.toInt64 - (nI 96).toInt64)) + a1.toInt64) - (nI 96).toInt64)) + a2.toInt64) - (nI 96).toInt64)) + a3.toInt64) - (nI 96).toInt64)) + a4.toInt64) - (nI 96).toInt64)) + a5.toInt64) - (nI 96).toInt64)) + a6.toInt64) - (nI 96).toInt64)], sl, (RH I w A N))))))) :=
  (R_gob [] 400 _ _ _).trans rfl
set_option maxRecDepth 100000 in
theorem m176_0 (d sl : Nat) (I : Nat → Int32) (w : Int64) (A : Nat → Nat → Int32) (N : Nat → Nat → Int64) (a0 : Int32) :
  R (d + 1) 176 (0, [some (.int a0)], [], sl, (RH I w A N)) =
    R (d + 1) 176 (1, [some (.int a0)], [.int a0], sl, (RH I w A N)) :=
  (R_gob [1, 111, 126, 142, 156, 174, 189, 207, 223, 238, 251, 265, 279, 294, 310, 325, 342, 357, 373, 389, 406, 423] 400 _ _ _).trans rfl
set_option maxRecDepth 100000 in
theorem m176_1_out (d sl : Nat) (I : Nat → Int32) (w : Int64) (A : Nat → Nat → Int32) (N : Nat → Nat → Int64) (a0 : Int32) (x : Int32) (hx : (decide (x.toInt < (0)) || decide ((19) < x.toInt)) = true) :
  R (d + 1) 176 (1, [some (.int a0)], .int x :: [], sl, (RH I w A N)) = R (d + 1) 176 (407, [some (.int a0)], [], sl, (RH I w A N)) :=
  (R_tsw (show xk 176 1 = (.tableswitch 406 0 19 #[95, 111, 126, 142, 156, 174, 189, 207, 223, 238, 251, 265, 279, 294, 310, 325, 342, 357, 373, 389], 96, [], 0) by decide +kernel)).trans (congrArg (fun q => R (d + 1) 176 (q, [some (.int a0)], [], sl, (RH I w A N))) ((x_tsw_out hx).trans (by decide +kernel)))
set_option maxRecDepth 100000 in
theorem m176_1_c0 (d sl : Nat) (I : Nat → Int32) (w : Int64) (A : Nat → Nat → Int32) (N : Nat → Nat → Int64) (a0 : Int32)  :
  R (d + 1) 176 (1, [some (.int a0)], .int (nI 0) :: [], sl, (RH I w A N)) = R (d + 1) 176 (96, [some (.int a0)], [], sl, (RH I w A N)) :=
  (R_tsw (show xk 176 1 = (.tableswitch 406 0 19 #[95, 111, 126, 142, 156, 174, 189, 207, 223, 238, 251, 265, 279, 294, 310, 325, 342, 357, 373, 389], 96, [], 0) by decide +kernel)).trans (congrArg (fun q => R (d + 1) 176 (q, [some (.int a0)], [], sl, (RH I w A N))) (by decide +kernel))
set_option maxRecDepth 100000 in
theorem m176_1_c1 (d sl : Nat) (I : Nat → Int32) (w : Int64) (A : Nat → Nat → Int32) (N : Nat → Nat → Int64) (a0 : Int32)  :
  R (d + 1) 176 (1, [some (.int a0)], .int (nI 1) :: [], sl, (RH I w A N)) = R (d + 1) 176 (112, [some (.int a0)], [], sl, (RH I w A N)) :=
  (R_tsw (show xk 176 1 = (.tableswitch 406 0 19 #[95, 111, 126, 142, 156, 174, 189, 207, 223, 238, 251, 265, 279, 294, 310, 325, 342, 357, 373, 389], 96, [], 0) by decide +kernel)).trans (congrArg (fun q => R (d + 1) 176 (q, [some (.int a0)], [], sl, (RH I w A N))) (by decide +kernel))
set_option maxRecDepth 100000 in
theorem m176_1_c2 (d sl : Nat) (I : Nat → Int32) (w : Int64) (A : Nat → Nat → Int32) (N : Nat → Nat → Int64) (a0 : Int32)  :
  R (d + 1) 176 (1, [some (.int a0)], .int (nI 2) :: [], sl, (RH I w A N)) = R (d + 1) 176 (127, [some (.int a0)], [], sl, (RH I w A N)) :=
  (R_tsw (show xk 176 1 = (.tableswitch 406 0 19 #[95, 111, 126, 142, 156, 174, 189, 207, 223, 238, 251, 265, 279, 294, 310, 325, 342, 357, 373, 389], 96, [], 0) by decide +kernel)).trans (congrArg (fun q => R (d + 1) 176 (q, [some (.int a0)], [], sl, (RH I w A N))) (by decide +kernel))
set_option maxRecDepth 100000 in
theorem m176_1_c3 (d sl : Nat) (I : Nat → Int32) (w : Int64) (A : Nat → Nat → Int32) (N : Nat → Nat → Int64) (a0 : Int32)  :
  R (d + 1) 176 (1, [some (.int a0)], .int (nI 3) :: [], sl, (RH I w A N)) = R (d + 1) 176 (143, [some (.int a0)], [], sl, (RH I w A N)) :=
  (R_tsw (show xk 176 1 = (.tableswitch 406 0 19 #[95, 111, 126, 142, 156, 174, 189, 207, 223, 238, 251, 265, 279, 294, 310, 325, 342, 357, 373, 389], 96, [], 0) by decide +kernel)).trans (congrArg (fun q => R (d + 1) 176 (q, [some (.int a0)], [], sl, (RH I w A N))) (by decide +kernel))
set_option maxRecDepth 100000 in
theorem m176_1_c4 (d sl : Nat) (I : Nat → Int32) (w : Int64) (A : Nat → Nat → Int32) (N : Nat → Nat → Int64) (a0 : Int32)  :
  R (d + 1) 176 (1, [some (.int a0)], .int (nI 4) :: [], sl, (RH I w A N)) = R (d + 1) 176 (157, [some (.int a0)], [], sl, (RH I w A N)) :=
  (R_tsw (show xk 176 1 = (.tableswitch 406 0 19 #[95, 111, 126, 142, 156, 174, 189, 207, 223, 238, 251, 265, 279, 294, 310, 325, 342, 357, 373, 389], 96, [], 0) by decide +kernel)).trans (congrArg (fun q => R (d + 1) 176 (q, [some (.int a0)], [], sl, (RH I w A N))) (by decide +kernel))
set_option maxRecDepth 100000 in
theorem m176_1_c5 (d sl : Nat) (I : Nat → Int32) (w : Int64) (A : Nat → Nat → Int32) (N : Nat → Nat → Int64) (a0 : Int32)  :
  R (d + 1) 176 (1, [some (.int a0)], .int (nI 5) :: [], sl, (RH I w A N)) = R (d + 1) 176 (175, [some (.int a0)], [], sl, (RH I w A N)) :=
  (R_tsw (show xk 176 1 = (.tableswitch 406 0 19 #[95, 111, 126, 142, 156, 174, 189, 207, 223, 238, 251, 265, 279, 294, 310, 325, 342, 357, 373, 389], 96, [], 0) by decide +kernel)).trans (congrArg (fun q => R (d + 1) 176 (q, [some (.int a0)], [], sl, (RH I w A N))) (by decide +kernel))
set_option maxRecDepth 100000 in
theorem m176_1_c6 (d sl : Nat) (I : Nat → Int32) (w : Int64) (A : Nat → Nat → Int32) (N : Nat → Nat → Int64) (a0 : Int32)  :
  R (d + 1) 176 (1, [some (.int a0)], .int (nI 6) :: [], sl, (RH I w A N)) = R (d + 1) 176 (190, [some (.int a0)], [], sl, (RH I w A N)) :=
  (R_tsw (show xk 176 1 = (.tableswitch 406 0 19 #[95, 111, 126, 142, 156, 174, 189, 207, 223, 238, 251, 265, 279, 294, 310, 325, 342, 357, 373, 389], 96, [], 0) by decide +kernel)).trans (congrArg (fun q => R (d + 1) 176 (q, [some (.int a0)], [], sl, (RH I w A N))) (by decide +kernel))
set_option maxRecDepth 100000 in
theorem m176_1_c7 (d sl : Nat) (I : Nat → Int32) (w : Int64) (A : Nat → Nat → Int32) (N : Nat → Nat → Int64) (a0 : Int32)  :
  R (d + 1) 176 (1, [some (.int a0)], .int (nI 7) :: [], sl, (RH I w A N)) = R (d + 1) 176 (208, [some (.int a0)], [], sl, (RH I w A N)) :=
  (R_tsw (show xk 176 1 = (.tableswitch 406 0 19 #[95, 111, 126, 142, 156, 174, 189, 207, 223, 238, 251, 265, 279, 294, 310, 325, 342, 357, 373, 389], 96, [], 0) by decide +kernel)).trans (congrArg (fun q => R (d + 1) 176 (q, [some (.int a0)], [], sl, (RH I w A N))) (by decide +kernel))
set_option maxRecDepth 100000 in
theorem m176_1_c8 (d sl : Nat) (I : Nat → Int32) (w : Int64) (A : Nat → Nat → Int32) (N : Nat → Nat → Int64) (a0 : Int32)  :
  R (d + 1) 176 (1, [some (.int a0)], .int (nI 8) :: [], sl, (RH I w A N)) = R (d + 1) 176 (224, [some (.int a0)], [], sl, (RH I w A N)) :=
  (R_tsw (show xk 176 1 = (.tableswitch 406 0 19 #[95, 111, 126, 142, 156, 174, 189, 207, 223, 238, 251, 265, 279, 294, 310, 325, 342, 357, 373, 389], 96, [], 0) by decide +kernel)).trans (congrArg (fun q => R (d + 1) 176 (q, [some (.int a0)], [], sl, (RH I w A N))) (by decide +kernel))
set_option maxRecDepth 100000 in
theorem m176_1_c9 (d sl : Nat) (I : Nat → Int32) (w : Int64) (A : Nat → Nat → Int32) (N : Nat → Nat → Int64) (a0 : Int32)  :
  R (d + 1) 176 (1, [some (.int a0)], .int (nI 9) :: [], sl, (RH I w A N)) = R (d + 1) 176 (239, [some (.int a0)], [], sl, (RH I w A N)) :=
  (R_tsw (show xk 176 1 = (.tableswitch 406 0 19 #[95, 111, 126, 142, 156, 174, 189, 207, 223, 238, 251, 265, 279, 294, 310, 325, 342, 357, 373, 389], 96, [], 0) by decide +kernel)).trans (congrArg (fun q => R (d + 1) 176 (q, [some (.int a0)], [], sl, (RH I w A N))) (by decide +kernel))
set_option maxRecDepth 100000 in
theorem m176_1_c10 (d sl : Nat) (I : Nat → Int32) (w : Int64) (A : Nat → Nat → Int32) (N : Nat → Nat → Int64) (a0 : Int32)  :
  R (d + 1) 176 (1, [some (.int a0)], .int (nI 10) :: [], sl, (RH I w A N)) = R (d + 1) 176 (252, [some (.int a0)], [], sl, (RH I w A N)) :=
  (R_tsw (show xk 176 1 = (.tableswitch 406 0 19 #[95, 111, 126, 142, 156, 174, 189, 207, 223, 238, 251, 265, 279, 294, 310, 325, 342, 357, 373, 389], 96, [], 0) by decide +kernel)).trans (congrArg (fun q => R (d + 1) 176 (q, [some (.int a0)], [], sl, (RH I w A N))) (by decide +kernel))
set_option maxRecDepth 100000 in
theorem m176_1_c11 (d sl : Nat) (I : Nat → Int32) (w : Int64) (A : Nat → Nat → Int32) (N : Nat → Nat → Int64) (a0 : Int32)  :
  R (d + 1) 176 (1, [some (.int a0)], .int (nI 11) :: [], sl, (RH I w A N)) = R (d + 1) 176 (266, [some (.int a0)], [], sl, (RH I w A N)) :=
  (R_tsw (show xk 176 1 = (.tableswitch 406 0 19 #[95, 111, 126, 142, 156, 174, 189, 207, 223, 238, 251, 265, 279, 294, 310, 325, 342, 357, 373, 389], 96, [], 0) by decide +kernel)).trans (congrArg (fun q => R (d + 1) 176 (q, [some (.int a0)], [], sl, (RH I w A N))) (by decide +kernel))
set_option maxRecDepth 100000 in
theorem m176_1_c12 (d sl : Nat) (I : Nat → Int32) (w : Int64) (A : Nat → Nat → Int32) (N : Nat → Nat → Int64) (a0 : Int32)  :
  R (d + 1) 176 (1, [some (.int a0)], .int (nI 12) :: [], sl, (RH I w A N)) = R (d + 1) 176 (280, [some (.int a0)], [], sl, (RH I w A N)) :=
  (R_tsw (show xk 176 1 = (.tableswitch 406 0 19 #[95, 111, 126, 142, 156, 174, 189, 207, 223, 238, 251, 265, 279, 294, 310, 325, 342, 357, 373, 389], 96, [], 0) by decide +kernel)).trans (congrArg (fun q => R (d + 1) 176 (q, [some (.int a0)], [], sl, (RH I w A N))) (by decide +kernel))
set_option maxRecDepth 100000 in
theorem m176_1_c13 (d sl : Nat) (I : Nat → Int32) (w : Int64) (A : Nat → Nat → Int32) (N : Nat → Nat → Int64) (a0 : Int32)  :
  R (d + 1) 176 (1, [some (.int a0)], .int (nI 13) :: [], sl, (RH I w A N)) = R (d + 1) 176 (295, [some (.int a0)], [], sl, (RH I w A N)) :=
  (R_tsw (show xk 176 1 = (.tableswitch 406 0 19 #[95, 111, 126, 142, 156, 174, 189, 207, 223, 238, 251, 265, 279, 294, 310, 325, 342, 357, 373, 389], 96, [], 0) by decide +kernel)).trans (congrArg (fun q => R (d + 1) 176 (q, [some (.int a0)], [], sl, (RH I w A N))) (by decide +kernel))
set_option maxRecDepth 100000 in
theorem m176_1_c14 (d sl : Nat) (I : Nat → Int32) (w : Int64) (A : Nat → Nat → Int32) (N : Nat → Nat → Int64) (a0 : Int32)  :
  R (d + 1) 176 (1, [some (.int a0)], .int (nI 14) :: [], sl, (RH I w A N)) = R (d + 1) 176 (311, [some (.int a0)], [], sl, (RH I w A N)) :=
  (R_tsw (show xk 176 1 = (.tableswitch 406 0 19 #[95, 111, 126, 142, 156, 174, 189, 207, 223, 238, 251, 265, 279, 294, 310, 325, 342, 357, 373, 389], 96, [], 0) by decide +kernel)).trans (congrArg (fun q => R (d + 1) 176 (q, [some (.int a0)], [], sl, (RH I w A N))) (by decide +kernel))
set_option maxRecDepth 100000 in
theorem m176_1_c15 (d sl : Nat) (I : Nat → Int32) (w : Int64) (A : Nat → Nat → Int32) (N : Nat → Nat → Int64) (a0 : Int32)  :
  R (d + 1) 176 (1, [some (.int a0)], .int (nI 15) :: [], sl, (RH I w A N)) = R (d + 1) 176 (326, [some (.int a0)], [], sl, (RH I w A N)) :=
  (R_tsw (show xk 176 1 = (.tableswitch 406 0 19 #[95, 111, 126, 142, 156, 174, 189, 207, 223, 238, 251, 265, 279, 294, 310, 325, 342, 357, 373, 389], 96, [], 0) by decide +kernel)).trans (congrArg (fun q => R (d + 1) 176 (q, [some (.int a0)], [], sl, (RH I w A N))) (by decide +kernel))
set_option maxRecDepth 100000 in
theorem m176_1_c16 (d sl : Nat) (I : Nat → Int32) (w : Int64) (A : Nat → Nat → Int32) (N : Nat → Nat → Int64) (a0 : Int32)  :
  R (d + 1) 176 (1, [some (.int a0)], .int (nI 16) :: [], sl, (RH I w A N)) = R (d + 1) 176 (343, [some (.int a0)], [], sl, (RH I w A N)) :=
  (R_tsw (show xk 176 1 = (.tableswitch 406 0 19 #[95, 111, 126, 142, 156, 174, 189, 207, 223, 238, 251, 265, 279, 294, 310, 325, 342, 357, 373, 389], 96, [], 0) by decide +kernel)).trans (congrArg (fun q => R (d + 1) 176 (q, [some (.int a0)], [], sl, (RH I w A N))) (by decide +kernel))
set_option maxRecDepth 100000 in
theorem m176_1_c17 (d sl : Nat) (I : Nat → Int32) (w : Int64) (A : Nat → Nat → Int32) (N : Nat → Nat → Int64) (a0 : Int32)  :
  R (d + 1) 176 (1, [some (.int a0)], .int (nI 17) :: [], sl, (RH I w A N)) = R (d + 1) 176 (358, [some (.int a0)], [], sl, (RH I w A N)) :=
  (R_tsw (show xk 176 1 = (.tableswitch 406 0 19 #[95, 111, 126, 142, 156, 174, 189, 207, 223, 238, 251, 265, 279, 294, 310, 325, 342, 357, 373, 389], 96, [], 0) by decide +kernel)).trans (congrArg (fun q => R (d + 1) 176 (q, [some (.int a0)], [], sl, (RH I w A N))) (by decide +kernel))
set_option maxRecDepth 100000 in
theorem m176_1_c18 (d sl : Nat) (I : Nat → Int32) (w : Int64) (A : Nat → Nat → Int32) (N : Nat → Nat → Int64) (a0 : Int32)  :
  R (d + 1) 176 (1, [some (.int a0)], .int (nI 18) :: [], sl, (RH I w A N)) = R (d + 1) 176 (374, [some (.int a0)], [], sl, (RH I w A N)) :=
  (R_tsw (show xk 176 1 = (.tableswitch 406 0 19 #[95, 111, 126, 142, 156, 174, 189, 207, 223, 238, 251, 265, 279, 294, 310, 325, 342, 357, 373, 389], 96, [], 0) by decide +kernel)).trans (congrArg (fun q => R (d + 1) 176 (q, [some (.int a0)], [], sl, (RH I w A N))) (by decide +kernel))
set_option maxRecDepth 100000 in
theorem m176_1_c19 (d sl : Nat) (I : Nat → Int32) (w : Int64) (A : Nat → Nat → Int32) (N : Nat → Nat → Int64) (a0 : Int32)  :
  R (d + 1) 176 (1, [some (.int a0)], .int (nI 19) :: [], sl, (RH I w A N)) = R (d + 1) 176 (390, [some (.int a0)], [], sl, (RH I w A N)) :=
  (R_tsw (show xk 176 1 = (.tableswitch 406 0 19 #[95, 111, 126, 142, 156, 174, 189, 207, 223, 238, 251, 265, 279, 294, 310, 325, 342, 357, 373, 389], 96, [], 0) by decide +kernel)).trans (congrArg (fun q => R (d + 1) 176 (q, [some (.int a0)], [], sl, (RH I w A N))) (by decide +kernel))
set_option maxRecDepth 100000 in
theorem m176_407 (d sl : Nat) (I : Nat → Int32) (w : Int64) (A : Nat → Nat → Int32) (N : Nat → Nat → Int64) (a0 : Int32) :
  R (d + 1) 176 (407, [some (.int a0)], [], sl, (RH I w A N)) =
    bC (C d 175 [.int (nI 110), .int (nI 117), .int (nI 109), .int (nI 98), .int (nI 101), .int (nI 114), .int (nI 0)] sl (RH I w A N)) (fun vs sl h => R (d + 1) 176 (423, [some (.int a0)], vs ++ [], sl, h)) :=
  (R_gob [1, 96, 111, 112, 126, 127, 142, 143, 156, 157, 174, 175, 189, 190, 207, 208, 223, 224, 238, 239, 251, 252, 265, 266, 279, 280, 294, 295, 310, 311, 325, 326, 342, 343, 357, 358, 373, 374, 389, 390, 406, 407, 423] 400 _ _ _).trans rfl
set_option maxRecDepth 100000 in
theorem m176_96 (d sl : Nat) (I : Nat → Int32) (w : Int64) (A : Nat → Nat → Int32) (N : Nat → Nat → Int64) (a0 : Int32) :
  R (d + 1) 176 (96, [some (.int a0)], [], sl, (RH I w A N)) =
    bC (C d 175 [.int (nI 104), .int (nI 111), .int (nI 117), .int (nI 115), .int (nI 101), .int (nI 0), .int (nI 0)] sl (RH I w A N)) (fun vs sl h => R (d + 1) 176 (111, [some (.int a0)], vs ++ [], sl, h)) :=
  (R_gob [1, 96, 111, 112, 126, 127, 142, 143, 156, 157, 174, 175, 189, 190, 207, 208, 223, 224, 238, 239, 251, 252, 265, 266, 279, 280, 294, 295, 310, 311, 325, 326, 342, 343, 357, 358, 373, 374, 389, 390, 406, 407, 423] 400 _ _ _).trans rfl
set_option maxRecDepth 100000 in
theorem m176_112 (d sl : Nat) (I : Nat → Int32) (w : Int64) (A : Nat → Nat → Int32) (N : Nat → Nat → Int64) (a0 : Int32) :
  R (d + 1) 176 (112, [some (.int a0)], [], sl, (RH I w A N)) =
    bC (C d 175 [.int (nI 100), .int (nI 101), .int (nI 98), .int (nI 116), .int (nI 0), .int (nI 0), .int (nI 0)] sl (RH I w A N)) (fun vs sl h => R (d + 1) 176 (126, [some (.int a0)], vs ++ [], sl, h)) :=
  (R_gob [1, 96, 111, 112, 126, 127, 142, 143, 156, 157, 174, 175, 189, 190, 207, 208, 223, 224, 238, 239, 251, 252, 265, 266, 279, 280, 294, 295, 310, 311, 325, 326, 342, 343, 357, 358, 373, 374, 389, 390, 406, 407, 423] 400 _ _ _).trans rfl
set_option maxRecDepth 100000 in
theorem m176_127 (d sl : Nat) (I : Nat → Int32) (w : Int64) (A : Nat → Nat → Int32) (N : Nat → Nat → Int64) (a0 : Int32) :
  R (d + 1) 176 (127, [some (.int a0)], [], sl, (RH I w A N)) =
    bC (C d 175 [.int (nI 103), .int (nI 114), .int (nI 111), .int (nI 119), .int (nI 115), .int (nI 0), .int (nI 0)] sl (RH I w A N)) (fun vs sl h => R (d + 1) 176 (142, [some (.int a0)], vs ++ [], sl, h)) :=
  (R_gob [1, 96, 111, 112, 126, 127, 142, 143, 156, 157, 174, 175, 189, 190, 207, 208, 223, 224, 238, 239, 251, 252, 265, 266, 279, 280, 294, 295, 310, 311, 325, 326, 342, 343, 357, 358, 373, 374, 389, 390, 406, 407, 423] 400 _ _ _).trans rfl
set_option maxRecDepth 100000 in
theorem m176_143 (d sl : Nat) (I : Nat → Int32) (w : Int64) (A : Nat → Nat → Int32) (N : Nat → Nat → Int64) (a0 : Int32) :
  R (d + 1) 176 (143, [some (.int a0)], [], sl, (RH I w A N)) =
    bC (C d 175 [.int (nI 112), .int (nI 97), .int (nI 121), .int (nI 0), .int (nI 0), .int (nI 0), .int (nI 0)] sl (RH I w A N)) (fun vs sl h => R (d + 1) 176 (156, [some (.int a0)], vs ++ [], sl, h)) :=
  (R_gob [1, 96, 111, 112, 126, 127, 142, 143, 156, 157, 174, 175, 189, 190, 207, 208, 223, 224, 238, 239, 251, 252, 265, 266, 279, 280, 294, 295, 310, 311, 325, 326, 342, 343, 357, 358, 373, 374, 389, 390, 406, 407, 423] 400 _ _ _).trans rfl
set_option maxRecDepth 100000 in
theorem m176_157 (d sl : Nat) (I : Nat → Int32) (w : Int64) (A : Nat → Nat → Int32) (N : Nat → Nat → Int64) (a0 : Int32) :
  R (d + 1) 176 (157, [some (.int a0)], [], sl, (RH I w A N)) =
    bC (C d 175 [.int (nI 98), .int (nI 111), .int (nI 114), .int (nI 114), .int (nI 111), .int (nI 119), .int (nI 115)] sl (RH I w A N)) (fun vs sl h => R (d + 1) 176 (174, [some (.int a0)], vs ++ [], sl, h)) :=
  (R_gob [1, 96, 111, 112, 126, 127, 142, 143, 156, 157, 174, 175, 189, 190, 207, 208, 223, 224, 238, 239, 251, 252, 265, 266, 279, 280, 294, 295, 310, 311, 325, 326, 342, 343, 357, 358, 373, 374, 389, 390, 406, 407, 423] 400 _ _ _).trans rfl
set_option maxRecDepth 100000 in
theorem m176_175 (d sl : Nat) (I : Nat → Int32) (w : Int64) (A : Nat → Nat → Int32) (N : Nat → Nat → Int64) (a0 : Int32) :
  R (d + 1) 176 (175, [some (.int a0)], [], sl, (RH I w A N)) =
    bC (C d 175 [.int (nI 115), .int (nI 101), .int (nI 108), .int (nI 108), .int (nI 0), .int (nI 0), .int (nI 0)] sl (RH I w A N)) (fun vs sl h => R (d + 1) 176 (189, [some (.int a0)], vs ++ [], sl, h)) :=
  (R_gob [1, 96, 111, 112, 126, 127, 142, 143, 156, 157, 174, 175, 189, 190, 207, 208, 223, 224, 238, 239, 251, 252, 265, 266, 279, 280, 294, 295, 310, 311, 325, 326, 342, 343, 357, 358, 373, 374, 389, 390, 406, 407, 423] 400 _ _ _).trans rfl
set_option maxRecDepth 100000 in
theorem m176_190 (d sl : Nat) (I : Nat → Int32) (w : Int64) (A : Nat → Nat → Int32) (N : Nat → Nat → Int64) (a0 : Int32) :
  R (d + 1) 176 (190, [some (.int a0)], [], sl, (RH I w A N)) =
    bC (C d 175 [.int (nI 102), .int (nI 111), .int (nI 114), .int (nI 103), .int (nI 105), .int (nI 118), .int (nI 101)] sl (RH I w A N)) (fun vs sl h => R (d + 1) 176 (207, [some (.int a0)], vs ++ [], sl, h)) :=
  (R_gob [1, 96, 111, 112, 126, 127, 142, 143, 156, 157, 174, 175, 189, 190, 207, 208, 223, 224, 238, 239, 251, 252, 265, 266, 279, 280, 294, 295, 310, 311, 325, 326, 342, 343, 357, 358, 373, 374, 389, 390, 406, 407, 423] 400 _ _ _).trans rfl
set_option maxRecDepth 100000 in
theorem m176_208 (d sl : Nat) (I : Nat → Int32) (w : Int64) (A : Nat → Nat → Int32) (N : Nat → Nat → Int64) (a0 : Int32) :
  R (d + 1) 176 (208, [some (.int a0)], [], sl, (RH I w A N)) =
    bC (C d 175 [.int (nI 99), .int (nI 108), .int (nI 101), .int (nI 97), .int (nI 114), .int (nI 0), .int (nI 0)] sl (RH I w A N)) (fun vs sl h => R (d + 1) 176 (223, [some (.int a0)], vs ++ [], sl, h)) :=
  (R_gob [1, 96, 111, 112, 126, 127, 142, 143, 156, 157, 174, 175, 189, 190, 207, 208, 223, 224, 238, 239, 251, 252, 265, 266, 279, 280, 294, 295, 310, 311, 325, 326, 342, 343, 357, 358, 373, 374, 389, 390, 406, 407, 423] 400 _ _ _).trans rfl
set_option maxRecDepth 100000 in
theorem m176_224 (d sl : Nat) (I : Nat → Int32) (w : Int64) (A : Nat → Nat → Int32) (N : Nat → Nat → Int64) (a0 : Int32) :
  R (d + 1) 176 (224, [some (.int a0)], [], sl, (RH I w A N)) =
    bC (C d 175 [.int (nI 121), .int (nI 101), .int (nI 97), .int (nI 114), .int (nI 0), .int (nI 0), .int (nI 0)] sl (RH I w A N)) (fun vs sl h => R (d + 1) 176 (238, [some (.int a0)], vs ++ [], sl, h)) :=
  (R_gob [1, 96, 111, 112, 126, 127, 142, 143, 156, 157, 174, 175, 189, 190, 207, 208, 223, 224, 238, 239, 251, 252, 265, 266, 279, 280, 294, 295, 310, 311, 325, 326, 342, 343, 357, 358, 373, 374, 389, 390, 406, 407, 423] 400 _ _ _).trans rfl
set_option maxRecDepth 100000 in
theorem m176_239 (d sl : Nat) (I : Nat → Int32) (w : Int64) (A : Nat → Nat → Int32) (N : Nat → Nat → Int64) (a0 : Int32) :
  R (d + 1) 176 (239, [some (.int a0)], [], sl, (RH I w A N)) =
    bC (C d 175 [.int (nI 111), .int (nI 114), .int (nI 0), .int (nI 0), .int (nI 0), .int (nI 0), .int (nI 0)] sl (RH I w A N)) (fun vs sl h => R (d + 1) 176 (251, [some (.int a0)], vs ++ [], sl, h)) :=
  (R_gob [1, 96, 111, 112, 126, 127, 142, 143, 156, 157, 174, 175, 189, 190, 207, 208, 223, 224, 238, 239, 251, 252, 265, 266, 279, 280, 294, 295, 310, 311, 325, 326, 342, 343, 357, 358, 373, 374, 389, 390, 406, 407, 423] 400 _ _ _).trans rfl
set_option maxRecDepth 100000 in
theorem m176_252 (d sl : Nat) (I : Nat → Int32) (w : Int64) (A : Nat → Nat → Int32) (N : Nat → Nat → Int64) (a0 : Int32) :
  R (d + 1) 176 (252, [some (.int a0)], [], sl, (RH I w A N)) =
    bC (C d 175 [.int (nI 97), .int (nI 110), .int (nI 100), .int (nI 0), .int (nI 0), .int (nI 0), .int (nI 0)] sl (RH I w A N)) (fun vs sl h => R (d + 1) 176 (265, [some (.int a0)], vs ++ [], sl, h)) :=
  (R_gob [1, 96, 111, 112, 126, 127, 142, 143, 156, 157, 174, 175, 189, 190, 207, 208, 223, 224, 238, 239, 251, 252, 265, 266, 279, 280, 294, 295, 310, 311, 325, 326, 342, 343, 357, 358, 373, 374, 389, 390, 406, 407, 423] 400 _ _ _).trans rfl
set_option maxRecDepth 100000 in
theorem m176_266 (d sl : Nat) (I : Nat → Int32) (w : Int64) (A : Nat → Nat → Int32) (N : Nat → Nat → Int64) (a0 : Int32) :
  R (d + 1) 176 (266, [some (.int a0)], [], sl, (RH I w A N)) =
    bC (C d 175 [.int (nI 110), .int (nI 111), .int (nI 116), .int (nI 0), .int (nI 0), .int (nI 0), .int (nI 0)] sl (RH I w A N)) (fun vs sl h => R (d + 1) 176 (279, [some (.int a0)], vs ++ [], sl, h)) :=
  (R_gob [1, 96, 111, 112, 126, 127, 142, 143, 156, 157, 174, 175, 189, 190, 207, 208, 223, 224, 238, 239, 251, 252, 265, 266, 279, 280, 294, 295, 310, 311, 325, 326, 342, 343, 357, 358, 373, 374, 389, 390, 406, 407, 423] 400 _ _ _).trans rfl
set_option maxRecDepth 100000 in
theorem m176_280 (d sl : Nat) (I : Nat → Int32) (w : Int64) (A : Nat → Nat → Int32) (N : Nat → Nat → Int64) (a0 : Int32) :
  R (d + 1) 176 (280, [some (.int a0)], [], sl, (RH I w A N)) =
    bC (C d 175 [.int (nI 102), .int (nI 114), .int (nI 101), .int (nI 101), .int (nI 0), .int (nI 0), .int (nI 0)] sl (RH I w A N)) (fun vs sl h => R (d + 1) 176 (294, [some (.int a0)], vs ++ [], sl, h)) :=
  (R_gob [1, 96, 111, 112, 126, 127, 142, 143, 156, 157, 174, 175, 189, 190, 207, 208, 223, 224, 238, 239, 251, 252, 265, 266, 279, 280, 294, 295, 310, 311, 325, 326, 342, 343, 357, 358, 373, 374, 389, 390, 406, 407, 423] 400 _ _ _).trans rfl
set_option maxRecDepth 100000 in
theorem m176_295 (d sl : Nat) (I : Nat → Int32) (w : Int64) (A : Nat → Nat → Int32) (N : Nat → Nat → Int64) (a0 : Int32) :
  R (d + 1) 176 (295, [some (.int a0)], [], sl, (RH I w A N)) =
    bC (C d 175 [.int (nI 98), .int (nI 114), .int (nI 111), .int (nI 107), .int (nI 101), .int (nI 0), .int (nI 0)] sl (RH I w A N)) (fun vs sl h => R (d + 1) 176 (310, [some (.int a0)], vs ++ [], sl, h)) :=
  (R_gob [1, 96, 111, 112, 126, 127, 142, 143, 156, 157, 174, 175, 189, 190, 207, 208, 223, 224, 238, 239, 251, 252, 265, 266, 279, 280, 294, 295, 310, 311, 325, 326, 342, 343, 357, 358, 373, 374, 389, 390, 406, 407, 423] 400 _ _ _).trans rfl
set_option maxRecDepth 100000 in
theorem m176_311 (d sl : Nat) (I : Nat → Int32) (w : Int64) (A : Nat → Nat → Int32) (N : Nat → Nat → Int64) (a0 : Int32) :
  R (d + 1) 176 (311, [some (.int a0)], [], sl, (RH I w A N)) =
    bC (C d 175 [.int (nI 102), .int (nI 117), .int (nI 108), .int (nI 108), .int (nI 0), .int (nI 0), .int (nI 0)] sl (RH I w A N)) (fun vs sl h => R (d + 1) 176 (325, [some (.int a0)], vs ++ [], sl, h)) :=
  (R_gob [1, 96, 111, 112, 126, 127, 142, 143, 156, 157, 174, 175, 189, 190, 207, 208, 223, 224, 238, 239, 251, 252, 265, 266, 279, 280, 294, 295, 310, 311, 325, 326, 342, 343, 357, 358, 373, 374, 389, 390, 406, 407, 423] 400 _ _ _).trans rfl
set_option maxRecDepth 100000 in
theorem m176_326 (d sl : Nat) (I : Nat → Int32) (w : Int64) (A : Nat → Nat → Int32) (N : Nat → Nat → Int64) (a0 : Int32) :
  R (d + 1) 176 (326, [some (.int a0)], [], sl, (RH I w A N)) =
    bC (C d 175 [.int (nI 114), .int (nI 105), .int (nI 110), .int (nI 103), .int (nI 101), .int (nI 100), .int (nI 0)] sl (RH I w A N)) (fun vs sl h => R (d + 1) 176 (342, [some (.int a0)], vs ++ [], sl, h)) :=
  (R_gob [1, 96, 111, 112, 126, 127, 142, 143, 156, 157, 174, 175, 189, 190, 207, 208, 223, 224, 238, 239, 251, 252, 265, 266, 279, 280, 294, 295, 310, 311, 325, 326, 342, 343, 357, 358, 373, 374, 389, 390, 406, 407, 423] 400 _ _ _).trans rfl
set_option maxRecDepth 100000 in
theorem m176_343 (d sl : Nat) (I : Nat → Int32) (w : Int64) (A : Nat → Nat → Int32) (N : Nat → Nat → Int64) (a0 : Int32) :
  R (d + 1) 176 (343, [some (.int a0)], [], sl, (RH I w A N)) =
    bC (C d 175 [.int (nI 111), .int (nI 119), .int (nI 101), .int (nI 115), .int (nI 0), .int (nI 0), .int (nI 0)] sl (RH I w A N)) (fun vs sl h => R (d + 1) 176 (357, [some (.int a0)], vs ++ [], sl, h)) :=
  (R_gob [1, 96, 111, 112, 126, 127, 142, 143, 156, 157, 174, 175, 189, 190, 207, 208, 223, 224, 238, 239, 251, 252, 265, 266, 279, 280, 294, 295, 310, 311, 325, 326, 342, 343, 357, 358, 373, 374, 389, 390, 406, 407, 423] 400 _ _ _).trans rfl
set_option maxRecDepth 100000 in
theorem m176_358 (d sl : Nat) (I : Nat → Int32) (w : Int64) (A : Nat → Nat → Int32) (N : Nat → Nat → Int64) (a0 : Int32) :
  R (d + 1) 176 (358, [some (.int a0)], [], sl, (RH I w A N)) =
    bC (C d 175 [.int (nI 99), .int (nI 111), .int (nI 105), .int (nI 110), .int (nI 115), .int (nI 0), .int (nI 0)] sl (RH I w A N)) (fun vs sl h => R (d + 1) 176 (373, [some (.int a0)], vs ++ [], sl, h)) :=
  (R_gob [1, 96, 111, 112, 126, 127, 142, 143, 156, 157, 174, 175, 189, 190, 207, 208, 223, 224, 238, 239, 251, 252, 265, 266, 279, 280, 294, 295, 310, 311, 325, 326, 342, 343, 357, 358, 373, 374, 389, 390, 406, 407, 423] 400 _ _ _).trans rfl
set_option maxRecDepth 100000 in
theorem m176_374 (d sl : Nat) (I : Nat → Int32) (w : Int64) (A : Nat → Nat → Int32) (N : Nat → Nat → Int64) (a0 : Int32) :
  R (d + 1) 176 (374, [some (.int a0)], [], sl, (RH I w A N)) =
    bC (C d 175 [.int (nI 100), .int (nI 101), .int (nI 98), .int (nI 116), .int (nI 115), .int (nI 0), .int (nI 0)] sl (RH I w A N)) (fun vs sl h => R (d + 1) 176 (389, [some (.int a0)], vs ++ [], sl, h)) :=
  (R_gob [1, 96, 111, 112, 126, 127, 142, 143, 156, 157, 174, 175, 189, 190, 207, 208, 223, 224, 238, 239, 251, 252, 265, 266, 279, 280, 294, 295, 310, 311, 325, 326, 342, 343, 357, 358, 373, 374, 389, 390, 406, 407, 423] 400 _ _ _).trans rfl
set_option maxRecDepth 100000 in
theorem m176_390 (d sl : Nat) (I : Nat → Int32) (w : Int64) (A : Nat → Nat → Int32) (N : Nat → Nat → Int64) (a0 : Int32) :
  R (d + 1) 176 (390, [some (.int a0)], [], sl, (RH I w A N)) =
    bC (C d 175 [.int (nI 99), .int (nI 104), .int (nI 97), .int (nI 105), .int (nI 114), .int (nI 115), .int (nI 0)] sl (RH I w A N)) (fun vs sl h => R (d + 1) 176 (406, [some (.int a0)], vs ++ [], sl, h)) :=
  (R_gob [1, 96, 111, 112, 126, 127, 142, 143, 156, 157, 174, 175, 189, 190, 207, 208, 223, 224, 238, 239, 251, 252, 265, 266, 279, 280, 294, 295, 310, 311, 325, 326, 342, 343, 357, 358, 373, 374, 389, 390, 406, 407, 423] 400 _ _ _).trans rfl
set_option maxRecDepth 100000 in
theorem m176_423 (d sl : Nat) (I : Nat → Int32) (w : Int64) (A : Nat → Nat → Int32) (N : Nat → Nat → Int64) (a0 : Int32) (b0 : Int64) :
  R (d + 1) 176 (423, [some (.int a0)], [.long b0], sl, (RH I w A N)) =
    some (423, [some (.int a0)], [.long b0], sl, (RH I w A N)) :=
  (R_gob [1, 96, 111, 112, 126, 127, 142, 143, 156, 157, 174, 175, 189, 190, 207, 208, 223, 224, 238, 239, 251, 252, 265, 266, 279, 280, 294, 295, 310, 311, 325, 326, 342, 343, 357, 358, 373, 374, 389, 390, 406, 407, 423] 400 _ _ _).trans rfl
set_option maxRecDepth 100000 in
theorem m176_111 (d sl : Nat) (I : Nat → Int32) (w : Int64) (A : Nat → Nat → Int32) (N : Nat → Nat → Int64) (a0 : Int32) (b0 : Int64) :
  R (d + 1) 176 (111, [some (.int a0)], [.long b0], sl, (RH I w A N)) =
    some (111, [some (.int a0)], [.long b0], sl, (RH I w A N)) :=
  (R_gob [1, 96, 111, 112, 126, 127, 142, 143, 156, 157, 174, 175, 189, 190, 207, 208, 223, 224, 238, 239, 251, 252, 265, 266, 279, 280, 294, 295, 310, 311, 325, 326, 342, 343, 357, 358, 373, 374, 389, 390, 406, 407, 423] 400 _ _ _).trans rfl
set_option maxRecDepth 100000 in
theorem m176_126 (d sl : Nat) (I : Nat → Int32) (w : Int64) (A : Nat → Nat → Int32) (N : Nat → Nat → Int64) (a0 : Int32) (b0 : Int64) :
  R (d + 1) 176 (126, [some (.int a0)], [.long b0], sl, (RH I w A N)) =
    some (126, [some (.int a0)], [.long b0], sl, (RH I w A N)) :=
  (R_gob [1, 96, 111, 112, 126, 127, 142, 143, 156, 157, 174, 175, 189, 190, 207, 208, 223, 224, 238, 239, 251, 252, 265, 266, 279, 280, 294, 295, 310, 311, 325, 326, 342, 343, 357, 358, 373, 374, 389, 390, 406, 407, 423] 400 _ _ _).trans rfl
set_option maxRecDepth 100000 in
theorem m176_142 (d sl : Nat) (I : Nat → Int32) (w : Int64) (A : Nat → Nat → Int32) (N : Nat → Nat → Int64) (a0 : Int32) (b0 : Int64) :
  R (d + 1) 176 (142, [some (.int a0)], [.long b0], sl, (RH I w A N)) =
    some (142, [some (.int a0)], [.long b0], sl, (RH I w A N)) :=
  (R_gob [1, 96, 111, 112, 126, 127, 142, 143, 156, 157, 174, 175, 189, 190, 207, 208, 223, 224, 238, 239, 251, 252, 265, 266, 279, 280, 294, 295, 310, 311, 325, 326, 342, 343, 357, 358, 373, 374, 389, 390, 406, 407, 423] 400 _ _ _).trans rfl
set_option maxRecDepth 100000 in
theorem m176_156 (d sl : Nat) (I : Nat → Int32) (w : Int64) (A : Nat → Nat → Int32) (N : Nat → Nat → Int64) (a0 : Int32) (b0 : Int64) :
  R (d + 1) 176 (156, [some (.int a0)], [.long b0], sl, (RH I w A N)) =
    some (156, [some (.int a0)], [.long b0], sl, (RH I w A N)) :=
  (R_gob [1, 96, 111, 112, 126, 127, 142, 143, 156, 157, 174, 175, 189, 190, 207, 208, 223, 224, 238, 239, 251, 252, 265, 266, 279, 280, 294, 295, 310, 311, 325, 326, 342, 343, 357, 358, 373, 374, 389, 390, 406, 407, 423] 400 _ _ _).trans rfl
set_option maxRecDepth 100000 in
theorem m176_174 (d sl : Nat) (I : Nat → Int32) (w : Int64) (A : Nat → Nat → Int32) (N : Nat → Nat → Int64) (a0 : Int32) (b0 : Int64) :
  R (d + 1) 176 (174, [some (.int a0)], [.long b0], sl, (RH I w A N)) =
    some (174, [some (.int a0)], [.long b0], sl, (RH I w A N)) :=
  (R_gob [1, 96, 111, 112, 126, 127, 142, 143, 156, 157, 174, 175, 189, 190, 207, 208, 223, 224, 238, 239, 251, 252, 265, 266, 279, 280, 294, 295, 310, 311, 325, 326, 342, 343, 357, 358, 373, 374, 389, 390, 406, 407, 423] 400 _ _ _).trans rfl
set_option maxRecDepth 100000 in
theorem m176_189 (d sl : Nat) (I : Nat → Int32) (w : Int64) (A : Nat → Nat → Int32) (N : Nat → Nat → Int64) (a0 : Int32) (b0 : Int64) :
  R (d + 1) 176 (189, [some (.int a0)], [.long b0], sl, (RH I w A N)) =
    some (189, [some (.int a0)], [.long b0], sl, (RH I w A N)) :=
  (R_gob [1, 96, 111, 112, 126, 127, 142, 143, 156, 157, 174, 175, 189, 190, 207, 208, 223, 224, 238, 239, 251, 252, 265, 266, 279, 280, 294, 295, 310, 311, 325, 326, 342, 343, 357, 358, 373, 374, 389, 390, 406, 407, 423] 400 _ _ _).trans rfl
set_option maxRecDepth 100000 in
theorem m176_207 (d sl : Nat) (I : Nat → Int32) (w : Int64) (A : Nat → Nat → Int32) (N : Nat → Nat → Int64) (a0 : Int32) (b0 : Int64) :
  R (d + 1) 176 (207, [some (.int a0)], [.long b0], sl, (RH I w A N)) =
    some (207, [some (.int a0)], [.long b0], sl, (RH I w A N)) :=
  (R_gob [1, 96, 111, 112, 126, 127, 142, 143, 156, 157, 174, 175, 189, 190, 207, 208, 223, 224, 238, 239, 251, 252, 265, 266, 279, 280, 294, 295, 310, 311, 325, 326, 342, 343, 357, 358, 373, 374, 389, 390, 406, 407, 423] 400 _ _ _).trans rfl
set_option maxRecDepth 100000 in
theorem m176_223 (d sl : Nat) (I : Nat → Int32) (w : Int64) (A : Nat → Nat → Int32) (N : Nat → Nat → Int64) (a0 : Int32) (b0 : Int64) :
  R (d + 1) 176 (223, [some (.int a0)], [.long b0], sl, (RH I w A N)) =
    some (223, [some (.int a0)], [.long b0], sl, (RH I w A N)) :=
  (R_gob [1, 96, 111, 112, 126, 127, 142, 143, 156, 157, 174, 175, 189, 190, 207, 208, 223, 224, 238, 239, 251, 252, 265, 266, 279, 280, 294, 295, 310, 311, 325, 326, 342, 343, 357, 358, 373, 374, 389, 390, 406, 407, 423] 400 _ _ _).trans rfl
set_option maxRecDepth 100000 in
theorem m176_238 (d sl : Nat) (I : Nat → Int32) (w : Int64) (A : Nat → Nat → Int32) (N : Nat → Nat → Int64) (a0 : Int32) (b0 : Int64) :
  R (d + 1) 176 (238, [some (.int a0)], [.long b0], sl, (RH I w A N)) =
    some (238, [some (.int a0)], [.long b0], sl, (RH I w A N)) :=
  (R_gob [1, 96, 111, 112, 126, 127, 142, 143, 156, 157, 174, 175, 189, 190, 207, 208, 223, 224, 238, 239, 251, 252, 265, 266, 279, 280, 294, 295, 310, 311, 325, 326, 342, 343, 357, 358, 373, 374, 389, 390, 406, 407, 423] 400 _ _ _).trans rfl
set_option maxRecDepth 100000 in
theorem m176_251 (d sl : Nat) (I : Nat → Int32) (w : Int64) (A : Nat → Nat → Int32) (N : Nat → Nat → Int64) (a0 : Int32) (b0 : Int64) :
  R (d + 1) 176 (251, [some (.int a0)], [.long b0], sl, (RH I w A N)) =
    some (251, [some (.int a0)], [.long b0], sl, (RH I w A N)) :=
  (R_gob [1, 96, 111, 112, 126, 127, 142, 143, 156, 157, 174, 175, 189, 190, 207, 208, 223, 224, 238, 239, 251, 252, 265, 266, 279, 280, 294, 295, 310, 311, 325, 326, 342, 343, 357, 358, 373, 374, 389, 390, 406, 407, 423] 400 _ _ _).trans rfl
set_option maxRecDepth 100000 in
theorem m176_265 (d sl : Nat) (I : Nat → Int32) (w : Int64) (A : Nat → Nat → Int32) (N : Nat → Nat → Int64) (a0 : Int32) (b0 : Int64) :
  R (d + 1) 176 (265, [some (.int a0)], [.long b0], sl, (RH I w A N)) =
    some (265, [some (.int a0)], [.long b0], sl, (RH I w A N)) :=
  (R_gob [1, 96, 111, 112, 126, 127, 142, 143, 156, 157, 174, 175, 189, 190, 207, 208, 223, 224, 238, 239, 251, 252, 265, 266, 279, 280, 294, 295, 310, 311, 325, 326, 342, 343, 357, 358, 373, 374, 389, 390, 406, 407, 423] 400 _ _ _).trans rfl
set_option maxRecDepth 100000 in
theorem m176_279 (d sl : Nat) (I : Nat → Int32) (w : Int64) (A : Nat → Nat → Int32) (N : Nat → Nat → Int64) (a0 : Int32) (b0 : Int64) :
  R (d + 1) 176 (279, [some (.int a0)], [.long b0], sl, (RH I w A N)) =
    some (279, [some (.int a0)], [.long b0], sl, (RH I w A N)) :=
  (R_gob [1, 96, 111, 112, 126, 127, 142, 143, 156, 157, 174, 175, 189, 190, 207, 208, 223, 224, 238, 239, 251, 252, 265, 266, 279, 280, 294, 295, 310, 311, 325, 326, 342, 343, 357, 358, 373, 374, 389, 390, 406, 407, 423] 400 _ _ _).trans rfl
set_option maxRecDepth 100000 in
theorem m176_294 (d sl : Nat) (I : Nat → Int32) (w : Int64) (A : Nat → Nat → Int32) (N : Nat → Nat → Int64) (a0 : Int32) (b0 : Int64) :
  R (d + 1) 176 (294, [some (.int a0)], [.long b0], sl, (RH I w A N)) =
    some (294, [some (.int a0)], [.long b0], sl, (RH I w A N)) :=
  (R_gob [1, 96, 111, 112, 126, 127, 142, 143, 156, 157, 174, 175, 189, 190, 207, 208, 223, 224, 238, 239, 251, 252, 265, 266, 279, 280, 294, 295, 310, 311, 325, 326, 342, 343, 357, 358, 373, 374, 389, 390, 406, 407, 423] 400 _ _ _).trans rfl
set_option maxRecDepth 100000 in
theorem m176_310 (d sl : Nat) (I : Nat → Int32) (w : Int64) (A : Nat → Nat → Int32) (N : Nat → Nat → Int64) (a0 : Int32) (b0 : Int64) :
  R (d + 1) 176 (310, [some (.int a0)], [.long b0], sl, (RH I w A N)) =
    some (310, [some (.int a0)], [.long b0], sl, (RH I w A N)) :=
  (R_gob [1, 96, 111, 112, 126, 127, 142, 143, 156, 157, 174, 175, 189, 190, 207, 208, 223, 224, 238, 239, 251, 252, 265, 266, 279, 280, 294, 295, 310, 311, 325, 326, 342, 343, 357, 358, 373, 374, 389, 390, 406, 407, 423] 400 _ _ _).trans rfl
set_option maxRecDepth 100000 in
theorem m176_325 (d sl : Nat) (I : Nat → Int32) (w : Int64) (A : Nat → Nat → Int32) (N : Nat → Nat → Int64) (a0 : Int32) (b0 : Int64) :
  R (d + 1) 176 (325, [some (.int a0)], [.long b0], sl, (RH I w A N)) =
    some (325, [some (.int a0)], [.long b0], sl, (RH I w A N)) :=
  (R_gob [1, 96, 111, 112, 126, 127, 142, 143, 156, 157, 174, 175, 189, 190, 207, 208, 223, 224, 238, 239, 251, 252, 265, 266, 279, 280, 294, 295, 310, 311, 325, 326, 342, 343, 357, 358, 373, 374, 389, 390, 406, 407, 423] 400 _ _ _).trans rfl
set_option maxRecDepth 100000 in
theorem m176_342 (d sl : Nat) (I : Nat → Int32) (w : Int64) (A : Nat → Nat → Int32) (N : Nat → Nat → Int64) (a0 : Int32) (b0 : Int64) :
  R (d + 1) 176 (342, [some (.int a0)], [.long b0], sl, (RH I w A N)) =
    some (342, [some (.int a0)], [.long b0], sl, (RH I w A N)) :=
  (R_gob [1, 96, 111, 112, 126, 127, 142, 143, 156, 157, 174, 175, 189, 190, 207, 208, 223, 224, 238, 239, 251, 252, 265, 266, 279, 280, 294, 295, 310, 311, 325, 326, 342, 343, 357, 358, 373, 374, 389, 390, 406, 407, 423] 400 _ _ _).trans rfl
set_option maxRecDepth 100000 in
theorem m176_357 (d sl : Nat) (I : Nat → Int32) (w : Int64) (A : Nat → Nat → Int32) (N : Nat → Nat → Int64) (a0 : Int32) (b0 : Int64) :
  R (d + 1) 176 (357, [some (.int a0)], [.long b0], sl, (RH I w A N)) =
    some (357, [some (.int a0)], [.long b0], sl, (RH I w A N)) :=
  (R_gob [1, 96, 111, 112, 126, 127, 142, 143, 156, 157, 174, 175, 189, 190, 207, 208, 223, 224, 238, 239, 251, 252, 265, 266, 279, 280, 294, 295, 310, 311, 325, 326, 342, 343, 357, 358, 373, 374, 389, 390, 406, 407, 423] 400 _ _ _).trans rfl
set_option maxRecDepth 100000 in
theorem m176_373 (d sl : Nat) (I : Nat → Int32) (w : Int64) (A : Nat → Nat → Int32) (N : Nat → Nat → Int64) (a0 : Int32) (b0 : Int64) :
  R (d + 1) 176 (373, [some (.int a0)], [.long b0], sl, (RH I w A N)) =
    some (373, [some (.int a0)], [.long b0], sl, (RH I w A N)) :=
  (R_gob [1, 96, 111, 112, 126, 127, 142, 143, 156, 157, 174, 175, 189, 190, 207, 208, 223, 224, 238, 239, 251, 252, 265, 266, 279, 280, 294, 295, 310, 311, 325, 326, 342, 343, 357, 358, 373, 374, 389, 390, 406, 407, 423] 400 _ _ _).trans rfl
set_option maxRecDepth 100000 in
theorem m176_389 (d sl : Nat) (I : Nat → Int32) (w : Int64) (A : Nat → Nat → Int32) (N : Nat → Nat → Int64) (a0 : Int32) (b0 : Int64) :
  R (d + 1) 176 (389, [some (.int a0)], [.long b0], sl, (RH I w A N)) =
    some (389, [some (.int a0)], [.long b0], sl, (RH I w A N)) :=
  (R_gob [1, 96, 111, 112, 126, 127, 142, 143, 156, 157, 174, 175, 189, 190, 207, 208, 223, 224, 238, 239, 251, 252, 265, 266, 279, 280, 294, 295, 310, 311, 325, 326, 342, 343, 357, 358, 373, 374, 389, 390, 406, 407, 423] 400 _ _ _).trans rfl
set_option maxRecDepth 100000 in
theorem m176_406 (d sl : Nat) (I : Nat → Int32) (w : Int64) (A : Nat → Nat → Int32) (N : Nat → Nat → Int64) (a0 : Int32) (b0 : Int64) :
  R (d + 1) 176 (406, [some (.int a0)], [.long b0], sl, (RH I w A N)) =
    some (406, [some (.int a0)], [.long b0], sl, (RH I w A N)) :=
  (R_gob [1, 96, 111, 112, 126, 127, 142, 143, 156, 157, 174, 175, 189, 190, 207, 208, 223, 224, 238, 239, 251, 252, 265, 266, 279, 280, 294, 295, 310, 311, 325, 326, 342, 343, 357, 358, 373, 374, 389, 390, 406, 407, 423] 400 _ _ _).trans rfl
set_option maxRecDepth 100000 in
theorem m177_0 (d sl : Nat) (I : Nat → Int32) (w : Int64) (A : Nat → Nat → Int32) (N : Nat → Nat → Int64) (a1 : Int32) :
  R (d + 1) 177 (0, [some (.ref 0), some (.int a1)], [], sl, (RH I w A N)) =
    cond (!decide ((I 7) = (nI 2))) (some (25, [some (.ref 0), some (.int a1)], [.int (nI 0)], sl, (RH I w A N))) (bC (C d 176 [.int a1] sl (RH I w A N)) (fun vs sl h => R (d + 1) 177 (16, [some (.ref 0), some (.int a1)], vs ++ [.long w], sl, h))) :=
  (R_gob [16] 400 _ _ _).trans rfl
set_option maxRecDepth 100000 in
theorem m177_16 (d sl : Nat) (I : Nat → Int32) (w : Int64) (A : Nat → Nat → Int32) (N : Nat → Nat → Int64) (a1 : Int32) (b0 : Int64) (b1 : Int64) :
  R (d + 1) 177 (16, [some (.ref 0), some (.int a1)], [.long b0, .long b1], sl, (RH I w A N)) =
    cond (!decide ((lg_cmp b1 b0) = (nI 0))) (some (25, [some (.ref 0), some (.int a1)], [.int (nI 0)], sl, (RH I w A N))) (some (25, [some (.ref 0), some (.int a1)], [.int (nI 1)], sl, (RH I w A N))) :=
  (R_gob [16] 400 _ _ _).trans rfl
set_option maxRecDepth 100000 in
theorem m178_0 (d sl : Nat) (I : Nat → Int32) (w : Int64) (A : Nat → Nat → Int32) (N : Nat → Nat → Int64) (a1 : Int32) :
  R d 178 (0, [some (.ref 0), some (.int a1)], [], sl, (RH I w A N)) =
    cond (!decide ((I 7) = (nI 4))) (some (21, [some (.ref 0), some (.int a1)], [.int (nI 0)], sl, (RH I w A N))) (cond (!decide ((I 9) = a1)) (some (21, [some (.ref 0), some (.int a1)], [.int (nI 0)], sl, (RH I w A N))) (some (21, [some (.ref 0), some (.int a1)], [.int (nI 1)], sl, (RH I w A N)))) :=
  (R_gob [] 400 _ _ _).trans rfl
set_option maxRecDepth 100000 in
theorem m179_0 (d sl : Nat) (I : Nat → Int32) (w : Int64) (A : Nat → Nat → Int32) (N : Nat → Nat → Int64)  :
  R (d + 1) 179 (0, [some (.ref 0), none], [], sl, (RH I w A N)) =
    cond (decide ((I 7) = (nI 2))) (R (d + 1) 179 (12, [some (.ref 0), some (.int (nI 0))], [], sl, (RH I w A N))) (some (9, [some (.ref 0), none], [.int (nI 0)], sl, (RH I w A N))) :=
  (R_gob [12, 26] 400 _ _ _).trans rfl
set_option maxRecDepth 100000 in
theorem m179_12 (d sl : Nat) (I : Nat → Int32) (w : Int64) (A : Nat → Nat → Int32) (N : Nat → Nat → Int64) (a1 : Int32) :
  R (d + 1) 179 (12, [some (.ref 0), some (.int a1)], [], sl, (RH I w A N)) =
    cond (decide ((nI 20) < a1)) (some (39, [some (.ref 0), some (.int a1)], [.int (nI 1)], sl, (RH I w A N))) (bC (C d 176 [.int a1] sl (RH I w A N)) (fun vs sl h => R (d + 1) 179 (26, [some (.ref 0), some (.int a1)], vs ++ [.long w], sl, h))) :=
  (R_gob [12, 26] 400 _ _ _).trans rfl
set_option maxRecDepth 100000 in
theorem m179_26 (d sl : Nat) (I : Nat → Int32) (w : Int64) (A : Nat → Nat → Int32) (N : Nat → Nat → Int64) (a1 : Int32) (b0 : Int64) (b1 : Int64) :
  R (d + 1) 179 (26, [some (.ref 0), some (.int a1)], [.long b0, .long b1], sl, (RH I w A N)) =
    cond (!decide ((lg_cmp b1 b0) = (nI 0))) (R (d + 1) 179 (12, [some (.ref 0), some (.int (a1 + (nI 1)))], [], sl, (RH I w A N))) (some (31, [some (.ref 0), some (.int a1)], [.int (nI 0)], sl, (RH I w A N))) :=
  (R_gob [12, 26] 400 _ _ _).trans rfl
set_option maxRecDepth 100000 in
theorem m180_0 (d sl : Nat) (I : Nat → Int32) (w : Int64) (A : Nat → Nat → Int32) (N : Nat → Nat → Int64) (a1 : Int32) :
  R d 180 (0, [some (.ref 0), some (.int a1)], [], sl, (RH I w A N)) =
    cond (!decide ((I 7) = (nI 1))) (some (26, [some (.ref 0), some (.int a1)], [.int (nI 0)], sl, (RH (up1 (up1 I 10 a1) 11 (I 6)) w A N))) (some (26, [some (.ref 0), some (.int a1)], [.int (nI 0)], sl, (RH (up1 (up1 I 10 (nI 1)) 11 (I 6)) w A N))) :=
  (R_gob [] 400 _ _ _).trans rfl
set_option maxRecDepth 100000 in
theorem m181_0 (d sl : Nat) (I : Nat → Int32) (w : Int64) (A : Nat → Nat → Int32) (N : Nat → Nat → Int64) (a1 : Int32) (a2 : Int32) :
  R (d + 1) 181 (0, [some (.ref 0), some (.int a1), some (.int a2)], [], sl, (RH I w A N)) =
    cond (decide ((I 7) = (nI 3))) (bC (C d 166 [.int (I 8), .int a1, .int a2] sl (RH I w A N)) (fun vs sl h => R (d + 1) 181 (23, [some (.ref 0), some (.int a1), some (.int a2)], vs ++ [], sl, h))) (bC (C d 180 [.ref 0, .int (nI 1)] sl (RH I w A N)) (fun vs sl h => R (d + 1) 181 (13, [some (.ref 0), some (.int a1), some (.int a2)], vs ++ [], sl, h))) :=
  (R_gob [13, 23, 31, 44] 400 _ _ _).trans rfl
set_option maxRecDepth 100000 in
theorem m181_23 (d sl : Nat) (I : Nat → Int32) (w : Int64) (A : Nat → Nat → Int32) (N : Nat → Nat → Int64) (a1 : Int32) (a2 : Int32) (b0 : Int32) :
  R (d + 1) 181 (23, [some (.ref 0), some (.int a1), some (.int a2)], [.int b0], sl, (RH I w A N)) =
    cond (!decide (b0 = (nI 0))) (bC (C d 174 [.ref 0] sl (RH (up1 I 13 (I 8)) w A N)) (fun vs sl h => R (d + 1) 181 (44, [some (.ref 0), some (.int a1), some (.int a2)], vs ++ [], sl, h))) (bC (C d 180 [.ref 0, .int (nI 2)] sl (RH I w A N)) (fun vs sl h => R (d + 1) 181 (31, [some (.ref 0), some (.int a1), some (.int a2)], vs ++ [], sl, h))) :=
  (R_gob [13, 23, 31, 44] 400 _ _ _).trans rfl
set_option maxRecDepth 100000 in
theorem m181_13 (d sl : Nat) (I : Nat → Int32) (w : Int64) (A : Nat → Nat → Int32) (N : Nat → Nat → Int64) (a1 : Int32) (a2 : Int32) (b0 : Int32) :
  R (d + 1) 181 (13, [some (.ref 0), some (.int a1), some (.int a2)], [.int b0], sl, (RH I w A N)) =
    some (13, [some (.ref 0), some (.int a1), some (.int a2)], [.int b0], sl, (RH I w A N)) :=
  (R_gob [13, 23, 31, 44] 400 _ _ _).trans rfl
set_option maxRecDepth 100000 in
theorem m181_44 (d sl : Nat) (I : Nat → Int32) (w : Int64) (A : Nat → Nat → Int32) (N : Nat → Nat → Int64) (a1 : Int32) (a2 : Int32) :
  R (d + 1) 181 (44, [some (.ref 0), some (.int a1), some (.int a2)], [], sl, (RH I w A N)) =
    some (45, [some (.ref 0), some (.int a1), some (.int a2)], [.int (nI 1)], sl, (RH I w A N)) :=
  (R_gob [13, 23, 31, 44] 400 _ _ _).trans rfl
set_option maxRecDepth 100000 in
theorem m181_31 (d sl : Nat) (I : Nat → Int32) (w : Int64) (A : Nat → Nat → Int32) (N : Nat → Nat → Int64) (a1 : Int32) (a2 : Int32) (b0 : Int32) :
  R (d + 1) 181 (31, [some (.ref 0), some (.int a1), some (.int a2)], [.int b0], sl, (RH I w A N)) =
    some (31, [some (.ref 0), some (.int a1), some (.int a2)], [.int b0], sl, (RH I w A N)) :=
  (R_gob [13, 23, 31, 44] 400 _ _ _).trans rfl
set_option maxRecDepth 100000 in
theorem m182_0 (d sl : Nat) (I : Nat → Int32) (w : Int64) (A : Nat → Nat → Int32) (N : Nat → Nat → Int64)  :
  R (d + 1) 182 (0, [some (.ref 0)], [], sl, (RH I w A N)) =
    bC (C d 178 [.ref 0, .int (nI 59)] sl (RH I w A N)) (fun vs sl h => R (d + 1) 182 (6, [some (.ref 0)], vs ++ [], sl, h)) :=
  (R_gob [6, 14, 19] 400 _ _ _).trans rfl
set_option maxRecDepth 100000 in
theorem m182_6 (d sl : Nat) (I : Nat → Int32) (w : Int64) (A : Nat → Nat → Int32) (N : Nat → Nat → Int64) (b0 : Int32) :
  R (d + 1) 182 (6, [some (.ref 0)], [.int b0], sl, (RH I w A N)) =
    cond (!decide (b0 = (nI 0))) (bC (C d 174 [.ref 0] sl (RH I w A N)) (fun vs sl h => R (d + 1) 182 (19, [some (.ref 0)], vs ++ [], sl, h))) (bC (C d 180 [.ref 0, .int (nI 1)] sl (RH I w A N)) (fun vs sl h => R (d + 1) 182 (14, [some (.ref 0)], vs ++ [], sl, h))) :=
  (R_gob [6, 14, 19] 400 _ _ _).trans rfl
set_option maxRecDepth 100000 in
theorem m182_19 (d sl : Nat) (I : Nat → Int32) (w : Int64) (A : Nat → Nat → Int32) (N : Nat → Nat → Int64)  :
  R (d + 1) 182 (19, [some (.ref 0)], [], sl, (RH I w A N)) =
    some (20, [some (.ref 0)], [.int (nI 1)], sl, (RH I w A N)) :=
  (R_gob [6, 14, 19] 400 _ _ _).trans rfl
set_option maxRecDepth 100000 in
theorem m182_14 (d sl : Nat) (I : Nat → Int32) (w : Int64) (A : Nat → Nat → Int32) (N : Nat → Nat → Int64) (b0 : Int32) :
  R (d + 1) 182 (14, [some (.ref 0)], [.int b0], sl, (RH I w A N)) =
    some (14, [some (.ref 0)], [.int b0], sl, (RH I w A N)) :=
  (R_gob [6, 14, 19] 400 _ _ _).trans rfl
set_option maxRecDepth 100000 in
theorem m183_0 (d sl : Nat) (I : Nat → Int32) (w : Int64) (A : Nat → Nat → Int32) (N : Nat → Nat → Int64) (a1 : Int32) :
  R (d + 1) 183 (0, [some (.ref 0), some (.int a1)], [], sl, (RH I w A N)) =
    bC (C d 165 [.ref 0] sl (RH (up1 I 0 (nI 0)) w A N)) (fun vs sl h => R (d + 1) 183 (10, [some (.ref 0), some (.int a1)], vs ++ [.ref 0], sl, h)) :=
  (R_gob [10, 32] 400 _ _ _).trans rfl
set_option maxRecDepth 100000 in
theorem m183_10 (d sl : Nat) (I : Nat → Int32) (w : Int64) (A : Nat → Nat → Int32) (N : Nat → Nat → Int64) (a1 : Int32) (b0 : Int32) :
  R (d + 1) 183 (10, [some (.ref 0), some (.int a1)], [.int b0, .ref 0], sl, (RH I w A N)) =
    bC (C d 174 [.ref 0] sl (RH (up1 (up1 (up1 (up1 I 3 b0) 4 a1) 5 (nI 0)) 10 (nI 0)) w A N)) (fun vs sl h => R (d + 1) 183 (32, [some (.ref 0), some (.int a1)], vs ++ [], sl, h)) :=
  (R_gob [10, 32] 400 _ _ _).trans rfl
set_option maxRecDepth 100000 in
theorem m183_32 (d sl : Nat) (I : Nat → Int32) (w : Int64) (A : Nat → Nat → Int32) (N : Nat → Nat → Int64) (a1 : Int32) :
  R (d + 1) 183 (32, [some (.ref 0), some (.int a1)], [], sl, (RH I w A N)) =
    some (32, [some (.ref 0), some (.int a1)], [], sl, (RH I w A N)) :=
  (R_gob [10, 32] 400 _ _ _).trans rfl
set_option maxRecDepth 100000 in
theorem m185_0 (d sl : Nat) (I : Nat → Int32) (w : Int64) (A : Nat → Nat → Int32) (N : Nat → Nat → Int64)  :
  R d 185 (0, [some (.ref 0), none], [], sl, (RH I w A N)) =
    R d 185 (3, [some (.ref 0), some (.int (nI 70))], [], sl, (RH I w A N)) :=
  (R_gob [3, 38, 69] 400 _ _ _).trans rfl
set_option maxRecDepth 100000 in
theorem m185_3 (d sl : Nat) (I : Nat → Int32) (w : Int64) (A : Nat → Nat → Int32) (N : Nat → Nat → Int64) (a1 : Int32) :
  R d 185 (3, [some (.ref 0), some (.int a1)], [], sl, (RH I w A N)) =
    cond (decide ((nI 369) ≤ a1)) (R d 185 (38, [some (.ref 0), some (.int (nI 0))], [], sl, (RH I w (up1 A 2 (upd (A 2) 72 ((A 2) 1))) N))) (cond (x_in a1 369) (R d 185 (3, [some (.ref 0), some (.int (a1 + (nI 1)))], [], sl, (RH I w (up1 A 2 (upd (A 2) a1.toNatClampNeg (nI 0))) N))) none) :=
  (R_gob [3, 38, 69] 400 _ _ _).trans rfl
set_option maxRecDepth 100000 in
theorem m185_38 (d sl : Nat) (I : Nat → Int32) (w : Int64) (A : Nat → Nat → Int32) (N : Nat → Nat → Int64) (a1 : Int32) :
  R d 185 (38, [some (.ref 0), some (.int a1)], [], sl, (RH I w A N)) =
    cond (decide ((nI 6) ≤ a1)) (R d 185 (69, [some (.ref 0), some (.int (nI 0))], [], sl, (RH I w A N))) (cond (x_in ((nI 4) + a1) 369) (cond (x_in ((nI 73) + a1) 369) (R d 185 (38, [some (.ref 0), some (.int (a1 + (nI 1)))], [], sl, (RH I w (up1 A 2 (upd (A 2) ((nI 73) + a1).toNatClampNeg ((A 2) ((nI 4) + a1).toNatClampNeg))) N))) none) none) :=
  (R_gob [3, 38, 69] 400 _ _ _).trans rfl
set_option maxRecDepth 100000 in
theorem m185_69 (d sl : Nat) (I : Nat → Int32) (w : Int64) (A : Nat → Nat → Int32) (N : Nat → Nat → Int64) (a1 : Int32) :
  R d 185 (69, [some (.ref 0), some (.int a1)], [], sl, (RH I w A N)) =
    cond (decide ((nI 48) ≤ a1)) (some (99, [some (.ref 0), some (.int a1)], [], sl, (RH I w A N))) (cond (x_in ((nI 22) + a1) 369) (cond (x_in ((nI 79) + a1) 369) (R d 185 (69, [some (.ref 0), some (.int (a1 + (nI 1)))], [], sl, (RH I w (up1 A 2 (upd (A 2) ((nI 79) + a1).toNatClampNeg ((A 2) ((nI 22) + a1).toNatClampNeg))) N))) none) none) :=
  (R_gob [3, 38, 69] 400 _ _ _).trans rfl
