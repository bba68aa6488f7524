/-! METHODS: where a call begins, what a return gives -/
def rt (j : Nat) : Option XR → Option (List Value × Nat × List AC)
  | none => none
  | some (pc2, _, st2, sl2, h2) => (match x_ret (xrk j) (xk j pc2).1 st2 with
    | none => none
    | some vs => some (vs, sl2, h2))
theorem C_rt (d j : Nat) (as : List Value) (sl : Nat) (h : List AC) : C d j as sl h = rt j (R d j (x_ent j as sl h)) := by
  unfold C rt
  cases R d j (x_ent j as sl h) with
  | none => rfl
  | some z => rfl
theorem rt_c (j : Nat) (b : Bool) (x y : Option XR) : rt j (cond b x y) = cond b (rt j x) (rt j y) := by cases b <;> rfl
theorem rt_ite (j : Nat) (p : Prop) [Decidable p] (x y : Option XR) : rt j (if p then x else y) = if p then rt j x else rt j y := by split <;> rfl
theorem e0 (d sl : Nat) (h : List AC) (a0 : Int32) (a1 : Int32) : C d 0 [.int a0, .int a1] sl h = rt 0 (R d 0 (0, [some (.int a0), some (.int a1)], [], sl, h)) := C_rt _ _ _ _ _
theorem t0_10 (ls : XL) (sl : Nat) (h : List AC) (v : Int32) : rt 0 (some (10, ls, [.int v], sl, h)) = some ([.int v], sl, h) := rfl
theorem e1 (d sl : Nat) (h : List AC) (a0 : Int32) (a1 : Int32) : C d 1 [.int a0, .int a1] sl h = rt 1 (R d 1 (0, [some (.int a0), some (.int a1)], [], sl, h)) := C_rt _ _ _ _ _
theorem t1_10 (ls : XL) (sl : Nat) (h : List AC) (v : Int32) : rt 1 (some (10, ls, [.int v], sl, h)) = some ([.int v], sl, h) := rfl
theorem e2 (d sl : Nat) (h : List AC) (a0 : Int32) : C d 2 [.int a0] sl h = rt 2 (R d 2 (0, [some (.int a0)], [], sl, h)) := C_rt _ _ _ _ _
theorem t2_52 (ls : XL) (sl : Nat) (h : List AC) (v : Int32) : rt 2 (some (52, ls, [.int v], sl, h)) = some ([.int v], sl, h) := rfl
theorem e3 (d sl : Nat) (h : List AC) (a0 : Int64) : C d 3 [.long a0] sl h = rt 3 (R d 3 (0, [some (.long a0), none, none], [], sl, h)) := C_rt _ _ _ _ _
theorem t3_28 (ls : XL) (sl : Nat) (h : List AC) (v : Nat) : rt 3 (some (28, ls, [.ref v], sl, h)) = some ([.ref v], sl, h) := rfl
theorem t3_28_n (ls : XL) (sl : Nat) (h : List AC) : rt 3 (some (28, ls, [.null], sl, h)) = some ([.null], sl, h) := rfl
theorem t3_36 (ls : XL) (sl : Nat) (h : List AC) (v : Nat) : rt 3 (some (36, ls, [.ref v], sl, h)) = some ([.ref v], sl, h) := rfl
theorem t3_36_n (ls : XL) (sl : Nat) (h : List AC) : rt 3 (some (36, ls, [.null], sl, h)) = some ([.null], sl, h) := rfl
theorem e4 (d sl : Nat) (h : List AC) (a0 : Nat) : C d 4 [.ref a0] sl h = rt 4 (R d 4 (0, [some (.ref a0)], [], sl, h)) := C_rt _ _ _ _ _
theorem t4_33 (ls : XL) (sl : Nat) (h : List AC) (b : Bool) : rt 4 (some (33, ls, [.int (x_b b)], sl, h)) = some ([.int (x_b b)], sl, h) := by cases b <;> rfl
theorem t4_33_0 (ls : XL) (sl : Nat) (h : List AC) : rt 4 (some (33, ls, [.int (nI 0)], sl, h)) = some ([.int (x_b false)], sl, h) := rfl
theorem t4_33_1 (ls : XL) (sl : Nat) (h : List AC) : rt 4 (some (33, ls, [.int (nI 1)], sl, h)) = some ([.int (x_b true)], sl, h) := rfl
theorem e5 (d sl : Nat) (h : List AC) (a0 : Nat) : C d 5 [.ref a0] sl h = rt 5 (R d 5 (0, [some (.ref a0)], [], sl, h)) := C_rt _ _ _ _ _
theorem t5_33 (ls : XL) (sl : Nat) (h : List AC) (b : Bool) : rt 5 (some (33, ls, [.int (x_b b)], sl, h)) = some ([.int (x_b b)], sl, h) := by cases b <;> rfl
theorem t5_33_0 (ls : XL) (sl : Nat) (h : List AC) : rt 5 (some (33, ls, [.int (nI 0)], sl, h)) = some ([.int (x_b false)], sl, h) := rfl
theorem t5_33_1 (ls : XL) (sl : Nat) (h : List AC) : rt 5 (some (33, ls, [.int (nI 1)], sl, h)) = some ([.int (x_b true)], sl, h) := rfl
theorem e6 (d sl : Nat) (h : List AC) (a0 : Nat) (a1 : Int32) : C d 6 [.ref a0, .int a1] sl h = rt 6 (R d 6 (0, [some (.ref a0), some (.int a1)], [], sl, h)) := C_rt _ _ _ _ _
theorem t6_9 (ls : XL) (sl : Nat) (h : List AC) : rt 6 (some (9, ls, [], sl, h)) = some ([], sl, h) := rfl
theorem e7 (d sl : Nat) (h : List AC) (a0 : Nat) (a1 : Int32) : C d 7 [.ref a0, .int a1] sl h = rt 7 (R d 7 (0, [some (.ref a0), some (.int a1)], [], sl, h)) := C_rt _ _ _ _ _
theorem t7_32 (ls : XL) (sl : Nat) (h : List AC) (v : Int32) : rt 7 (some (32, ls, [.int v], sl, h)) = some ([.int v], sl, h) := rfl
theorem e8 (d sl : Nat) (h : List AC) (a0 : Nat) : C d 8 [.ref a0] sl h = rt 8 (R d 8 (0, [some (.ref a0)], [], sl, h)) := C_rt _ _ _ _ _
theorem t8_66 (ls : XL) (sl : Nat) (h : List AC) : rt 8 (some (66, ls, [], sl, h)) = some ([], sl, h) := rfl
theorem e9 (d sl : Nat) (h : List AC) (a0 : Nat) (a1 : Nat) (a2 : Nat) : C d 9 [.ref a0, .ref a1, .ref a2] sl h = rt 9 (R d 9 (0, [some (.ref a0), some (.ref a1), some (.ref a2), none], [], sl, h)) := C_rt _ _ _ _ _
theorem t9_22 (ls : XL) (sl : Nat) (h : List AC) (b : Bool) : rt 9 (some (22, ls, [.int (x_b b)], sl, h)) = some ([.int (x_b b)], sl, h) := by cases b <;> rfl
theorem t9_22_0 (ls : XL) (sl : Nat) (h : List AC) : rt 9 (some (22, ls, [.int (nI 0)], sl, h)) = some ([.int (x_b false)], sl, h) := rfl
theorem t9_22_1 (ls : XL) (sl : Nat) (h : List AC) : rt 9 (some (22, ls, [.int (nI 1)], sl, h)) = some ([.int (x_b true)], sl, h) := rfl
theorem t9_42 (ls : XL) (sl : Nat) (h : List AC) (b : Bool) : rt 9 (some (42, ls, [.int (x_b b)], sl, h)) = some ([.int (x_b b)], sl, h) := by cases b <;> rfl
theorem t9_42_0 (ls : XL) (sl : Nat) (h : List AC) : rt 9 (some (42, ls, [.int (nI 0)], sl, h)) = some ([.int (x_b false)], sl, h) := rfl
theorem t9_42_1 (ls : XL) (sl : Nat) (h : List AC) : rt 9 (some (42, ls, [.int (nI 1)], sl, h)) = some ([.int (x_b true)], sl, h) := rfl
theorem t9_50 (ls : XL) (sl : Nat) (h : List AC) (b : Bool) : rt 9 (some (50, ls, [.int (x_b b)], sl, h)) = some ([.int (x_b b)], sl, h) := by cases b <;> rfl
theorem t9_50_0 (ls : XL) (sl : Nat) (h : List AC) : rt 9 (some (50, ls, [.int (nI 0)], sl, h)) = some ([.int (x_b false)], sl, h) := rfl
theorem t9_50_1 (ls : XL) (sl : Nat) (h : List AC) : rt 9 (some (50, ls, [.int (nI 1)], sl, h)) = some ([.int (x_b true)], sl, h) := rfl
theorem e10 (d sl : Nat) (h : List AC) (a0 : Nat) (a1 : Nat) (a2 : Nat) : C d 10 [.ref a0, .ref a1, .ref a2] sl h = rt 10 (R d 10 (0, [some (.ref a0), some (.ref a1), some (.ref a2), none, none, none], [], sl, h)) := C_rt _ _ _ _ _
theorem t10_30 (ls : XL) (sl : Nat) (h : List AC) (b : Bool) : rt 10 (some (30, ls, [.int (x_b b)], sl, h)) = some ([.int (x_b b)], sl, h) := by cases b <;> rfl
theorem t10_30_0 (ls : XL) (sl : Nat) (h : List AC) : rt 10 (some (30, ls, [.int (nI 0)], sl, h)) = some ([.int (x_b false)], sl, h) := rfl
theorem t10_30_1 (ls : XL) (sl : Nat) (h : List AC) : rt 10 (some (30, ls, [.int (nI 1)], sl, h)) = some ([.int (x_b true)], sl, h) := rfl
theorem t10_54 (ls : XL) (sl : Nat) (h : List AC) (b : Bool) : rt 10 (some (54, ls, [.int (x_b b)], sl, h)) = some ([.int (x_b b)], sl, h) := by cases b <;> rfl
theorem t10_54_0 (ls : XL) (sl : Nat) (h : List AC) : rt 10 (some (54, ls, [.int (nI 0)], sl, h)) = some ([.int (x_b false)], sl, h) := rfl
theorem t10_54_1 (ls : XL) (sl : Nat) (h : List AC) : rt 10 (some (54, ls, [.int (nI 1)], sl, h)) = some ([.int (x_b true)], sl, h) := rfl
theorem t10_69 (ls : XL) (sl : Nat) (h : List AC) (b : Bool) : rt 10 (some (69, ls, [.int (x_b b)], sl, h)) = some ([.int (x_b b)], sl, h) := by cases b <;> rfl
theorem t10_69_0 (ls : XL) (sl : Nat) (h : List AC) : rt 10 (some (69, ls, [.int (nI 0)], sl, h)) = some ([.int (x_b false)], sl, h) := rfl
theorem t10_69_1 (ls : XL) (sl : Nat) (h : List AC) : rt 10 (some (69, ls, [.int (nI 1)], sl, h)) = some ([.int (x_b true)], sl, h) := rfl
theorem t10_82 (ls : XL) (sl : Nat) (h : List AC) (b : Bool) : rt 10 (some (82, ls, [.int (x_b b)], sl, h)) = some ([.int (x_b b)], sl, h) := by cases b <;> rfl
theorem t10_82_0 (ls : XL) (sl : Nat) (h : List AC) : rt 10 (some (82, ls, [.int (nI 0)], sl, h)) = some ([.int (x_b false)], sl, h) := rfl
theorem t10_82_1 (ls : XL) (sl : Nat) (h : List AC) : rt 10 (some (82, ls, [.int (nI 1)], sl, h)) = some ([.int (x_b true)], sl, h) := rfl
theorem t10_133 (ls : XL) (sl : Nat) (h : List AC) (b : Bool) : rt 10 (some (133, ls, [.int (x_b b)], sl, h)) = some ([.int (x_b b)], sl, h) := by cases b <;> rfl
theorem t10_133_0 (ls : XL) (sl : Nat) (h : List AC) : rt 10 (some (133, ls, [.int (nI 0)], sl, h)) = some ([.int (x_b false)], sl, h) := rfl
theorem t10_133_1 (ls : XL) (sl : Nat) (h : List AC) : rt 10 (some (133, ls, [.int (nI 1)], sl, h)) = some ([.int (x_b true)], sl, h) := rfl
theorem t10_147 (ls : XL) (sl : Nat) (h : List AC) (b : Bool) : rt 10 (some (147, ls, [.int (x_b b)], sl, h)) = some ([.int (x_b b)], sl, h) := by cases b <;> rfl
theorem t10_147_0 (ls : XL) (sl : Nat) (h : List AC) : rt 10 (some (147, ls, [.int (nI 0)], sl, h)) = some ([.int (x_b false)], sl, h) := rfl
theorem t10_147_1 (ls : XL) (sl : Nat) (h : List AC) : rt 10 (some (147, ls, [.int (nI 1)], sl, h)) = some ([.int (x_b true)], sl, h) := rfl
theorem e11 (d sl : Nat) (h : List AC) (a0 : Nat) : C d 11 [.ref a0] sl h = rt 11 (R d 11 (0, [some (.ref a0)], [], sl, h)) := C_rt _ _ _ _ _
theorem t11_8 (ls : XL) (sl : Nat) (h : List AC) (v : Int32) : rt 11 (some (8, ls, [.int v], sl, h)) = some ([.int v], sl, h) := rfl
theorem t11_18 (ls : XL) (sl : Nat) (h : List AC) (v : Int32) : rt 11 (some (18, ls, [.int v], sl, h)) = some ([.int v], sl, h) := rfl
theorem t11_28 (ls : XL) (sl : Nat) (h : List AC) (v : Int32) : rt 11 (some (28, ls, [.int v], sl, h)) = some ([.int v], sl, h) := rfl
theorem t11_38 (ls : XL) (sl : Nat) (h : List AC) (v : Int32) : rt 11 (some (38, ls, [.int v], sl, h)) = some ([.int v], sl, h) := rfl
theorem t11_52 (ls : XL) (sl : Nat) (h : List AC) (v : Int32) : rt 11 (some (52, ls, [.int v], sl, h)) = some ([.int v], sl, h) := rfl
theorem e12 (d sl : Nat) (h : List AC) (a0 : Nat) (a1 : Nat) (a2 : Int32) : C d 12 [.ref a0, .ref a1, .int a2] sl h = rt 12 (R d 12 (0, [some (.ref a0), some (.ref a1), some (.int a2)], [], sl, h)) := C_rt _ _ _ _ _
theorem t12_44 (ls : XL) (sl : Nat) (h : List AC) (b : Bool) : rt 12 (some (44, ls, [.int (x_b b)], sl, h)) = some ([.int (x_b b)], sl, h) := by cases b <;> rfl
theorem t12_44_0 (ls : XL) (sl : Nat) (h : List AC) : rt 12 (some (44, ls, [.int (nI 0)], sl, h)) = some ([.int (x_b false)], sl, h) := rfl
theorem t12_44_1 (ls : XL) (sl : Nat) (h : List AC) : rt 12 (some (44, ls, [.int (nI 1)], sl, h)) = some ([.int (x_b true)], sl, h) := rfl
theorem t12_51 (ls : XL) (sl : Nat) (h : List AC) (b : Bool) : rt 12 (some (51, ls, [.int (x_b b)], sl, h)) = some ([.int (x_b b)], sl, h) := by cases b <;> rfl
theorem t12_51_0 (ls : XL) (sl : Nat) (h : List AC) : rt 12 (some (51, ls, [.int (nI 0)], sl, h)) = some ([.int (x_b false)], sl, h) := rfl
theorem t12_51_1 (ls : XL) (sl : Nat) (h : List AC) : rt 12 (some (51, ls, [.int (nI 1)], sl, h)) = some ([.int (x_b true)], sl, h) := rfl
theorem t12_59 (ls : XL) (sl : Nat) (h : List AC) (b : Bool) : rt 12 (some (59, ls, [.int (x_b b)], sl, h)) = some ([.int (x_b b)], sl, h) := by cases b <;> rfl
theorem t12_59_0 (ls : XL) (sl : Nat) (h : List AC) : rt 12 (some (59, ls, [.int (nI 0)], sl, h)) = some ([.int (x_b false)], sl, h) := rfl
theorem t12_59_1 (ls : XL) (sl : Nat) (h : List AC) : rt 12 (some (59, ls, [.int (nI 1)], sl, h)) = some ([.int (x_b true)], sl, h) := rfl
theorem t12_61 (ls : XL) (sl : Nat) (h : List AC) (b : Bool) : rt 12 (some (61, ls, [.int (x_b b)], sl, h)) = some ([.int (x_b b)], sl, h) := by cases b <;> rfl
theorem t12_61_0 (ls : XL) (sl : Nat) (h : List AC) : rt 12 (some (61, ls, [.int (nI 0)], sl, h)) = some ([.int (x_b false)], sl, h) := rfl
theorem t12_61_1 (ls : XL) (sl : Nat) (h : List AC) : rt 12 (some (61, ls, [.int (nI 1)], sl, h)) = some ([.int (x_b true)], sl, h) := rfl
theorem e13 (d sl : Nat) (h : List AC) (a0 : Nat) (a1 : Nat) (a2 : Nat) : C d 13 [.ref a0, .ref a1, .ref a2] sl h = rt 13 (R d 13 (0, [some (.ref a0), some (.ref a1), some (.ref a2), none, none], [], sl, h)) := C_rt _ _ _ _ _
theorem t13_10 (ls : XL) (sl : Nat) (h : List AC) (b : Bool) : rt 13 (some (10, ls, [.int (x_b b)], sl, h)) = some ([.int (x_b b)], sl, h) := by cases b <;> rfl
theorem t13_10_0 (ls : XL) (sl : Nat) (h : List AC) : rt 13 (some (10, ls, [.int (nI 0)], sl, h)) = some ([.int (x_b false)], sl, h) := rfl
theorem t13_10_1 (ls : XL) (sl : Nat) (h : List AC) : rt 13 (some (10, ls, [.int (nI 1)], sl, h)) = some ([.int (x_b true)], sl, h) := rfl
theorem t13_38 (ls : XL) (sl : Nat) (h : List AC) (b : Bool) : rt 13 (some (38, ls, [.int (x_b b)], sl, h)) = some ([.int (x_b b)], sl, h) := by cases b <;> rfl
theorem t13_38_0 (ls : XL) (sl : Nat) (h : List AC) : rt 13 (some (38, ls, [.int (nI 0)], sl, h)) = some ([.int (x_b false)], sl, h) := rfl
theorem t13_38_1 (ls : XL) (sl : Nat) (h : List AC) : rt 13 (some (38, ls, [.int (nI 1)], sl, h)) = some ([.int (x_b true)], sl, h) := rfl
theorem t13_55 (ls : XL) (sl : Nat) (h : List AC) (b : Bool) : rt 13 (some (55, ls, [.int (x_b b)], sl, h)) = some ([.int (x_b b)], sl, h) := by cases b <;> rfl
theorem t13_55_0 (ls : XL) (sl : Nat) (h : List AC) : rt 13 (some (55, ls, [.int (nI 0)], sl, h)) = some ([.int (x_b false)], sl, h) := rfl
theorem t13_55_1 (ls : XL) (sl : Nat) (h : List AC) : rt 13 (some (55, ls, [.int (nI 1)], sl, h)) = some ([.int (x_b true)], sl, h) := rfl
theorem t13_70 (ls : XL) (sl : Nat) (h : List AC) (b : Bool) : rt 13 (some (70, ls, [.int (x_b b)], sl, h)) = some ([.int (x_b b)], sl, h) := by cases b <;> rfl
theorem t13_70_0 (ls : XL) (sl : Nat) (h : List AC) : rt 13 (some (70, ls, [.int (nI 0)], sl, h)) = some ([.int (x_b false)], sl, h) := rfl
theorem t13_70_1 (ls : XL) (sl : Nat) (h : List AC) : rt 13 (some (70, ls, [.int (nI 1)], sl, h)) = some ([.int (x_b true)], sl, h) := rfl
theorem e14 (d sl : Nat) (h : List AC) (a0 : Nat) (a1 : Int32) (a2 : Int32) (a3 : Int32) (a4 : Int32) : C d 14 [.ref a0, .int a1, .int a2, .int a3, .int a4] sl h = rt 14 (R d 14 (0, [some (.ref a0), some (.int a1), some (.int a2), some (.int a3), some (.int a4)], [], sl, h)) := C_rt _ _ _ _ _
theorem t14_60 (ls : XL) (sl : Nat) (h : List AC) : rt 14 (some (60, ls, [], sl, h)) = some ([], sl, h) := rfl
theorem e15 (d sl : Nat) (h : List AC) (a0 : Nat) (a1 : Nat) : C d 15 [.ref a0, .ref a1] sl h = rt 15 (R d 15 (0, [some (.ref a0), some (.ref a1), none], [], sl, h)) := C_rt _ _ _ _ _
theorem t15_81 (ls : XL) (sl : Nat) (h : List AC) : rt 15 (some (81, ls, [], sl, h)) = some ([], sl, h) := rfl
theorem e16 (d sl : Nat) (h : List AC) (a0 : Nat) (a1 : Nat) (a2 : Int32) : C d 16 [.ref a0, .ref a1, .int a2] sl h = rt 16 (R d 16 (0, [some (.ref a0), some (.ref a1), some (.int a2), none, none], [], sl, h)) := C_rt _ _ _ _ _
theorem t16_96 (ls : XL) (sl : Nat) (h : List AC) (v : Int32) : rt 16 (some (96, ls, [.int v], sl, h)) = some ([.int v], sl, h) := rfl
theorem e17 (d sl : Nat) (h : List AC) (a0 : Nat) (a1 : Int32) : C d 17 [.ref a0, .int a1] sl h = rt 17 (R d 17 (0, [some (.ref a0), some (.int a1), none], [], sl, h)) := C_rt _ _ _ _ _
theorem t17_9 (ls : XL) (sl : Nat) (h : List AC) (v : Int32) : rt 17 (some (9, ls, [.int v], sl, h)) = some ([.int v], sl, h) := rfl
theorem t17_28 (ls : XL) (sl : Nat) (h : List AC) (v : Int32) : rt 17 (some (28, ls, [.int v], sl, h)) = some ([.int v], sl, h) := rfl
theorem e18 (d sl : Nat) (h : List AC) (a0 : Nat) (a1 : Int32) (a2 : Int32) (a3 : Int32) : C d 18 [.ref a0, .int a1, .int a2, .int a3] sl h = rt 18 (R d 18 (0, [some (.ref a0), some (.int a1), some (.int a2), some (.int a3)], [], sl, h)) := C_rt _ _ _ _ _
theorem t18_24 (ls : XL) (sl : Nat) (h : List AC) (v : Int32) : rt 18 (some (24, ls, [.int v], sl, h)) = some ([.int v], sl, h) := rfl
theorem t18_66 (ls : XL) (sl : Nat) (h : List AC) (v : Int32) : rt 18 (some (66, ls, [.int v], sl, h)) = some ([.int v], sl, h) := rfl
theorem t18_73 (ls : XL) (sl : Nat) (h : List AC) (v : Int32) : rt 18 (some (73, ls, [.int v], sl, h)) = some ([.int v], sl, h) := rfl
theorem t18_79 (ls : XL) (sl : Nat) (h : List AC) (v : Int32) : rt 18 (some (79, ls, [.int v], sl, h)) = some ([.int v], sl, h) := rfl
theorem t18_86 (ls : XL) (sl : Nat) (h : List AC) (v : Int32) : rt 18 (some (86, ls, [.int v], sl, h)) = some ([.int v], sl, h) := rfl
theorem e19 (d sl : Nat) (h : List AC) (a0 : Nat) : C d 19 [.ref a0] sl h = rt 19 (R d 19 (0, [some (.ref a0)], [], sl, h)) := C_rt _ _ _ _ _
theorem t19_17 (ls : XL) (sl : Nat) (h : List AC) : rt 19 (some (17, ls, [], sl, h)) = some ([], sl, h) := rfl
theorem e20 (d sl : Nat) (h : List AC) (a0 : Nat) (a1 : Nat) (a2 : Int32) : C d 20 [.ref a0, .ref a1, .int a2] sl h = rt 20 (R d 20 (0, [some (.ref a0), some (.ref a1), some (.int a2)], [], sl, h)) := C_rt _ _ _ _ _
theorem t20_90 (ls : XL) (sl : Nat) (h : List AC) : rt 20 (some (90, ls, [], sl, h)) = some ([], sl, h) := rfl
theorem e21 (d sl : Nat) (h : List AC) (a0 : Nat) (a1 : Int32) : C d 21 [.ref a0, .int a1] sl h = rt 21 (R d 21 (0, [some (.ref a0), some (.int a1)], [], sl, h)) := C_rt _ _ _ _ _
theorem t21_22 (ls : XL) (sl : Nat) (h : List AC) (v : Int32) : rt 21 (some (22, ls, [.int v], sl, h)) = some ([.int v], sl, h) := rfl
theorem e22 (d sl : Nat) (h : List AC) (a0 : Nat) (a1 : Int32) : C d 22 [.ref a0, .int a1] sl h = rt 22 (R d 22 (0, [some (.ref a0), some (.int a1)], [], sl, h)) := C_rt _ _ _ _ _
theorem t22_30 (ls : XL) (sl : Nat) (h : List AC) : rt 22 (some (30, ls, [], sl, h)) = some ([], sl, h) := rfl
theorem e23 (d sl : Nat) (h : List AC) (a0 : Nat) (a1 : Nat) : C d 23 [.ref a0, .ref a1] sl h = rt 23 (R d 23 (0, [some (.ref a0), some (.ref a1), none], [], sl, h)) := C_rt _ _ _ _ _
theorem t23_25 (ls : XL) (sl : Nat) (h : List AC) : rt 23 (some (25, ls, [], sl, h)) = some ([], sl, h) := rfl
theorem e24 (d sl : Nat) (h : List AC) (a0 : Nat) (a1 : Int64) : C d 24 [.ref a0, .long a1] sl h = rt 24 (R d 24 (0, [some (.ref a0), some (.long a1), none, none, none], [], sl, h)) := C_rt _ _ _ _ _
theorem t24_34 (ls : XL) (sl : Nat) (h : List AC) : rt 24 (some (34, ls, [], sl, h)) = some ([], sl, h) := rfl
theorem e25 (d sl : Nat) (h : List AC) (a0 : Nat) (a1 : Int32) : C d 25 [.ref a0, .int a1] sl h = rt 25 (R d 25 (0, [some (.ref a0), some (.int a1), none], [], sl, h)) := C_rt _ _ _ _ _
theorem t25_39 (ls : XL) (sl : Nat) (h : List AC) : rt 25 (some (39, ls, [], sl, h)) = some ([], sl, h) := rfl
theorem e26 (d sl : Nat) (h : List AC) (a0 : Nat) : C d 26 [.ref a0] sl h = rt 26 (R d 26 (0, [some (.ref a0), none], [], sl, h)) := C_rt _ _ _ _ _
theorem t26_50 (ls : XL) (sl : Nat) (h : List AC) : rt 26 (some (50, ls, [], sl, h)) = some ([], sl, h) := rfl
theorem e27 (d sl : Nat) (h : List AC) (a0 : Nat) (a1 : Nat) : C d 27 [.ref a0, .ref a1] sl h = rt 27 (R d 27 (0, [some (.ref a0), some (.ref a1)], [], sl, h)) := C_rt _ _ _ _ _
theorem t27_41 (ls : XL) (sl : Nat) (h : List AC) : rt 27 (some (41, ls, [], sl, h)) = some ([], sl, h) := rfl
theorem e28 (d sl : Nat) (h : List AC) (a0 : Nat) (a1 : Nat) : C d 28 [.ref a0, .ref a1] sl h = rt 28 (R d 28 (0, [some (.ref a0), some (.ref a1)], [], sl, h)) := C_rt _ _ _ _ _
theorem t28_8 (ls : XL) (sl : Nat) (h : List AC) (b : Bool) : rt 28 (some (8, ls, [.int (x_b b)], sl, h)) = some ([.int (x_b b)], sl, h) := by cases b <;> rfl
theorem t28_8_0 (ls : XL) (sl : Nat) (h : List AC) : rt 28 (some (8, ls, [.int (nI 0)], sl, h)) = some ([.int (x_b false)], sl, h) := rfl
theorem t28_8_1 (ls : XL) (sl : Nat) (h : List AC) : rt 28 (some (8, ls, [.int (nI 1)], sl, h)) = some ([.int (x_b true)], sl, h) := rfl
theorem t28_49 (ls : XL) (sl : Nat) (h : List AC) (b : Bool) : rt 28 (some (49, ls, [.int (x_b b)], sl, h)) = some ([.int (x_b b)], sl, h) := by cases b <;> rfl
theorem t28_49_0 (ls : XL) (sl : Nat) (h : List AC) : rt 28 (some (49, ls, [.int (nI 0)], sl, h)) = some ([.int (x_b false)], sl, h) := rfl
theorem t28_49_1 (ls : XL) (sl : Nat) (h : List AC) : rt 28 (some (49, ls, [.int (nI 1)], sl, h)) = some ([.int (x_b true)], sl, h) := rfl
theorem e29 (d sl : Nat) (h : List AC) (a0 : Nat) : C d 29 [.ref a0] sl h = rt 29 (R d 29 (0, [some (.ref a0)], [], sl, h)) := C_rt _ _ _ _ _
theorem t29_5 (ls : XL) (sl : Nat) (h : List AC) : rt 29 (some (5, ls, [], sl, h)) = some ([], sl, h) := rfl
theorem e30 (d sl : Nat) (h : List AC) (a0 : Nat) : C d 30 [.ref a0] sl h = rt 30 (R d 30 (0, [some (.ref a0)], [], sl, h)) := C_rt _ _ _ _ _
theorem t30_34 (ls : XL) (sl : Nat) (h : List AC) : rt 30 (some (34, ls, [], sl, h)) = some ([], sl, h) := rfl
theorem e31 (d sl : Nat) (h : List AC) (a0 : Nat) (a1 : Nat) (a2 : Int32) (a3 : Int32) : C d 31 [.ref a0, .ref a1, .int a2, .int a3] sl h = rt 31 (R d 31 (0, [some (.ref a0), some (.ref a1), some (.int a2), some (.int a3)], [], sl, h)) := C_rt _ _ _ _ _
theorem t31_49 (ls : XL) (sl : Nat) (h : List AC) : rt 31 (some (49, ls, [], sl, h)) = some ([], sl, h) := rfl
theorem e32 (d sl : Nat) (h : List AC) (a0 : Nat) (a1 : Nat) : C d 32 [.ref a0, .ref a1] sl h = rt 32 (R d 32 (0, [some (.ref a0), some (.ref a1), none], [], sl, h)) := C_rt _ _ _ _ _
theorem t32_43 (ls : XL) (sl : Nat) (h : List AC) : rt 32 (some (43, ls, [], sl, h)) = some ([], sl, h) := rfl
theorem e33 (d sl : Nat) (h : List AC) (a0 : Nat) (a1 : Nat) (a2 : Int32) (a3 : Int32) : C d 33 [.ref a0, .ref a1, .int a2, .int a3] sl h = rt 33 (R d 33 (0, [some (.ref a0), some (.ref a1), some (.int a2), some (.int a3), none, none, none], [], sl, h)) := C_rt _ _ _ _ _
theorem t33_164 (ls : XL) (sl : Nat) (h : List AC) (b : Bool) : rt 33 (some (164, ls, [.int (x_b b)], sl, h)) = some ([.int (x_b b)], sl, h) := by cases b <;> rfl
theorem t33_164_0 (ls : XL) (sl : Nat) (h : List AC) : rt 33 (some (164, ls, [.int (nI 0)], sl, h)) = some ([.int (x_b false)], sl, h) := rfl
theorem t33_164_1 (ls : XL) (sl : Nat) (h : List AC) : rt 33 (some (164, ls, [.int (nI 1)], sl, h)) = some ([.int (x_b true)], sl, h) := rfl
theorem e34 (d sl : Nat) (h : List AC) (a0 : Nat) (a1 : Int32) (a2 : Nat) (a3 : Int32) : C d 34 [.ref a0, .int a1, .ref a2, .int a3] sl h = rt 34 (R d 34 (0, [some (.ref a0), some (.int a1), some (.ref a2), some (.int a3), none], [], sl, h)) := C_rt _ _ _ _ _
theorem t34_14 (ls : XL) (sl : Nat) (h : List AC) (b : Bool) : rt 34 (some (14, ls, [.int (x_b b)], sl, h)) = some ([.int (x_b b)], sl, h) := by cases b <;> rfl
theorem t34_14_0 (ls : XL) (sl : Nat) (h : List AC) : rt 34 (some (14, ls, [.int (nI 0)], sl, h)) = some ([.int (x_b false)], sl, h) := rfl
theorem t34_14_1 (ls : XL) (sl : Nat) (h : List AC) : rt 34 (some (14, ls, [.int (nI 1)], sl, h)) = some ([.int (x_b true)], sl, h) := rfl
theorem t34_85 (ls : XL) (sl : Nat) (h : List AC) (b : Bool) : rt 34 (some (85, ls, [.int (x_b b)], sl, h)) = some ([.int (x_b b)], sl, h) := by cases b <;> rfl
theorem t34_85_0 (ls : XL) (sl : Nat) (h : List AC) : rt 34 (some (85, ls, [.int (nI 0)], sl, h)) = some ([.int (x_b false)], sl, h) := rfl
theorem t34_85_1 (ls : XL) (sl : Nat) (h : List AC) : rt 34 (some (85, ls, [.int (nI 1)], sl, h)) = some ([.int (x_b true)], sl, h) := rfl
theorem t34_91 (ls : XL) (sl : Nat) (h : List AC) (b : Bool) : rt 34 (some (91, ls, [.int (x_b b)], sl, h)) = some ([.int (x_b b)], sl, h) := by cases b <;> rfl
theorem t34_91_0 (ls : XL) (sl : Nat) (h : List AC) : rt 34 (some (91, ls, [.int (nI 0)], sl, h)) = some ([.int (x_b false)], sl, h) := rfl
theorem t34_91_1 (ls : XL) (sl : Nat) (h : List AC) : rt 34 (some (91, ls, [.int (nI 1)], sl, h)) = some ([.int (x_b true)], sl, h) := rfl
theorem t34_111 (ls : XL) (sl : Nat) (h : List AC) (b : Bool) : rt 34 (some (111, ls, [.int (x_b b)], sl, h)) = some ([.int (x_b b)], sl, h) := by cases b <;> rfl
theorem t34_111_0 (ls : XL) (sl : Nat) (h : List AC) : rt 34 (some (111, ls, [.int (nI 0)], sl, h)) = some ([.int (x_b false)], sl, h) := rfl
theorem t34_111_1 (ls : XL) (sl : Nat) (h : List AC) : rt 34 (some (111, ls, [.int (nI 1)], sl, h)) = some ([.int (x_b true)], sl, h) := rfl
theorem t34_123 (ls : XL) (sl : Nat) (h : List AC) (b : Bool) : rt 34 (some (123, ls, [.int (x_b b)], sl, h)) = some ([.int (x_b b)], sl, h) := by cases b <;> rfl
theorem t34_123_0 (ls : XL) (sl : Nat) (h : List AC) : rt 34 (some (123, ls, [.int (nI 0)], sl, h)) = some ([.int (x_b false)], sl, h) := rfl
theorem t34_123_1 (ls : XL) (sl : Nat) (h : List AC) : rt 34 (some (123, ls, [.int (nI 1)], sl, h)) = some ([.int (x_b true)], sl, h) := rfl
theorem t34_135 (ls : XL) (sl : Nat) (h : List AC) (b : Bool) : rt 34 (some (135, ls, [.int (x_b b)], sl, h)) = some ([.int (x_b b)], sl, h) := by cases b <;> rfl
theorem t34_135_0 (ls : XL) (sl : Nat) (h : List AC) : rt 34 (some (135, ls, [.int (nI 0)], sl, h)) = some ([.int (x_b false)], sl, h) := rfl
theorem t34_135_1 (ls : XL) (sl : Nat) (h : List AC) : rt 34 (some (135, ls, [.int (nI 1)], sl, h)) = some ([.int (x_b true)], sl, h) := rfl
theorem t34_146 (ls : XL) (sl : Nat) (h : List AC) (b : Bool) : rt 34 (some (146, ls, [.int (x_b b)], sl, h)) = some ([.int (x_b b)], sl, h) := by cases b <;> rfl
theorem t34_146_0 (ls : XL) (sl : Nat) (h : List AC) : rt 34 (some (146, ls, [.int (nI 0)], sl, h)) = some ([.int (x_b false)], sl, h) := rfl
theorem t34_146_1 (ls : XL) (sl : Nat) (h : List AC) : rt 34 (some (146, ls, [.int (nI 1)], sl, h)) = some ([.int (x_b true)], sl, h) := rfl
theorem t34_158 (ls : XL) (sl : Nat) (h : List AC) (b : Bool) : rt 34 (some (158, ls, [.int (x_b b)], sl, h)) = some ([.int (x_b b)], sl, h) := by cases b <;> rfl
theorem t34_158_0 (ls : XL) (sl : Nat) (h : List AC) : rt 34 (some (158, ls, [.int (nI 0)], sl, h)) = some ([.int (x_b false)], sl, h) := rfl
theorem t34_158_1 (ls : XL) (sl : Nat) (h : List AC) : rt 34 (some (158, ls, [.int (nI 1)], sl, h)) = some ([.int (x_b true)], sl, h) := rfl
theorem t34_165 (ls : XL) (sl : Nat) (h : List AC) (b : Bool) : rt 34 (some (165, ls, [.int (x_b b)], sl, h)) = some ([.int (x_b b)], sl, h) := by cases b <;> rfl
theorem t34_165_0 (ls : XL) (sl : Nat) (h : List AC) : rt 34 (some (165, ls, [.int (nI 0)], sl, h)) = some ([.int (x_b false)], sl, h) := rfl
theorem t34_165_1 (ls : XL) (sl : Nat) (h : List AC) : rt 34 (some (165, ls, [.int (nI 1)], sl, h)) = some ([.int (x_b true)], sl, h) := rfl
theorem t34_167 (ls : XL) (sl : Nat) (h : List AC) (b : Bool) : rt 34 (some (167, ls, [.int (x_b b)], sl, h)) = some ([.int (x_b b)], sl, h) := by cases b <;> rfl
theorem t34_167_0 (ls : XL) (sl : Nat) (h : List AC) : rt 34 (some (167, ls, [.int (nI 0)], sl, h)) = some ([.int (x_b false)], sl, h) := rfl
theorem t34_167_1 (ls : XL) (sl : Nat) (h : List AC) : rt 34 (some (167, ls, [.int (nI 1)], sl, h)) = some ([.int (x_b true)], sl, h) := rfl
theorem e35 (d sl : Nat) (h : List AC) (a0 : Nat) (a1 : Int32) (a2 : Int32) : C d 35 [.ref a0, .int a1, .int a2] sl h = rt 35 (R d 35 (0, [some (.ref a0), some (.int a1), some (.int a2)], [], sl, h)) := C_rt _ _ _ _ _
theorem t35_26 (ls : XL) (sl : Nat) (h : List AC) (b : Bool) : rt 35 (some (26, ls, [.int (x_b b)], sl, h)) = some ([.int (x_b b)], sl, h) := by cases b <;> rfl
theorem t35_26_0 (ls : XL) (sl : Nat) (h : List AC) : rt 35 (some (26, ls, [.int (nI 0)], sl, h)) = some ([.int (x_b false)], sl, h) := rfl
theorem t35_26_1 (ls : XL) (sl : Nat) (h : List AC) : rt 35 (some (26, ls, [.int (nI 1)], sl, h)) = some ([.int (x_b true)], sl, h) := rfl
theorem t35_71 (ls : XL) (sl : Nat) (h : List AC) (b : Bool) : rt 35 (some (71, ls, [.int (x_b b)], sl, h)) = some ([.int (x_b b)], sl, h) := by cases b <;> rfl
theorem t35_71_0 (ls : XL) (sl : Nat) (h : List AC) : rt 35 (some (71, ls, [.int (nI 0)], sl, h)) = some ([.int (x_b false)], sl, h) := rfl
theorem t35_71_1 (ls : XL) (sl : Nat) (h : List AC) : rt 35 (some (71, ls, [.int (nI 1)], sl, h)) = some ([.int (x_b true)], sl, h) := rfl
theorem e36 (d sl : Nat) (h : List AC) (a0 : Nat) (a1 : Nat) (a2 : Nat) (a3 : Nat) : C d 36 [.ref a0, .ref a1, .ref a2, .ref a3] sl h = rt 36 (R d 36 (0, [some (.ref a0), some (.ref a1), some (.ref a2), some (.ref a3)], [], sl, h)) := C_rt _ _ _ _ _
theorem t36_24 (ls : XL) (sl : Nat) (h : List AC) : rt 36 (some (24, ls, [], sl, h)) = some ([], sl, h) := rfl
theorem e37 (d sl : Nat) (h : List AC) (a0 : Nat) (a1 : Int32) : C d 37 [.ref a0, .int a1] sl h = rt 37 (R d 37 (0, [some (.ref a0), some (.int a1), none], [], sl, h)) := C_rt _ _ _ _ _
theorem t37_9 (ls : XL) (sl : Nat) (h : List AC) (b : Bool) : rt 37 (some (9, ls, [.int (x_b b)], sl, h)) = some ([.int (x_b b)], sl, h) := by cases b <;> rfl
theorem t37_9_0 (ls : XL) (sl : Nat) (h : List AC) : rt 37 (some (9, ls, [.int (nI 0)], sl, h)) = some ([.int (x_b false)], sl, h) := rfl
theorem t37_9_1 (ls : XL) (sl : Nat) (h : List AC) : rt 37 (some (9, ls, [.int (nI 1)], sl, h)) = some ([.int (x_b true)], sl, h) := rfl
theorem t37_47 (ls : XL) (sl : Nat) (h : List AC) (b : Bool) : rt 37 (some (47, ls, [.int (x_b b)], sl, h)) = some ([.int (x_b b)], sl, h) := by cases b <;> rfl
theorem t37_47_0 (ls : XL) (sl : Nat) (h : List AC) : rt 37 (some (47, ls, [.int (nI 0)], sl, h)) = some ([.int (x_b false)], sl, h) := rfl
theorem t37_47_1 (ls : XL) (sl : Nat) (h : List AC) : rt 37 (some (47, ls, [.int (nI 1)], sl, h)) = some ([.int (x_b true)], sl, h) := rfl
theorem t37_67 (ls : XL) (sl : Nat) (h : List AC) (b : Bool) : rt 37 (some (67, ls, [.int (x_b b)], sl, h)) = some ([.int (x_b b)], sl, h) := by cases b <;> rfl
theorem t37_67_0 (ls : XL) (sl : Nat) (h : List AC) : rt 37 (some (67, ls, [.int (nI 0)], sl, h)) = some ([.int (x_b false)], sl, h) := rfl
theorem t37_67_1 (ls : XL) (sl : Nat) (h : List AC) : rt 37 (some (67, ls, [.int (nI 1)], sl, h)) = some ([.int (x_b true)], sl, h) := rfl
theorem e38 (d sl : Nat) (h : List AC) (a0 : Nat) (a1 : Int32) : C d 38 [.ref a0, .int a1] sl h = rt 38 (R d 38 (0, [some (.ref a0), some (.int a1), none], [], sl, h)) := C_rt _ _ _ _ _
theorem t38_9 (ls : XL) (sl : Nat) (h : List AC) (b : Bool) : rt 38 (some (9, ls, [.int (x_b b)], sl, h)) = some ([.int (x_b b)], sl, h) := by cases b <;> rfl
theorem t38_9_0 (ls : XL) (sl : Nat) (h : List AC) : rt 38 (some (9, ls, [.int (nI 0)], sl, h)) = some ([.int (x_b false)], sl, h) := rfl
theorem t38_9_1 (ls : XL) (sl : Nat) (h : List AC) : rt 38 (some (9, ls, [.int (nI 1)], sl, h)) = some ([.int (x_b true)], sl, h) := rfl
theorem t38_47 (ls : XL) (sl : Nat) (h : List AC) (b : Bool) : rt 38 (some (47, ls, [.int (x_b b)], sl, h)) = some ([.int (x_b b)], sl, h) := by cases b <;> rfl
theorem t38_47_0 (ls : XL) (sl : Nat) (h : List AC) : rt 38 (some (47, ls, [.int (nI 0)], sl, h)) = some ([.int (x_b false)], sl, h) := rfl
theorem t38_47_1 (ls : XL) (sl : Nat) (h : List AC) : rt 38 (some (47, ls, [.int (nI 1)], sl, h)) = some ([.int (x_b true)], sl, h) := rfl
theorem t38_67 (ls : XL) (sl : Nat) (h : List AC) (b : Bool) : rt 38 (some (67, ls, [.int (x_b b)], sl, h)) = some ([.int (x_b b)], sl, h) := by cases b <;> rfl
theorem t38_67_0 (ls : XL) (sl : Nat) (h : List AC) : rt 38 (some (67, ls, [.int (nI 0)], sl, h)) = some ([.int (x_b false)], sl, h) := rfl
theorem t38_67_1 (ls : XL) (sl : Nat) (h : List AC) : rt 38 (some (67, ls, [.int (nI 1)], sl, h)) = some ([.int (x_b true)], sl, h) := rfl
theorem e39 (d sl : Nat) (h : List AC) (a0 : Nat) (a1 : Int32) : C d 39 [.ref a0, .int a1] sl h = rt 39 (R d 39 (0, [some (.ref a0), some (.int a1), none], [], sl, h)) := C_rt _ _ _ _ _
theorem t39_15 (ls : XL) (sl : Nat) (h : List AC) (b : Bool) : rt 39 (some (15, ls, [.int (x_b b)], sl, h)) = some ([.int (x_b b)], sl, h) := by cases b <;> rfl
theorem t39_15_0 (ls : XL) (sl : Nat) (h : List AC) : rt 39 (some (15, ls, [.int (nI 0)], sl, h)) = some ([.int (x_b false)], sl, h) := rfl
theorem t39_15_1 (ls : XL) (sl : Nat) (h : List AC) : rt 39 (some (15, ls, [.int (nI 1)], sl, h)) = some ([.int (x_b true)], sl, h) := rfl
theorem t39_39 (ls : XL) (sl : Nat) (h : List AC) (b : Bool) : rt 39 (some (39, ls, [.int (x_b b)], sl, h)) = some ([.int (x_b b)], sl, h) := by cases b <;> rfl
theorem t39_39_0 (ls : XL) (sl : Nat) (h : List AC) : rt 39 (some (39, ls, [.int (nI 0)], sl, h)) = some ([.int (x_b false)], sl, h) := rfl
theorem t39_39_1 (ls : XL) (sl : Nat) (h : List AC) : rt 39 (some (39, ls, [.int (nI 1)], sl, h)) = some ([.int (x_b true)], sl, h) := rfl
theorem t39_96 (ls : XL) (sl : Nat) (h : List AC) (b : Bool) : rt 39 (some (96, ls, [.int (x_b b)], sl, h)) = some ([.int (x_b b)], sl, h) := by cases b <;> rfl
theorem t39_96_0 (ls : XL) (sl : Nat) (h : List AC) : rt 39 (some (96, ls, [.int (nI 0)], sl, h)) = some ([.int (x_b false)], sl, h) := rfl
theorem t39_96_1 (ls : XL) (sl : Nat) (h : List AC) : rt 39 (some (96, ls, [.int (nI 1)], sl, h)) = some ([.int (x_b true)], sl, h) := rfl
theorem t39_115 (ls : XL) (sl : Nat) (h : List AC) (b : Bool) : rt 39 (some (115, ls, [.int (x_b b)], sl, h)) = some ([.int (x_b b)], sl, h) := by cases b <;> rfl
theorem t39_115_0 (ls : XL) (sl : Nat) (h : List AC) : rt 39 (some (115, ls, [.int (nI 0)], sl, h)) = some ([.int (x_b false)], sl, h) := rfl
theorem t39_115_1 (ls : XL) (sl : Nat) (h : List AC) : rt 39 (some (115, ls, [.int (nI 1)], sl, h)) = some ([.int (x_b true)], sl, h) := rfl
theorem t39_129 (ls : XL) (sl : Nat) (h : List AC) (b : Bool) : rt 39 (some (129, ls, [.int (x_b b)], sl, h)) = some ([.int (x_b b)], sl, h) := by cases b <;> rfl
theorem t39_129_0 (ls : XL) (sl : Nat) (h : List AC) : rt 39 (some (129, ls, [.int (nI 0)], sl, h)) = some ([.int (x_b false)], sl, h) := rfl
theorem t39_129_1 (ls : XL) (sl : Nat) (h : List AC) : rt 39 (some (129, ls, [.int (nI 1)], sl, h)) = some ([.int (x_b true)], sl, h) := rfl
theorem t39_135 (ls : XL) (sl : Nat) (h : List AC) (b : Bool) : rt 39 (some (135, ls, [.int (x_b b)], sl, h)) = some ([.int (x_b b)], sl, h) := by cases b <;> rfl
theorem t39_135_0 (ls : XL) (sl : Nat) (h : List AC) : rt 39 (some (135, ls, [.int (nI 0)], sl, h)) = some ([.int (x_b false)], sl, h) := rfl
theorem t39_135_1 (ls : XL) (sl : Nat) (h : List AC) : rt 39 (some (135, ls, [.int (nI 1)], sl, h)) = some ([.int (x_b true)], sl, h) := rfl
theorem e40 (d sl : Nat) (h : List AC) (a0 : Nat) : C d 40 [.ref a0] sl h = rt 40 (R d 40 (0, [some (.ref a0), none], [], sl, h)) := C_rt _ _ _ _ _
theorem t40_21 (ls : XL) (sl : Nat) (h : List AC) (b : Bool) : rt 40 (some (21, ls, [.int (x_b b)], sl, h)) = some ([.int (x_b b)], sl, h) := by cases b <;> rfl
theorem t40_21_0 (ls : XL) (sl : Nat) (h : List AC) : rt 40 (some (21, ls, [.int (nI 0)], sl, h)) = some ([.int (x_b false)], sl, h) := rfl
theorem t40_21_1 (ls : XL) (sl : Nat) (h : List AC) : rt 40 (some (21, ls, [.int (nI 1)], sl, h)) = some ([.int (x_b true)], sl, h) := rfl
theorem t40_55 (ls : XL) (sl : Nat) (h : List AC) (b : Bool) : rt 40 (some (55, ls, [.int (x_b b)], sl, h)) = some ([.int (x_b b)], sl, h) := by cases b <;> rfl
theorem t40_55_0 (ls : XL) (sl : Nat) (h : List AC) : rt 40 (some (55, ls, [.int (nI 0)], sl, h)) = some ([.int (x_b false)], sl, h) := rfl
theorem t40_55_1 (ls : XL) (sl : Nat) (h : List AC) : rt 40 (some (55, ls, [.int (nI 1)], sl, h)) = some ([.int (x_b true)], sl, h) := rfl
theorem e41 (d sl : Nat) (h : List AC) (a0 : Nat) (a1 : Nat) : C d 41 [.ref a0, .ref a1] sl h = rt 41 (R d 41 (0, [some (.ref a0), some (.ref a1), none], [], sl, h)) := C_rt _ _ _ _ _
theorem t41_23 (ls : XL) (sl : Nat) (h : List AC) (b : Bool) : rt 41 (some (23, ls, [.int (x_b b)], sl, h)) = some ([.int (x_b b)], sl, h) := by cases b <;> rfl
theorem t41_23_0 (ls : XL) (sl : Nat) (h : List AC) : rt 41 (some (23, ls, [.int (nI 0)], sl, h)) = some ([.int (x_b false)], sl, h) := rfl
theorem t41_23_1 (ls : XL) (sl : Nat) (h : List AC) : rt 41 (some (23, ls, [.int (nI 1)], sl, h)) = some ([.int (x_b true)], sl, h) := rfl
theorem t41_41 (ls : XL) (sl : Nat) (h : List AC) (b : Bool) : rt 41 (some (41, ls, [.int (x_b b)], sl, h)) = some ([.int (x_b b)], sl, h) := by cases b <;> rfl
theorem t41_41_0 (ls : XL) (sl : Nat) (h : List AC) : rt 41 (some (41, ls, [.int (nI 0)], sl, h)) = some ([.int (x_b false)], sl, h) := rfl
theorem t41_41_1 (ls : XL) (sl : Nat) (h : List AC) : rt 41 (some (41, ls, [.int (nI 1)], sl, h)) = some ([.int (x_b true)], sl, h) := rfl
theorem t41_60 (ls : XL) (sl : Nat) (h : List AC) (b : Bool) : rt 41 (some (60, ls, [.int (x_b b)], sl, h)) = some ([.int (x_b b)], sl, h) := by cases b <;> rfl
theorem t41_60_0 (ls : XL) (sl : Nat) (h : List AC) : rt 41 (some (60, ls, [.int (nI 0)], sl, h)) = some ([.int (x_b false)], sl, h) := rfl
theorem t41_60_1 (ls : XL) (sl : Nat) (h : List AC) : rt 41 (some (60, ls, [.int (nI 1)], sl, h)) = some ([.int (x_b true)], sl, h) := rfl
theorem t41_72 (ls : XL) (sl : Nat) (h : List AC) (b : Bool) : rt 41 (some (72, ls, [.int (x_b b)], sl, h)) = some ([.int (x_b b)], sl, h) := by cases b <;> rfl
theorem t41_72_0 (ls : XL) (sl : Nat) (h : List AC) : rt 41 (some (72, ls, [.int (nI 0)], sl, h)) = some ([.int (x_b false)], sl, h) := rfl
theorem t41_72_1 (ls : XL) (sl : Nat) (h : List AC) : rt 41 (some (72, ls, [.int (nI 1)], sl, h)) = some ([.int (x_b true)], sl, h) := rfl
theorem t41_96 (ls : XL) (sl : Nat) (h : List AC) (b : Bool) : rt 41 (some (96, ls, [.int (x_b b)], sl, h)) = some ([.int (x_b b)], sl, h) := by cases b <;> rfl
theorem t41_96_0 (ls : XL) (sl : Nat) (h : List AC) : rt 41 (some (96, ls, [.int (nI 0)], sl, h)) = some ([.int (x_b false)], sl, h) := rfl
theorem t41_96_1 (ls : XL) (sl : Nat) (h : List AC) : rt 41 (some (96, ls, [.int (nI 1)], sl, h)) = some ([.int (x_b true)], sl, h) := rfl
theorem t41_114 (ls : XL) (sl : Nat) (h : List AC) (b : Bool) : rt 41 (some (114, ls, [.int (x_b b)], sl, h)) = some ([.int (x_b b)], sl, h) := by cases b <;> rfl
theorem t41_114_0 (ls : XL) (sl : Nat) (h : List AC) : rt 41 (some (114, ls, [.int (nI 0)], sl, h)) = some ([.int (x_b false)], sl, h) := rfl
theorem t41_114_1 (ls : XL) (sl : Nat) (h : List AC) : rt 41 (some (114, ls, [.int (nI 1)], sl, h)) = some ([.int (x_b true)], sl, h) := rfl
theorem e42 (d sl : Nat) (h : List AC) (a0 : Nat) : C d 42 [.ref a0] sl h = rt 42 (R d 42 (0, [some (.ref a0)], [], sl, h)) := C_rt _ _ _ _ _
theorem t42_98 (ls : XL) (sl : Nat) (h : List AC) : rt 42 (some (98, ls, [], sl, h)) = some ([], sl, h) := rfl
theorem e43 (d sl : Nat) (h : List AC) (a0 : Nat) : C d 43 [.ref a0] sl h = rt 43 (R d 43 (0, [some (.ref a0)], [], sl, h)) := C_rt _ _ _ _ _
theorem t43_30 (ls : XL) (sl : Nat) (h : List AC) : rt 43 (some (30, ls, [], sl, h)) = some ([], sl, h) := rfl
theorem e44 (d sl : Nat) (h : List AC) (a0 : Nat) (a1 : Nat) : C d 44 [.ref a0, .ref a1] sl h = rt 44 (R d 44 (0, [some (.ref a0), some (.ref a1)], [], sl, h)) := C_rt _ _ _ _ _
theorem t44_168 (ls : XL) (sl : Nat) (h : List AC) : rt 44 (some (168, ls, [], sl, h)) = some ([], sl, h) := rfl
theorem e45 (d sl : Nat) (h : List AC) (a0 : Nat) (a1 : Int32) : C d 45 [.ref a0, .int a1] sl h = rt 45 (R d 45 (0, [some (.ref a0), some (.int a1)], [], sl, h)) := C_rt _ _ _ _ _
theorem t45_17 (ls : XL) (sl : Nat) (h : List AC) (b : Bool) : rt 45 (some (17, ls, [.int (x_b b)], sl, h)) = some ([.int (x_b b)], sl, h) := by cases b <;> rfl
theorem t45_17_0 (ls : XL) (sl : Nat) (h : List AC) : rt 45 (some (17, ls, [.int (nI 0)], sl, h)) = some ([.int (x_b false)], sl, h) := rfl
theorem t45_17_1 (ls : XL) (sl : Nat) (h : List AC) : rt 45 (some (17, ls, [.int (nI 1)], sl, h)) = some ([.int (x_b true)], sl, h) := rfl
theorem e46 (d sl : Nat) (h : List AC) (a0 : Nat) (a1 : Int32) : C d 46 [.ref a0, .int a1] sl h = rt 46 (R d 46 (0, [some (.ref a0), some (.int a1)], [], sl, h)) := C_rt _ _ _ _ _
theorem t46_17 (ls : XL) (sl : Nat) (h : List AC) (b : Bool) : rt 46 (some (17, ls, [.int (x_b b)], sl, h)) = some ([.int (x_b b)], sl, h) := by cases b <;> rfl
theorem t46_17_0 (ls : XL) (sl : Nat) (h : List AC) : rt 46 (some (17, ls, [.int (nI 0)], sl, h)) = some ([.int (x_b false)], sl, h) := rfl
theorem t46_17_1 (ls : XL) (sl : Nat) (h : List AC) : rt 46 (some (17, ls, [.int (nI 1)], sl, h)) = some ([.int (x_b true)], sl, h) := rfl
theorem e47 (d sl : Nat) (h : List AC) (a0 : Nat) (a1 : Int64) : C d 47 [.ref a0, .long a1] sl h = rt 47 (R d 47 (0, [some (.ref a0), some (.long a1), none, none], [], sl, h)) := C_rt _ _ _ _ _
theorem t47_22 (ls : XL) (sl : Nat) (h : List AC) (v : Int32) : rt 47 (some (22, ls, [.int v], sl, h)) = some ([.int v], sl, h) := rfl
theorem t47_30 (ls : XL) (sl : Nat) (h : List AC) (v : Int32) : rt 47 (some (30, ls, [.int v], sl, h)) = some ([.int v], sl, h) := rfl
theorem e48 (d sl : Nat) (h : List AC) (a0 : Nat) (a1 : Int64) (a2 : Int32) (a3 : Int32) (a4 : Int32) : C d 48 [.ref a0, .long a1, .int a2, .int a3, .int a4] sl h = rt 48 (R d 48 (0, [some (.ref a0), some (.long a1), none, some (.int a2), some (.int a3), some (.int a4)], [], sl, h)) := C_rt _ _ _ _ _
theorem t48_61 (ls : XL) (sl : Nat) (h : List AC) : rt 48 (some (61, ls, [], sl, h)) = some ([], sl, h) := rfl
theorem e49 (d sl : Nat) (h : List AC) (a0 : Nat) (a1 : Int32) (a2 : Int32) (a3 : Int32) (a4 : Int32) : C d 49 [.ref a0, .int a1, .int a2, .int a3, .int a4] sl h = rt 49 (R d 49 (0, [some (.ref a0), some (.int a1), some (.int a2), some (.int a3), some (.int a4)], [], sl, h)) := C_rt _ _ _ _ _
theorem t49_60 (ls : XL) (sl : Nat) (h : List AC) : rt 49 (some (60, ls, [], sl, h)) = some ([], sl, h) := rfl
theorem e50 (d sl : Nat) (h : List AC) (a0 : Nat) (a1 : Int32) : C d 50 [.ref a0, .int a1] sl h = rt 50 (R d 50 (0, [some (.ref a0), some (.int a1)], [], sl, h)) := C_rt _ _ _ _ _
theorem t50_14 (ls : XL) (sl : Nat) (h : List AC) (b : Bool) : rt 50 (some (14, ls, [.int (x_b b)], sl, h)) = some ([.int (x_b b)], sl, h) := by cases b <;> rfl
theorem t50_14_0 (ls : XL) (sl : Nat) (h : List AC) : rt 50 (some (14, ls, [.int (nI 0)], sl, h)) = some ([.int (x_b false)], sl, h) := rfl
theorem t50_14_1 (ls : XL) (sl : Nat) (h : List AC) : rt 50 (some (14, ls, [.int (nI 1)], sl, h)) = some ([.int (x_b true)], sl, h) := rfl
theorem e51 (d sl : Nat) (h : List AC) (a0 : Nat) (a1 : Int32) (a2 : Int32) : C d 51 [.ref a0, .int a1, .int a2] sl h = rt 51 (R d 51 (0, [some (.ref a0), some (.int a1), some (.int a2)], [], sl, h)) := C_rt _ _ _ _ _
theorem t51_24 (ls : XL) (sl : Nat) (h : List AC) (b : Bool) : rt 51 (some (24, ls, [.int (x_b b)], sl, h)) = some ([.int (x_b b)], sl, h) := by cases b <;> rfl
theorem t51_24_0 (ls : XL) (sl : Nat) (h : List AC) : rt 51 (some (24, ls, [.int (nI 0)], sl, h)) = some ([.int (x_b false)], sl, h) := rfl
theorem t51_24_1 (ls : XL) (sl : Nat) (h : List AC) : rt 51 (some (24, ls, [.int (nI 1)], sl, h)) = some ([.int (x_b true)], sl, h) := rfl
theorem e52 (d sl : Nat) (h : List AC) (a0 : Nat) (a1 : Int32) (a2 : Int32) : C d 52 [.ref a0, .int a1, .int a2] sl h = rt 52 (R d 52 (0, [some (.ref a0), some (.int a1), some (.int a2)], [], sl, h)) := C_rt _ _ _ _ _
theorem t52_54 (ls : XL) (sl : Nat) (h : List AC) (b : Bool) : rt 52 (some (54, ls, [.int (x_b b)], sl, h)) = some ([.int (x_b b)], sl, h) := by cases b <;> rfl
theorem t52_54_0 (ls : XL) (sl : Nat) (h : List AC) : rt 52 (some (54, ls, [.int (nI 0)], sl, h)) = some ([.int (x_b false)], sl, h) := rfl
theorem t52_54_1 (ls : XL) (sl : Nat) (h : List AC) : rt 52 (some (54, ls, [.int (nI 1)], sl, h)) = some ([.int (x_b true)], sl, h) := rfl
theorem e53 (d sl : Nat) (h : List AC) (a0 : Nat) (a1 : Int32) : C d 53 [.ref a0, .int a1] sl h = rt 53 (R d 53 (0, [some (.ref a0), some (.int a1), none, none], [], sl, h)) := C_rt _ _ _ _ _
theorem t53_9 (ls : XL) (sl : Nat) (h : List AC) (v : Int32) : rt 53 (some (9, ls, [.int v], sl, h)) = some ([.int v], sl, h) := rfl
theorem t53_41 (ls : XL) (sl : Nat) (h : List AC) (v : Int32) : rt 53 (some (41, ls, [.int v], sl, h)) = some ([.int v], sl, h) := rfl
theorem e54 (d sl : Nat) (h : List AC) (a0 : Nat) (a1 : Int32) : C d 54 [.ref a0, .int a1] sl h = rt 54 (R d 54 (0, [some (.ref a0), some (.int a1), none, none], [], sl, h)) := C_rt _ _ _ _ _
theorem t54_37 (ls : XL) (sl : Nat) (h : List AC) (v : Int32) : rt 54 (some (37, ls, [.int v], sl, h)) = some ([.int v], sl, h) := rfl
theorem e55 (d sl : Nat) (h : List AC) (a0 : Nat) (a1 : Int32) (a2 : Int32) : C d 55 [.ref a0, .int a1, .int a2] sl h = rt 55 (R d 55 (0, [some (.ref a0), some (.int a1), some (.int a2), none], [], sl, h)) := C_rt _ _ _ _ _
theorem t55_29 (ls : XL) (sl : Nat) (h : List AC) (v : Int32) : rt 55 (some (29, ls, [.int v], sl, h)) = some ([.int v], sl, h) := rfl
theorem t55_37 (ls : XL) (sl : Nat) (h : List AC) (v : Int32) : rt 55 (some (37, ls, [.int v], sl, h)) = some ([.int v], sl, h) := rfl
theorem e56 (d sl : Nat) (h : List AC) (a0 : Nat) (a1 : Int32) (a2 : Int32) : C d 56 [.ref a0, .int a1, .int a2] sl h = rt 56 (R d 56 (0, [some (.ref a0), some (.int a1), some (.int a2)], [], sl, h)) := C_rt _ _ _ _ _
theorem t56_42 (ls : XL) (sl : Nat) (h : List AC) (v : Int32) : rt 56 (some (42, ls, [.int v], sl, h)) = some ([.int v], sl, h) := rfl
theorem t56_49 (ls : XL) (sl : Nat) (h : List AC) (v : Int32) : rt 56 (some (49, ls, [.int v], sl, h)) = some ([.int v], sl, h) := rfl
theorem t56_56 (ls : XL) (sl : Nat) (h : List AC) (v : Int32) : rt 56 (some (56, ls, [.int v], sl, h)) = some ([.int v], sl, h) := rfl
theorem t56_63 (ls : XL) (sl : Nat) (h : List AC) (v : Int32) : rt 56 (some (63, ls, [.int v], sl, h)) = some ([.int v], sl, h) := rfl
theorem t56_69 (ls : XL) (sl : Nat) (h : List AC) (v : Int32) : rt 56 (some (69, ls, [.int v], sl, h)) = some ([.int v], sl, h) := rfl
theorem t56_71 (ls : XL) (sl : Nat) (h : List AC) (v : Int32) : rt 56 (some (71, ls, [.int v], sl, h)) = some ([.int v], sl, h) := rfl
theorem e57 (d sl : Nat) (h : List AC) (a0 : Nat) (a1 : Int32) : C d 57 [.ref a0, .int a1] sl h = rt 57 (R d 57 (0, [some (.ref a0), some (.int a1), none, none], [], sl, h)) := C_rt _ _ _ _ _
theorem t57_38 (ls : XL) (sl : Nat) (h : List AC) (v : Int32) : rt 57 (some (38, ls, [.int v], sl, h)) = some ([.int v], sl, h) := rfl
theorem e58 (d sl : Nat) (h : List AC) (a0 : Nat) (a1 : Int32) : C d 58 [.ref a0, .int a1] sl h = rt 58 (R d 58 (0, [some (.ref a0), some (.int a1), none, none], [], sl, h)) := C_rt _ _ _ _ _
theorem t58_38 (ls : XL) (sl : Nat) (h : List AC) (v : Int32) : rt 58 (some (38, ls, [.int v], sl, h)) = some ([.int v], sl, h) := rfl
theorem e59 (d sl : Nat) (h : List AC) (a0 : Nat) (a1 : Int32) : C d 59 [.ref a0, .int a1] sl h = rt 59 (R d 59 (0, [some (.ref a0), some (.int a1), none, none], [], sl, h)) := C_rt _ _ _ _ _
theorem t59_34 (ls : XL) (sl : Nat) (h : List AC) (v : Int32) : rt 59 (some (34, ls, [.int v], sl, h)) = some ([.int v], sl, h) := rfl
theorem e60 (d sl : Nat) (h : List AC) (a0 : Nat) (a1 : Int32) : C d 60 [.ref a0, .int a1] sl h = rt 60 (R d 60 (0, [some (.ref a0), some (.int a1)], [], sl, h)) := C_rt _ _ _ _ _
theorem t60_8 (ls : XL) (sl : Nat) (h : List AC) (v : Int32) : rt 60 (some (8, ls, [.int v], sl, h)) = some ([.int v], sl, h) := rfl
theorem e61 (d sl : Nat) (h : List AC) (a0 : Nat) (a1 : Int32) : C d 61 [.ref a0, .int a1] sl h = rt 61 (R d 61 (0, [some (.ref a0), some (.int a1), none, none], [], sl, h)) := C_rt _ _ _ _ _
theorem t61_37 (ls : XL) (sl : Nat) (h : List AC) (v : Int32) : rt 61 (some (37, ls, [.int v], sl, h)) = some ([.int v], sl, h) := rfl
theorem e62 (d sl : Nat) (h : List AC) (a0 : Nat) (a1 : Int32) : C d 62 [.ref a0, .int a1] sl h = rt 62 (R d 62 (0, [some (.ref a0), some (.int a1)], [], sl, h)) := C_rt _ _ _ _ _
theorem t62_19 (ls : XL) (sl : Nat) (h : List AC) (b : Bool) : rt 62 (some (19, ls, [.int (x_b b)], sl, h)) = some ([.int (x_b b)], sl, h) := by cases b <;> rfl
theorem t62_19_0 (ls : XL) (sl : Nat) (h : List AC) : rt 62 (some (19, ls, [.int (nI 0)], sl, h)) = some ([.int (x_b false)], sl, h) := rfl
theorem t62_19_1 (ls : XL) (sl : Nat) (h : List AC) : rt 62 (some (19, ls, [.int (nI 1)], sl, h)) = some ([.int (x_b true)], sl, h) := rfl
theorem e63 (d sl : Nat) (h : List AC) (a0 : Nat) (a1 : Int32) (a2 : Int32) : C d 63 [.ref a0, .int a1, .int a2] sl h = rt 63 (R d 63 (0, [some (.ref a0), some (.int a1), some (.int a2), none], [], sl, h)) := C_rt _ _ _ _ _
theorem t63_30 (ls : XL) (sl : Nat) (h : List AC) (b : Bool) : rt 63 (some (30, ls, [.int (x_b b)], sl, h)) = some ([.int (x_b b)], sl, h) := by cases b <;> rfl
theorem t63_30_0 (ls : XL) (sl : Nat) (h : List AC) : rt 63 (some (30, ls, [.int (nI 0)], sl, h)) = some ([.int (x_b false)], sl, h) := rfl
theorem t63_30_1 (ls : XL) (sl : Nat) (h : List AC) : rt 63 (some (30, ls, [.int (nI 1)], sl, h)) = some ([.int (x_b true)], sl, h) := rfl
theorem t63_38 (ls : XL) (sl : Nat) (h : List AC) (b : Bool) : rt 63 (some (38, ls, [.int (x_b b)], sl, h)) = some ([.int (x_b b)], sl, h) := by cases b <;> rfl
theorem t63_38_0 (ls : XL) (sl : Nat) (h : List AC) : rt 63 (some (38, ls, [.int (nI 0)], sl, h)) = some ([.int (x_b false)], sl, h) := rfl
theorem t63_38_1 (ls : XL) (sl : Nat) (h : List AC) : rt 63 (some (38, ls, [.int (nI 1)], sl, h)) = some ([.int (x_b true)], sl, h) := rfl
theorem e64 (d sl : Nat) (h : List AC) (a0 : Nat) : C d 64 [.ref a0] sl h = rt 64 (R d 64 (0, [some (.ref a0), none, none], [], sl, h)) := C_rt _ _ _ _ _
theorem t64_33 (ls : XL) (sl : Nat) (h : List AC) (v : Int32) : rt 64 (some (33, ls, [.int v], sl, h)) = some ([.int v], sl, h) := rfl
theorem e65 (d sl : Nat) (h : List AC) (a0 : Nat) : C d 65 [.ref a0] sl h = rt 65 (R d 65 (0, [some (.ref a0), none, none], [], sl, h)) := C_rt _ _ _ _ _
theorem t65_33 (ls : XL) (sl : Nat) (h : List AC) (v : Int32) : rt 65 (some (33, ls, [.int v], sl, h)) = some ([.int v], sl, h) := rfl
theorem e66 (d sl : Nat) (h : List AC) (a0 : Nat) : C d 66 [.ref a0] sl h = rt 66 (R d 66 (0, [some (.ref a0), none, none], [], sl, h)) := C_rt _ _ _ _ _
theorem t66_28 (ls : XL) (sl : Nat) (h : List AC) (v : Int32) : rt 66 (some (28, ls, [.int v], sl, h)) = some ([.int v], sl, h) := rfl
theorem e67 (d sl : Nat) (h : List AC) (a0 : Nat) : C d 67 [.ref a0] sl h = rt 67 (R d 67 (0, [some (.ref a0), none, none], [], sl, h)) := C_rt _ _ _ _ _
theorem t67_28 (ls : XL) (sl : Nat) (h : List AC) (v : Int32) : rt 67 (some (28, ls, [.int v], sl, h)) = some ([.int v], sl, h) := rfl
theorem e68 (d sl : Nat) (h : List AC) (a0 : Nat) (a1 : Int32) : C d 68 [.ref a0, .int a1] sl h = rt 68 (R d 68 (0, [some (.ref a0), some (.int a1), none, none, none, none], [], sl, h)) := C_rt _ _ _ _ _
theorem t68_47 (ls : XL) (sl : Nat) (h : List AC) (v : Int32) : rt 68 (some (47, ls, [.int v], sl, h)) = some ([.int v], sl, h) := rfl
theorem t68_72 (ls : XL) (sl : Nat) (h : List AC) (v : Int32) : rt 68 (some (72, ls, [.int v], sl, h)) = some ([.int v], sl, h) := rfl
theorem e69 (d sl : Nat) (h : List AC) (a0 : Nat) (a1 : Int32) (a2 : Int32) : C d 69 [.ref a0, .int a1, .int a2] sl h = rt 69 (R d 69 (0, [some (.ref a0), some (.int a1), some (.int a2), none, none, none], [], sl, h)) := C_rt _ _ _ _ _
theorem t69_76 (ls : XL) (sl : Nat) (h : List AC) (v : Int32) : rt 69 (some (76, ls, [.int v], sl, h)) = some ([.int v], sl, h) := rfl
theorem e70 (d sl : Nat) (h : List AC) (a0 : Nat) (a1 : Int32) (a2 : Int32) : C d 70 [.ref a0, .int a1, .int a2] sl h = rt 70 (R d 70 (0, [some (.ref a0), some (.int a1), some (.int a2)], [], sl, h)) := C_rt _ _ _ _ _
theorem t70_9 (ls : XL) (sl : Nat) (h : List AC) (v : Int32) : rt 70 (some (9, ls, [.int v], sl, h)) = some ([.int v], sl, h) := rfl
theorem t70_21 (ls : XL) (sl : Nat) (h : List AC) (v : Int32) : rt 70 (some (21, ls, [.int v], sl, h)) = some ([.int v], sl, h) := rfl
theorem t70_38 (ls : XL) (sl : Nat) (h : List AC) (v : Int32) : rt 70 (some (38, ls, [.int v], sl, h)) = some ([.int v], sl, h) := rfl
theorem t70_77 (ls : XL) (sl : Nat) (h : List AC) (v : Int32) : rt 70 (some (77, ls, [.int v], sl, h)) = some ([.int v], sl, h) := rfl
theorem e71 (d sl : Nat) (h : List AC) (a0 : Nat) (a1 : Int32) (a2 : Int32) (a3 : Int32) : C d 71 [.ref a0, .int a1, .int a2, .int a3] sl h = rt 71 (R d 71 (0, [some (.ref a0), some (.int a1), some (.int a2), some (.int a3)], [], sl, h)) := C_rt _ _ _ _ _
theorem t71_10 (ls : XL) (sl : Nat) (h : List AC) (v : Int32) : rt 71 (some (10, ls, [.int v], sl, h)) = some ([.int v], sl, h) := rfl
theorem t71_22 (ls : XL) (sl : Nat) (h : List AC) (v : Int32) : rt 71 (some (22, ls, [.int v], sl, h)) = some ([.int v], sl, h) := rfl
theorem t71_39 (ls : XL) (sl : Nat) (h : List AC) (v : Int32) : rt 71 (some (39, ls, [.int v], sl, h)) = some ([.int v], sl, h) := rfl
theorem e72 (d sl : Nat) (h : List AC) (a0 : Nat) (a1 : Int32) (a2 : Int32) : C d 72 [.ref a0, .int a1, .int a2] sl h = rt 72 (R d 72 (0, [some (.ref a0), some (.int a1), some (.int a2)], [], sl, h)) := C_rt _ _ _ _ _
theorem t72_9 (ls : XL) (sl : Nat) (h : List AC) (v : Int32) : rt 72 (some (9, ls, [.int v], sl, h)) = some ([.int v], sl, h) := rfl
theorem t72_21 (ls : XL) (sl : Nat) (h : List AC) (v : Int32) : rt 72 (some (21, ls, [.int v], sl, h)) = some ([.int v], sl, h) := rfl
theorem t72_33 (ls : XL) (sl : Nat) (h : List AC) (v : Int32) : rt 72 (some (33, ls, [.int v], sl, h)) = some ([.int v], sl, h) := rfl
theorem t72_50 (ls : XL) (sl : Nat) (h : List AC) (v : Int32) : rt 72 (some (50, ls, [.int v], sl, h)) = some ([.int v], sl, h) := rfl
theorem t72_76 (ls : XL) (sl : Nat) (h : List AC) (v : Int32) : rt 72 (some (76, ls, [.int v], sl, h)) = some ([.int v], sl, h) := rfl
theorem e73 (d sl : Nat) (h : List AC) (a0 : Nat) (a1 : Int32) : C d 73 [.ref a0, .int a1] sl h = rt 73 (R d 73 (0, [some (.ref a0), some (.int a1)], [], sl, h)) := C_rt _ _ _ _ _
theorem t73_9 (ls : XL) (sl : Nat) (h : List AC) (v : Int32) : rt 73 (some (9, ls, [.int v], sl, h)) = some ([.int v], sl, h) := rfl
theorem t73_18 (ls : XL) (sl : Nat) (h : List AC) (v : Int32) : rt 73 (some (18, ls, [.int v], sl, h)) = some ([.int v], sl, h) := rfl
theorem e74 (d sl : Nat) (h : List AC) (a0 : Nat) (a1 : Int32) (a2 : Int32) : C d 74 [.ref a0, .int a1, .int a2] sl h = rt 74 (R d 74 (0, [some (.ref a0), some (.int a1), some (.int a2), none], [], sl, h)) := C_rt _ _ _ _ _
theorem t74_17 (ls : XL) (sl : Nat) (h : List AC) (v : Int32) : rt 74 (some (17, ls, [.int v], sl, h)) = some ([.int v], sl, h) := rfl
theorem t74_49 (ls : XL) (sl : Nat) (h : List AC) (v : Int32) : rt 74 (some (49, ls, [.int v], sl, h)) = some ([.int v], sl, h) := rfl
theorem t74_87 (ls : XL) (sl : Nat) (h : List AC) (v : Int32) : rt 74 (some (87, ls, [.int v], sl, h)) = some ([.int v], sl, h) := rfl
theorem e75 (d sl : Nat) (h : List AC) (a0 : Nat) (a1 : Int32) (a2 : Int32) (a3 : Int32) : C d 75 [.ref a0, .int a1, .int a2, .int a3] sl h = rt 75 (R d 75 (0, [some (.ref a0), some (.int a1), some (.int a2), some (.int a3)], [], sl, h)) := C_rt _ _ _ _ _
theorem t75_20 (ls : XL) (sl : Nat) (h : List AC) : rt 75 (some (20, ls, [], sl, h)) = some ([], sl, h) := rfl
theorem e76 (d sl : Nat) (h : List AC) (a0 : Nat) : C d 76 [.ref a0] sl h = rt 76 (R d 76 (0, [some (.ref a0)], [], sl, h)) := C_rt _ _ _ _ _
theorem t76_12 (ls : XL) (sl : Nat) (h : List AC) (v : Int32) : rt 76 (some (12, ls, [.int v], sl, h)) = some ([.int v], sl, h) := rfl
theorem e77 (d sl : Nat) (h : List AC) (a0 : Nat) : C d 77 [.ref a0] sl h = rt 77 (R d 77 (0, [some (.ref a0), none, none], [], sl, h)) := C_rt _ _ _ _ _
theorem t77_160 (ls : XL) (sl : Nat) (h : List AC) : rt 77 (some (160, ls, [], sl, h)) = some ([], sl, h) := rfl
theorem e78 (d sl : Nat) (h : List AC) (a0 : Nat) (a1 : Int32) (a2 : Nat) : C d 78 [.ref a0, .int a1, .ref a2] sl h = rt 78 (R d 78 (0, [some (.ref a0), some (.int a1), some (.ref a2), none, none, none], [], sl, h)) := C_rt _ _ _ _ _
theorem t78_54 (ls : XL) (sl : Nat) (h : List AC) (v : Int32) : rt 78 (some (54, ls, [.int v], sl, h)) = some ([.int v], sl, h) := rfl
theorem e79 (d sl : Nat) (h : List AC) (a0 : Nat) (a1 : Int32) (a2 : Nat) : C d 79 [.ref a0, .int a1, .ref a2] sl h = rt 79 (R d 79 (0, [some (.ref a0), some (.int a1), some (.ref a2), none, none, none], [], sl, h)) := C_rt _ _ _ _ _
theorem t79_121 (ls : XL) (sl : Nat) (h : List AC) : rt 79 (some (121, ls, [], sl, h)) = some ([], sl, h) := rfl
theorem e80 (d sl : Nat) (h : List AC) (a0 : Nat) (a1 : Nat) (a2 : Nat) : C d 80 [.ref a0, .ref a1, .ref a2] sl h = rt 80 (R d 80 (0, [some (.ref a0), some (.ref a1), some (.ref a2)], [], sl, h)) := C_rt _ _ _ _ _
theorem t80_19 (ls : XL) (sl : Nat) (h : List AC) : rt 80 (some (19, ls, [], sl, h)) = some ([], sl, h) := rfl
theorem e81 (d sl : Nat) (h : List AC) (a0 : Nat) : C d 81 [.ref a0] sl h = rt 81 (R d 81 (0, [some (.ref a0), none], [], sl, h)) := C_rt _ _ _ _ _
theorem t81_27 (ls : XL) (sl : Nat) (h : List AC) (v : Int32) : rt 81 (some (27, ls, [.int v], sl, h)) = some ([.int v], sl, h) := rfl
theorem t81_48 (ls : XL) (sl : Nat) (h : List AC) (v : Int32) : rt 81 (some (48, ls, [.int v], sl, h)) = some ([.int v], sl, h) := rfl
theorem t81_56 (ls : XL) (sl : Nat) (h : List AC) (v : Int32) : rt 81 (some (56, ls, [.int v], sl, h)) = some ([.int v], sl, h) := rfl
theorem e82 (d sl : Nat) (h : List AC) (a0 : Nat) : C d 82 [.ref a0] sl h = rt 82 (R d 82 (0, [some (.ref a0)], [], sl, h)) := C_rt _ _ _ _ _
theorem t82_17 (ls : XL) (sl : Nat) (h : List AC) (b : Bool) : rt 82 (some (17, ls, [.int (x_b b)], sl, h)) = some ([.int (x_b b)], sl, h) := by cases b <;> rfl
theorem t82_17_0 (ls : XL) (sl : Nat) (h : List AC) : rt 82 (some (17, ls, [.int (nI 0)], sl, h)) = some ([.int (x_b false)], sl, h) := rfl
theorem t82_17_1 (ls : XL) (sl : Nat) (h : List AC) : rt 82 (some (17, ls, [.int (nI 1)], sl, h)) = some ([.int (x_b true)], sl, h) := rfl
theorem t82_35 (ls : XL) (sl : Nat) (h : List AC) (b : Bool) : rt 82 (some (35, ls, [.int (x_b b)], sl, h)) = some ([.int (x_b b)], sl, h) := by cases b <;> rfl
theorem t82_35_0 (ls : XL) (sl : Nat) (h : List AC) : rt 82 (some (35, ls, [.int (nI 0)], sl, h)) = some ([.int (x_b false)], sl, h) := rfl
theorem t82_35_1 (ls : XL) (sl : Nat) (h : List AC) : rt 82 (some (35, ls, [.int (nI 1)], sl, h)) = some ([.int (x_b true)], sl, h) := rfl
theorem t82_53 (ls : XL) (sl : Nat) (h : List AC) (b : Bool) : rt 82 (some (53, ls, [.int (x_b b)], sl, h)) = some ([.int (x_b b)], sl, h) := by cases b <;> rfl
theorem t82_53_0 (ls : XL) (sl : Nat) (h : List AC) : rt 82 (some (53, ls, [.int (nI 0)], sl, h)) = some ([.int (x_b false)], sl, h) := rfl
theorem t82_53_1 (ls : XL) (sl : Nat) (h : List AC) : rt 82 (some (53, ls, [.int (nI 1)], sl, h)) = some ([.int (x_b true)], sl, h) := rfl
theorem t82_62 (ls : XL) (sl : Nat) (h : List AC) (b : Bool) : rt 82 (some (62, ls, [.int (x_b b)], sl, h)) = some ([.int (x_b b)], sl, h) := by cases b <;> rfl
theorem t82_62_0 (ls : XL) (sl : Nat) (h : List AC) : rt 82 (some (62, ls, [.int (nI 0)], sl, h)) = some ([.int (x_b false)], sl, h) := rfl
theorem t82_62_1 (ls : XL) (sl : Nat) (h : List AC) : rt 82 (some (62, ls, [.int (nI 1)], sl, h)) = some ([.int (x_b true)], sl, h) := rfl
theorem e83 (d sl : Nat) (h : List AC) (a0 : Nat) : C d 83 [.ref a0] sl h = rt 83 (R d 83 (0, [some (.ref a0), none, none, none, none], [], sl, h)) := C_rt _ _ _ _ _
theorem t83_20 (ls : XL) (sl : Nat) (h : List AC) (b : Bool) : rt 83 (some (20, ls, [.int (x_b b)], sl, h)) = some ([.int (x_b b)], sl, h) := by cases b <;> rfl
theorem t83_20_0 (ls : XL) (sl : Nat) (h : List AC) : rt 83 (some (20, ls, [.int (nI 0)], sl, h)) = some ([.int (x_b false)], sl, h) := rfl
theorem t83_20_1 (ls : XL) (sl : Nat) (h : List AC) : rt 83 (some (20, ls, [.int (nI 1)], sl, h)) = some ([.int (x_b true)], sl, h) := rfl
theorem t83_46 (ls : XL) (sl : Nat) (h : List AC) (b : Bool) : rt 83 (some (46, ls, [.int (x_b b)], sl, h)) = some ([.int (x_b b)], sl, h) := by cases b <;> rfl
theorem t83_46_0 (ls : XL) (sl : Nat) (h : List AC) : rt 83 (some (46, ls, [.int (nI 0)], sl, h)) = some ([.int (x_b false)], sl, h) := rfl
theorem t83_46_1 (ls : XL) (sl : Nat) (h : List AC) : rt 83 (some (46, ls, [.int (nI 1)], sl, h)) = some ([.int (x_b true)], sl, h) := rfl
theorem t83_75 (ls : XL) (sl : Nat) (h : List AC) (b : Bool) : rt 83 (some (75, ls, [.int (x_b b)], sl, h)) = some ([.int (x_b b)], sl, h) := by cases b <;> rfl
theorem t83_75_0 (ls : XL) (sl : Nat) (h : List AC) : rt 83 (some (75, ls, [.int (nI 0)], sl, h)) = some ([.int (x_b false)], sl, h) := rfl
theorem t83_75_1 (ls : XL) (sl : Nat) (h : List AC) : rt 83 (some (75, ls, [.int (nI 1)], sl, h)) = some ([.int (x_b true)], sl, h) := rfl
theorem t83_98 (ls : XL) (sl : Nat) (h : List AC) (b : Bool) : rt 83 (some (98, ls, [.int (x_b b)], sl, h)) = some ([.int (x_b b)], sl, h) := by cases b <;> rfl
theorem t83_98_0 (ls : XL) (sl : Nat) (h : List AC) : rt 83 (some (98, ls, [.int (nI 0)], sl, h)) = some ([.int (x_b false)], sl, h) := rfl
theorem t83_98_1 (ls : XL) (sl : Nat) (h : List AC) : rt 83 (some (98, ls, [.int (nI 1)], sl, h)) = some ([.int (x_b true)], sl, h) := rfl
theorem t83_121 (ls : XL) (sl : Nat) (h : List AC) (b : Bool) : rt 83 (some (121, ls, [.int (x_b b)], sl, h)) = some ([.int (x_b b)], sl, h) := by cases b <;> rfl
theorem t83_121_0 (ls : XL) (sl : Nat) (h : List AC) : rt 83 (some (121, ls, [.int (nI 0)], sl, h)) = some ([.int (x_b false)], sl, h) := rfl
theorem t83_121_1 (ls : XL) (sl : Nat) (h : List AC) : rt 83 (some (121, ls, [.int (nI 1)], sl, h)) = some ([.int (x_b true)], sl, h) := rfl
theorem t83_145 (ls : XL) (sl : Nat) (h : List AC) (b : Bool) : rt 83 (some (145, ls, [.int (x_b b)], sl, h)) = some ([.int (x_b b)], sl, h) := by cases b <;> rfl
theorem t83_145_0 (ls : XL) (sl : Nat) (h : List AC) : rt 83 (some (145, ls, [.int (nI 0)], sl, h)) = some ([.int (x_b false)], sl, h) := rfl
theorem t83_145_1 (ls : XL) (sl : Nat) (h : List AC) : rt 83 (some (145, ls, [.int (nI 1)], sl, h)) = some ([.int (x_b true)], sl, h) := rfl
theorem t83_165 (ls : XL) (sl : Nat) (h : List AC) (b : Bool) : rt 83 (some (165, ls, [.int (x_b b)], sl, h)) = some ([.int (x_b b)], sl, h) := by cases b <;> rfl
theorem t83_165_0 (ls : XL) (sl : Nat) (h : List AC) : rt 83 (some (165, ls, [.int (nI 0)], sl, h)) = some ([.int (x_b false)], sl, h) := rfl
theorem t83_165_1 (ls : XL) (sl : Nat) (h : List AC) : rt 83 (some (165, ls, [.int (nI 1)], sl, h)) = some ([.int (x_b true)], sl, h) := rfl
theorem e84 (d sl : Nat) (h : List AC) (a0 : Nat) : C d 84 [.ref a0] sl h = rt 84 (R d 84 (0, [some (.ref a0), none, none, none], [], sl, h)) := C_rt _ _ _ _ _
theorem t84_20 (ls : XL) (sl : Nat) (h : List AC) (b : Bool) : rt 84 (some (20, ls, [.int (x_b b)], sl, h)) = some ([.int (x_b b)], sl, h) := by cases b <;> rfl
theorem t84_20_0 (ls : XL) (sl : Nat) (h : List AC) : rt 84 (some (20, ls, [.int (nI 0)], sl, h)) = some ([.int (x_b false)], sl, h) := rfl
theorem t84_20_1 (ls : XL) (sl : Nat) (h : List AC) : rt 84 (some (20, ls, [.int (nI 1)], sl, h)) = some ([.int (x_b true)], sl, h) := rfl
theorem t84_44 (ls : XL) (sl : Nat) (h : List AC) (b : Bool) : rt 84 (some (44, ls, [.int (x_b b)], sl, h)) = some ([.int (x_b b)], sl, h) := by cases b <;> rfl
theorem t84_44_0 (ls : XL) (sl : Nat) (h : List AC) : rt 84 (some (44, ls, [.int (nI 0)], sl, h)) = some ([.int (x_b false)], sl, h) := rfl
theorem t84_44_1 (ls : XL) (sl : Nat) (h : List AC) : rt 84 (some (44, ls, [.int (nI 1)], sl, h)) = some ([.int (x_b true)], sl, h) := rfl
theorem t84_69 (ls : XL) (sl : Nat) (h : List AC) (b : Bool) : rt 84 (some (69, ls, [.int (x_b b)], sl, h)) = some ([.int (x_b b)], sl, h) := by cases b <;> rfl
theorem t84_69_0 (ls : XL) (sl : Nat) (h : List AC) : rt 84 (some (69, ls, [.int (nI 0)], sl, h)) = some ([.int (x_b false)], sl, h) := rfl
theorem t84_69_1 (ls : XL) (sl : Nat) (h : List AC) : rt 84 (some (69, ls, [.int (nI 1)], sl, h)) = some ([.int (x_b true)], sl, h) := rfl
theorem t84_93 (ls : XL) (sl : Nat) (h : List AC) (b : Bool) : rt 84 (some (93, ls, [.int (x_b b)], sl, h)) = some ([.int (x_b b)], sl, h) := by cases b <;> rfl
theorem t84_93_0 (ls : XL) (sl : Nat) (h : List AC) : rt 84 (some (93, ls, [.int (nI 0)], sl, h)) = some ([.int (x_b false)], sl, h) := rfl
theorem t84_93_1 (ls : XL) (sl : Nat) (h : List AC) : rt 84 (some (93, ls, [.int (nI 1)], sl, h)) = some ([.int (x_b true)], sl, h) := rfl
theorem t84_116 (ls : XL) (sl : Nat) (h : List AC) (b : Bool) : rt 84 (some (116, ls, [.int (x_b b)], sl, h)) = some ([.int (x_b b)], sl, h) := by cases b <;> rfl
theorem t84_116_0 (ls : XL) (sl : Nat) (h : List AC) : rt 84 (some (116, ls, [.int (nI 0)], sl, h)) = some ([.int (x_b false)], sl, h) := rfl
theorem t84_116_1 (ls : XL) (sl : Nat) (h : List AC) : rt 84 (some (116, ls, [.int (nI 1)], sl, h)) = some ([.int (x_b true)], sl, h) := rfl
theorem t84_135 (ls : XL) (sl : Nat) (h : List AC) (b : Bool) : rt 84 (some (135, ls, [.int (x_b b)], sl, h)) = some ([.int (x_b b)], sl, h) := by cases b <;> rfl
theorem t84_135_0 (ls : XL) (sl : Nat) (h : List AC) : rt 84 (some (135, ls, [.int (nI 0)], sl, h)) = some ([.int (x_b false)], sl, h) := rfl
theorem t84_135_1 (ls : XL) (sl : Nat) (h : List AC) : rt 84 (some (135, ls, [.int (nI 1)], sl, h)) = some ([.int (x_b true)], sl, h) := rfl
theorem e85 (d sl : Nat) (h : List AC) (a0 : Nat) : C d 85 [.ref a0] sl h = rt 85 (R d 85 (0, [some (.ref a0)], [], sl, h)) := C_rt _ _ _ _ _
theorem t85_15 (ls : XL) (sl : Nat) (h : List AC) (b : Bool) : rt 85 (some (15, ls, [.int (x_b b)], sl, h)) = some ([.int (x_b b)], sl, h) := by cases b <;> rfl
theorem t85_15_0 (ls : XL) (sl : Nat) (h : List AC) : rt 85 (some (15, ls, [.int (nI 0)], sl, h)) = some ([.int (x_b false)], sl, h) := rfl
theorem t85_15_1 (ls : XL) (sl : Nat) (h : List AC) : rt 85 (some (15, ls, [.int (nI 1)], sl, h)) = some ([.int (x_b true)], sl, h) := rfl
theorem t85_42 (ls : XL) (sl : Nat) (h : List AC) (b : Bool) : rt 85 (some (42, ls, [.int (x_b b)], sl, h)) = some ([.int (x_b b)], sl, h) := by cases b <;> rfl
theorem t85_42_0 (ls : XL) (sl : Nat) (h : List AC) : rt 85 (some (42, ls, [.int (nI 0)], sl, h)) = some ([.int (x_b false)], sl, h) := rfl
theorem t85_42_1 (ls : XL) (sl : Nat) (h : List AC) : rt 85 (some (42, ls, [.int (nI 1)], sl, h)) = some ([.int (x_b true)], sl, h) := rfl
theorem t85_71 (ls : XL) (sl : Nat) (h : List AC) (b : Bool) : rt 85 (some (71, ls, [.int (x_b b)], sl, h)) = some ([.int (x_b b)], sl, h) := by cases b <;> rfl
theorem t85_71_0 (ls : XL) (sl : Nat) (h : List AC) : rt 85 (some (71, ls, [.int (nI 0)], sl, h)) = some ([.int (x_b false)], sl, h) := rfl
theorem t85_71_1 (ls : XL) (sl : Nat) (h : List AC) : rt 85 (some (71, ls, [.int (nI 1)], sl, h)) = some ([.int (x_b true)], sl, h) := rfl
theorem t85_87 (ls : XL) (sl : Nat) (h : List AC) (b : Bool) : rt 85 (some (87, ls, [.int (x_b b)], sl, h)) = some ([.int (x_b b)], sl, h) := by cases b <;> rfl
theorem t85_87_0 (ls : XL) (sl : Nat) (h : List AC) : rt 85 (some (87, ls, [.int (nI 0)], sl, h)) = some ([.int (x_b false)], sl, h) := rfl
theorem t85_87_1 (ls : XL) (sl : Nat) (h : List AC) : rt 85 (some (87, ls, [.int (nI 1)], sl, h)) = some ([.int (x_b true)], sl, h) := rfl
theorem e86 (d sl : Nat) (h : List AC) (a0 : Nat) : C d 86 [.ref a0] sl h = rt 86 (R d 86 (0, [some (.ref a0)], [], sl, h)) := C_rt _ _ _ _ _
theorem t86_68 (ls : XL) (sl : Nat) (h : List AC) : rt 86 (some (68, ls, [], sl, h)) = some ([], sl, h) := rfl
theorem e87 (d sl : Nat) (h : List AC) (a0 : Nat) (a1 : Int32) : C d 87 [.ref a0, .int a1] sl h = rt 87 (R d 87 (0, [some (.ref a0), some (.int a1), none], [], sl, h)) := C_rt _ _ _ _ _
theorem t87_46 (ls : XL) (sl : Nat) (h : List AC) : rt 87 (some (46, ls, [], sl, h)) = some ([], sl, h) := rfl
theorem e88 (d sl : Nat) (h : List AC) (a0 : Nat) (a1 : Int32) : C d 88 [.ref a0, .int a1] sl h = rt 88 (R d 88 (0, [some (.ref a0), some (.int a1)], [], sl, h)) := C_rt _ _ _ _ _
theorem t88_26 (ls : XL) (sl : Nat) (h : List AC) (v : Int32) : rt 88 (some (26, ls, [.int v], sl, h)) = some ([.int v], sl, h) := rfl
theorem e89 (d sl : Nat) (h : List AC) (a0 : Nat) (a1 : Int32) : C d 89 [.ref a0, .int a1] sl h = rt 89 (R d 89 (0, [some (.ref a0), some (.int a1)], [], sl, h)) := C_rt _ _ _ _ _
theorem t89_24 (ls : XL) (sl : Nat) (h : List AC) : rt 89 (some (24, ls, [], sl, h)) = some ([], sl, h) := rfl
theorem e90 (d sl : Nat) (h : List AC) (a0 : Nat) : C d 90 [.ref a0] sl h = rt 90 (R d 90 (0, [some (.ref a0)], [], sl, h)) := C_rt _ _ _ _ _
theorem t90_130 (ls : XL) (sl : Nat) (h : List AC) : rt 90 (some (130, ls, [], sl, h)) = some ([], sl, h) := rfl
theorem e91 (d sl : Nat) (h : List AC) (a0 : Nat) : C d 91 [.ref a0] sl h = rt 91 (R d 91 (0, [some (.ref a0)], [], sl, h)) := C_rt _ _ _ _ _
theorem t91_52 (ls : XL) (sl : Nat) (h : List AC) : rt 91 (some (52, ls, [], sl, h)) = some ([], sl, h) := rfl
theorem e92 (d sl : Nat) (h : List AC) (a0 : Nat) : C d 92 [.ref a0] sl h = rt 92 (R d 92 (0, [some (.ref a0), none, none, none], [], sl, h)) := C_rt _ _ _ _ _
theorem t92_162 (ls : XL) (sl : Nat) (h : List AC) (b : Bool) : rt 92 (some (162, ls, [.int (x_b b)], sl, h)) = some ([.int (x_b b)], sl, h) := by cases b <;> rfl
theorem t92_162_0 (ls : XL) (sl : Nat) (h : List AC) : rt 92 (some (162, ls, [.int (nI 0)], sl, h)) = some ([.int (x_b false)], sl, h) := rfl
theorem t92_162_1 (ls : XL) (sl : Nat) (h : List AC) : rt 92 (some (162, ls, [.int (nI 1)], sl, h)) = some ([.int (x_b true)], sl, h) := rfl
theorem e93 (d sl : Nat) (h : List AC) (a0 : Nat) : C d 93 [.ref a0] sl h = rt 93 (R d 93 (0, [some (.ref a0)], [], sl, h)) := C_rt _ _ _ _ _
theorem t93_89 (ls : XL) (sl : Nat) (h : List AC) : rt 93 (some (89, ls, [], sl, h)) = some ([], sl, h) := rfl
theorem e94 (d sl : Nat) (h : List AC) (a0 : Nat) : C d 94 [.ref a0] sl h = rt 94 (R d 94 (0, [some (.ref a0)], [], sl, h)) := C_rt _ _ _ _ _
theorem t94_12 (ls : XL) (sl : Nat) (h : List AC) (b : Bool) : rt 94 (some (12, ls, [.int (x_b b)], sl, h)) = some ([.int (x_b b)], sl, h) := by cases b <;> rfl
theorem t94_12_0 (ls : XL) (sl : Nat) (h : List AC) : rt 94 (some (12, ls, [.int (nI 0)], sl, h)) = some ([.int (x_b false)], sl, h) := rfl
theorem t94_12_1 (ls : XL) (sl : Nat) (h : List AC) : rt 94 (some (12, ls, [.int (nI 1)], sl, h)) = some ([.int (x_b true)], sl, h) := rfl
theorem e95 (d sl : Nat) (h : List AC) (a0 : Nat) : C d 95 [.ref a0] sl h = rt 95 (R d 95 (0, [some (.ref a0)], [], sl, h)) := C_rt _ _ _ _ _
theorem t95_13 (ls : XL) (sl : Nat) (h : List AC) (b : Bool) : rt 95 (some (13, ls, [.int (x_b b)], sl, h)) = some ([.int (x_b b)], sl, h) := by cases b <;> rfl
theorem t95_13_0 (ls : XL) (sl : Nat) (h : List AC) : rt 95 (some (13, ls, [.int (nI 0)], sl, h)) = some ([.int (x_b false)], sl, h) := rfl
theorem t95_13_1 (ls : XL) (sl : Nat) (h : List AC) : rt 95 (some (13, ls, [.int (nI 1)], sl, h)) = some ([.int (x_b true)], sl, h) := rfl
theorem e96 (d sl : Nat) (h : List AC) (a0 : Nat) (a1 : Int32) : C d 96 [.ref a0, .int a1] sl h = rt 96 (R d 96 (0, [some (.ref a0), some (.int a1)], [], sl, h)) := C_rt _ _ _ _ _
theorem t96_21 (ls : XL) (sl : Nat) (h : List AC) (b : Bool) : rt 96 (some (21, ls, [.int (x_b b)], sl, h)) = some ([.int (x_b b)], sl, h) := by cases b <;> rfl
theorem t96_21_0 (ls : XL) (sl : Nat) (h : List AC) : rt 96 (some (21, ls, [.int (nI 0)], sl, h)) = some ([.int (x_b false)], sl, h) := rfl
theorem t96_21_1 (ls : XL) (sl : Nat) (h : List AC) : rt 96 (some (21, ls, [.int (nI 1)], sl, h)) = some ([.int (x_b true)], sl, h) := rfl
theorem e97 (d sl : Nat) (h : List AC) (a0 : Nat) (a1 : Int32) : C d 97 [.ref a0, .int a1] sl h = rt 97 (R d 97 (0, [some (.ref a0), some (.int a1)], [], sl, h)) := C_rt _ _ _ _ _
theorem t97_14 (ls : XL) (sl : Nat) (h : List AC) (b : Bool) : rt 97 (some (14, ls, [.int (x_b b)], sl, h)) = some ([.int (x_b b)], sl, h) := by cases b <;> rfl
theorem t97_14_0 (ls : XL) (sl : Nat) (h : List AC) : rt 97 (some (14, ls, [.int (nI 0)], sl, h)) = some ([.int (x_b false)], sl, h) := rfl
theorem t97_14_1 (ls : XL) (sl : Nat) (h : List AC) : rt 97 (some (14, ls, [.int (nI 1)], sl, h)) = some ([.int (x_b true)], sl, h) := rfl
theorem e98 (d sl : Nat) (h : List AC) (a0 : Nat) (a1 : Int32) : C d 98 [.ref a0, .int a1] sl h = rt 98 (R d 98 (0, [some (.ref a0), some (.int a1)], [], sl, h)) := C_rt _ _ _ _ _
theorem t98_13 (ls : XL) (sl : Nat) (h : List AC) (b : Bool) : rt 98 (some (13, ls, [.int (x_b b)], sl, h)) = some ([.int (x_b b)], sl, h) := by cases b <;> rfl
theorem t98_13_0 (ls : XL) (sl : Nat) (h : List AC) : rt 98 (some (13, ls, [.int (nI 0)], sl, h)) = some ([.int (x_b false)], sl, h) := rfl
theorem t98_13_1 (ls : XL) (sl : Nat) (h : List AC) : rt 98 (some (13, ls, [.int (nI 1)], sl, h)) = some ([.int (x_b true)], sl, h) := rfl
theorem t98_19 (ls : XL) (sl : Nat) (h : List AC) (b : Bool) : rt 98 (some (19, ls, [.int (x_b b)], sl, h)) = some ([.int (x_b b)], sl, h) := by cases b <;> rfl
theorem t98_19_0 (ls : XL) (sl : Nat) (h : List AC) : rt 98 (some (19, ls, [.int (nI 0)], sl, h)) = some ([.int (x_b false)], sl, h) := rfl
theorem t98_19_1 (ls : XL) (sl : Nat) (h : List AC) : rt 98 (some (19, ls, [.int (nI 1)], sl, h)) = some ([.int (x_b true)], sl, h) := rfl
theorem e99 (d sl : Nat) (h : List AC) (a0 : Nat) : C d 99 [.ref a0] sl h = rt 99 (R d 99 (0, [some (.ref a0)], [], sl, h)) := C_rt _ _ _ _ _
theorem t99_20 (ls : XL) (sl : Nat) (h : List AC) (b : Bool) : rt 99 (some (20, ls, [.int (x_b b)], sl, h)) = some ([.int (x_b b)], sl, h) := by cases b <;> rfl
theorem t99_20_0 (ls : XL) (sl : Nat) (h : List AC) : rt 99 (some (20, ls, [.int (nI 0)], sl, h)) = some ([.int (x_b false)], sl, h) := rfl
theorem t99_20_1 (ls : XL) (sl : Nat) (h : List AC) : rt 99 (some (20, ls, [.int (nI 1)], sl, h)) = some ([.int (x_b true)], sl, h) := rfl
theorem e100 (d sl : Nat) (h : List AC) (a0 : Nat) : C d 100 [.ref a0] sl h = rt 100 (R d 100 (0, [some (.ref a0)], [], sl, h)) := C_rt _ _ _ _ _
theorem t100_32 (ls : XL) (sl : Nat) (h : List AC) (b : Bool) : rt 100 (some (32, ls, [.int (x_b b)], sl, h)) = some ([.int (x_b b)], sl, h) := by cases b <;> rfl
theorem t100_32_0 (ls : XL) (sl : Nat) (h : List AC) : rt 100 (some (32, ls, [.int (nI 0)], sl, h)) = some ([.int (x_b false)], sl, h) := rfl
theorem t100_32_1 (ls : XL) (sl : Nat) (h : List AC) : rt 100 (some (32, ls, [.int (nI 1)], sl, h)) = some ([.int (x_b true)], sl, h) := rfl
theorem t100_46 (ls : XL) (sl : Nat) (h : List AC) (b : Bool) : rt 100 (some (46, ls, [.int (x_b b)], sl, h)) = some ([.int (x_b b)], sl, h) := by cases b <;> rfl
theorem t100_46_0 (ls : XL) (sl : Nat) (h : List AC) : rt 100 (some (46, ls, [.int (nI 0)], sl, h)) = some ([.int (x_b false)], sl, h) := rfl
theorem t100_46_1 (ls : XL) (sl : Nat) (h : List AC) : rt 100 (some (46, ls, [.int (nI 1)], sl, h)) = some ([.int (x_b true)], sl, h) := rfl
theorem e101 (d sl : Nat) (h : List AC) (a0 : Nat) (a1 : Nat) : C d 101 [.ref a0, .ref a1] sl h = rt 101 (R d 101 (0, [some (.ref a0), some (.ref a1)], [], sl, h)) := C_rt _ _ _ _ _
theorem t101_13 (ls : XL) (sl : Nat) (h : List AC) (b : Bool) : rt 101 (some (13, ls, [.int (x_b b)], sl, h)) = some ([.int (x_b b)], sl, h) := by cases b <;> rfl
theorem t101_13_0 (ls : XL) (sl : Nat) (h : List AC) : rt 101 (some (13, ls, [.int (nI 0)], sl, h)) = some ([.int (x_b false)], sl, h) := rfl
theorem t101_13_1 (ls : XL) (sl : Nat) (h : List AC) : rt 101 (some (13, ls, [.int (nI 1)], sl, h)) = some ([.int (x_b true)], sl, h) := rfl
theorem t101_19 (ls : XL) (sl : Nat) (h : List AC) (b : Bool) : rt 101 (some (19, ls, [.int (x_b b)], sl, h)) = some ([.int (x_b b)], sl, h) := by cases b <;> rfl
theorem t101_19_0 (ls : XL) (sl : Nat) (h : List AC) : rt 101 (some (19, ls, [.int (nI 0)], sl, h)) = some ([.int (x_b false)], sl, h) := rfl
theorem t101_19_1 (ls : XL) (sl : Nat) (h : List AC) : rt 101 (some (19, ls, [.int (nI 1)], sl, h)) = some ([.int (x_b true)], sl, h) := rfl
theorem e102 (d sl : Nat) (h : List AC) (a0 : Nat) (a1 : Int32) (a2 : Int32) : C d 102 [.ref a0, .int a1, .int a2] sl h = rt 102 (R d 102 (0, [some (.ref a0), some (.int a1), some (.int a2)], [], sl, h)) := C_rt _ _ _ _ _
theorem t102_13 (ls : XL) (sl : Nat) (h : List AC) (b : Bool) : rt 102 (some (13, ls, [.int (x_b b)], sl, h)) = some ([.int (x_b b)], sl, h) := by cases b <;> rfl
theorem t102_13_0 (ls : XL) (sl : Nat) (h : List AC) : rt 102 (some (13, ls, [.int (nI 0)], sl, h)) = some ([.int (x_b false)], sl, h) := rfl
theorem t102_13_1 (ls : XL) (sl : Nat) (h : List AC) : rt 102 (some (13, ls, [.int (nI 1)], sl, h)) = some ([.int (x_b true)], sl, h) := rfl
theorem t102_35 (ls : XL) (sl : Nat) (h : List AC) (b : Bool) : rt 102 (some (35, ls, [.int (x_b b)], sl, h)) = some ([.int (x_b b)], sl, h) := by cases b <;> rfl
theorem t102_35_0 (ls : XL) (sl : Nat) (h : List AC) : rt 102 (some (35, ls, [.int (nI 0)], sl, h)) = some ([.int (x_b false)], sl, h) := rfl
theorem t102_35_1 (ls : XL) (sl : Nat) (h : List AC) : rt 102 (some (35, ls, [.int (nI 1)], sl, h)) = some ([.int (x_b true)], sl, h) := rfl
theorem t102_49 (ls : XL) (sl : Nat) (h : List AC) (b : Bool) : rt 102 (some (49, ls, [.int (x_b b)], sl, h)) = some ([.int (x_b b)], sl, h) := by cases b <;> rfl
theorem t102_49_0 (ls : XL) (sl : Nat) (h : List AC) : rt 102 (some (49, ls, [.int (nI 0)], sl, h)) = some ([.int (x_b false)], sl, h) := rfl
theorem t102_49_1 (ls : XL) (sl : Nat) (h : List AC) : rt 102 (some (49, ls, [.int (nI 1)], sl, h)) = some ([.int (x_b true)], sl, h) := rfl
theorem e103 (d sl : Nat) (h : List AC) (a0 : Nat) (a1 : Int32) (a2 : Int32) : C d 103 [.ref a0, .int a1, .int a2] sl h = rt 103 (R d 103 (0, [some (.ref a0), some (.int a1), some (.int a2)], [], sl, h)) := C_rt _ _ _ _ _
theorem t103_13 (ls : XL) (sl : Nat) (h : List AC) (b : Bool) : rt 103 (some (13, ls, [.int (x_b b)], sl, h)) = some ([.int (x_b b)], sl, h) := by cases b <;> rfl
theorem t103_13_0 (ls : XL) (sl : Nat) (h : List AC) : rt 103 (some (13, ls, [.int (nI 0)], sl, h)) = some ([.int (x_b false)], sl, h) := rfl
theorem t103_13_1 (ls : XL) (sl : Nat) (h : List AC) : rt 103 (some (13, ls, [.int (nI 1)], sl, h)) = some ([.int (x_b true)], sl, h) := rfl
theorem t103_35 (ls : XL) (sl : Nat) (h : List AC) (b : Bool) : rt 103 (some (35, ls, [.int (x_b b)], sl, h)) = some ([.int (x_b b)], sl, h) := by cases b <;> rfl
theorem t103_35_0 (ls : XL) (sl : Nat) (h : List AC) : rt 103 (some (35, ls, [.int (nI 0)], sl, h)) = some ([.int (x_b false)], sl, h) := rfl
theorem t103_35_1 (ls : XL) (sl : Nat) (h : List AC) : rt 103 (some (35, ls, [.int (nI 1)], sl, h)) = some ([.int (x_b true)], sl, h) := rfl
theorem t103_49 (ls : XL) (sl : Nat) (h : List AC) (b : Bool) : rt 103 (some (49, ls, [.int (x_b b)], sl, h)) = some ([.int (x_b b)], sl, h) := by cases b <;> rfl
theorem t103_49_0 (ls : XL) (sl : Nat) (h : List AC) : rt 103 (some (49, ls, [.int (nI 0)], sl, h)) = some ([.int (x_b false)], sl, h) := rfl
theorem t103_49_1 (ls : XL) (sl : Nat) (h : List AC) : rt 103 (some (49, ls, [.int (nI 1)], sl, h)) = some ([.int (x_b true)], sl, h) := rfl
theorem e104 (d sl : Nat) (h : List AC) (a0 : Nat) (a1 : Nat) (a2 : Int32) : C d 104 [.ref a0, .ref a1, .int a2] sl h = rt 104 (R d 104 (0, [some (.ref a0), some (.ref a1), some (.int a2), none], [], sl, h)) := C_rt _ _ _ _ _
theorem t104_13 (ls : XL) (sl : Nat) (h : List AC) (b : Bool) : rt 104 (some (13, ls, [.int (x_b b)], sl, h)) = some ([.int (x_b b)], sl, h) := by cases b <;> rfl
theorem t104_13_0 (ls : XL) (sl : Nat) (h : List AC) : rt 104 (some (13, ls, [.int (nI 0)], sl, h)) = some ([.int (x_b false)], sl, h) := rfl
theorem t104_13_1 (ls : XL) (sl : Nat) (h : List AC) : rt 104 (some (13, ls, [.int (nI 1)], sl, h)) = some ([.int (x_b true)], sl, h) := rfl
theorem t104_38 (ls : XL) (sl : Nat) (h : List AC) (b : Bool) : rt 104 (some (38, ls, [.int (x_b b)], sl, h)) = some ([.int (x_b b)], sl, h) := by cases b <;> rfl
theorem t104_38_0 (ls : XL) (sl : Nat) (h : List AC) : rt 104 (some (38, ls, [.int (nI 0)], sl, h)) = some ([.int (x_b false)], sl, h) := rfl
theorem t104_38_1 (ls : XL) (sl : Nat) (h : List AC) : rt 104 (some (38, ls, [.int (nI 1)], sl, h)) = some ([.int (x_b true)], sl, h) := rfl
theorem t104_49 (ls : XL) (sl : Nat) (h : List AC) (b : Bool) : rt 104 (some (49, ls, [.int (x_b b)], sl, h)) = some ([.int (x_b b)], sl, h) := by cases b <;> rfl
theorem t104_49_0 (ls : XL) (sl : Nat) (h : List AC) : rt 104 (some (49, ls, [.int (nI 0)], sl, h)) = some ([.int (x_b false)], sl, h) := rfl
theorem t104_49_1 (ls : XL) (sl : Nat) (h : List AC) : rt 104 (some (49, ls, [.int (nI 1)], sl, h)) = some ([.int (x_b true)], sl, h) := rfl
theorem e105 (d sl : Nat) (h : List AC) (a0 : Nat) : C d 105 [.ref a0] sl h = rt 105 (R d 105 (0, [some (.ref a0)], [], sl, h)) := C_rt _ _ _ _ _
theorem t105_49 (ls : XL) (sl : Nat) (h : List AC) : rt 105 (some (49, ls, [], sl, h)) = some ([], sl, h) := rfl
theorem e106 (d sl : Nat) (h : List AC) (a0 : Nat) (a1 : Nat) : C d 106 [.ref a0, .ref a1] sl h = rt 106 (R d 106 (0, [some (.ref a0), some (.ref a1), none, none], [], sl, h)) := C_rt _ _ _ _ _
theorem t106_39 (ls : XL) (sl : Nat) (h : List AC) (v : Int32) : rt 106 (some (39, ls, [.int v], sl, h)) = some ([.int v], sl, h) := rfl
theorem e107 (d sl : Nat) (h : List AC) (a0 : Nat) (a1 : Nat) (a2 : Int32) : C d 107 [.ref a0, .ref a1, .int a2] sl h = rt 107 (R d 107 (0, [some (.ref a0), some (.ref a1), some (.int a2), none, none, none], [], sl, h)) := C_rt _ _ _ _ _
theorem t107_23 (ls : XL) (sl : Nat) (h : List AC) (b : Bool) : rt 107 (some (23, ls, [.int (x_b b)], sl, h)) = some ([.int (x_b b)], sl, h) := by cases b <;> rfl
theorem t107_23_0 (ls : XL) (sl : Nat) (h : List AC) : rt 107 (some (23, ls, [.int (nI 0)], sl, h)) = some ([.int (x_b false)], sl, h) := rfl
theorem t107_23_1 (ls : XL) (sl : Nat) (h : List AC) : rt 107 (some (23, ls, [.int (nI 1)], sl, h)) = some ([.int (x_b true)], sl, h) := rfl
theorem t107_77 (ls : XL) (sl : Nat) (h : List AC) (b : Bool) : rt 107 (some (77, ls, [.int (x_b b)], sl, h)) = some ([.int (x_b b)], sl, h) := by cases b <;> rfl
theorem t107_77_0 (ls : XL) (sl : Nat) (h : List AC) : rt 107 (some (77, ls, [.int (nI 0)], sl, h)) = some ([.int (x_b false)], sl, h) := rfl
theorem t107_77_1 (ls : XL) (sl : Nat) (h : List AC) : rt 107 (some (77, ls, [.int (nI 1)], sl, h)) = some ([.int (x_b true)], sl, h) := rfl
theorem e108 (d sl : Nat) (h : List AC) (a0 : Nat) (a1 : Nat) : C d 108 [.ref a0, .ref a1] sl h = rt 108 (R d 108 (0, [some (.ref a0), some (.ref a1), none], [], sl, h)) := C_rt _ _ _ _ _
theorem t108_67 (ls : XL) (sl : Nat) (h : List AC) : rt 108 (some (67, ls, [], sl, h)) = some ([], sl, h) := rfl
theorem e109 (d sl : Nat) (h : List AC) (a0 : Nat) (a1 : Nat) (a2 : Int32) : C d 109 [.ref a0, .ref a1, .int a2] sl h = rt 109 (R d 109 (0, [some (.ref a0), some (.ref a1), some (.int a2), none, none], [], sl, h)) := C_rt _ _ _ _ _
theorem t109_61 (ls : XL) (sl : Nat) (h : List AC) (v : Int32) : rt 109 (some (61, ls, [.int v], sl, h)) = some ([.int v], sl, h) := rfl
theorem t109_78 (ls : XL) (sl : Nat) (h : List AC) (v : Int32) : rt 109 (some (78, ls, [.int v], sl, h)) = some ([.int v], sl, h) := rfl
theorem e110 (d sl : Nat) (h : List AC) (a0 : Nat) (a1 : Nat) (a2 : Int32) (a3 : Int32) : C d 110 [.ref a0, .ref a1, .int a2, .int a3] sl h = rt 110 (R d 110 (0, [some (.ref a0), some (.ref a1), some (.int a2), some (.int a3), none, none], [], sl, h)) := C_rt _ _ _ _ _
theorem t110_63 (ls : XL) (sl : Nat) (h : List AC) (v : Int32) : rt 110 (some (63, ls, [.int v], sl, h)) = some ([.int v], sl, h) := rfl
theorem e111 (d sl : Nat) (h : List AC) (a0 : Nat) (a1 : Nat) (a2 : Int32) (a3 : Int32) : C d 111 [.ref a0, .ref a1, .int a2, .int a3] sl h = rt 111 (R d 111 (0, [some (.ref a0), some (.ref a1), some (.int a2), some (.int a3), none], [], sl, h)) := C_rt _ _ _ _ _
theorem t111_40 (ls : XL) (sl : Nat) (h : List AC) (v : Int32) : rt 111 (some (40, ls, [.int v], sl, h)) = some ([.int v], sl, h) := rfl
theorem t111_48 (ls : XL) (sl : Nat) (h : List AC) (v : Int32) : rt 111 (some (48, ls, [.int v], sl, h)) = some ([.int v], sl, h) := rfl
theorem e112 (d sl : Nat) (h : List AC) (a0 : Nat) (a1 : Nat) : C d 112 [.ref a0, .ref a1] sl h = rt 112 (R d 112 (0, [some (.ref a0), some (.ref a1), none, none, none, none], [], sl, h)) := C_rt _ _ _ _ _
theorem t112_155 (ls : XL) (sl : Nat) (h : List AC) (v : Int32) : rt 112 (some (155, ls, [.int v], sl, h)) = some ([.int v], sl, h) := rfl
theorem e113 (d sl : Nat) (h : List AC) (a0 : Nat) (a1 : Int32) : C d 113 [.ref a0, .int a1] sl h = rt 113 (R d 113 (0, [some (.ref a0), some (.int a1), none, none], [], sl, h)) := C_rt _ _ _ _ _
theorem t113_41 (ls : XL) (sl : Nat) (h : List AC) (v : Int32) : rt 113 (some (41, ls, [.int v], sl, h)) = some ([.int v], sl, h) := rfl
theorem e114 (d sl : Nat) (h : List AC) (a0 : Nat) : C d 114 [.ref a0] sl h = rt 114 (R d 114 (0, [some (.ref a0), none], [], sl, h)) := C_rt _ _ _ _ _
theorem t114_188 (ls : XL) (sl : Nat) (h : List AC) : rt 114 (some (188, ls, [], sl, h)) = some ([], sl, h) := rfl
theorem e115 (d sl : Nat) (h : List AC) (a0 : Nat) (a1 : Int32) (a2 : Int32) (a3 : Int32) (a4 : Int32) (a5 : Int32) : C d 115 [.ref a0, .int a1, .int a2, .int a3, .int a4, .int a5] sl h = rt 115 (R d 115 (0, [some (.ref a0), some (.int a1), some (.int a2), some (.int a3), some (.int a4), some (.int a5)], [], sl, h)) := C_rt _ _ _ _ _
theorem t115_17 (ls : XL) (sl : Nat) (h : List AC) (v : Int32) : rt 115 (some (17, ls, [.int v], sl, h)) = some ([.int v], sl, h) := rfl
theorem t115_67 (ls : XL) (sl : Nat) (h : List AC) (v : Int32) : rt 115 (some (67, ls, [.int v], sl, h)) = some ([.int v], sl, h) := rfl
theorem e116 (d sl : Nat) (h : List AC) (a0 : Nat) (a1 : Int32) : C d 116 [.ref a0, .int a1] sl h = rt 116 (R d 116 (0, [some (.ref a0), some (.int a1)], [], sl, h)) := C_rt _ _ _ _ _
theorem t116_16 (ls : XL) (sl : Nat) (h : List AC) (b : Bool) : rt 116 (some (16, ls, [.int (x_b b)], sl, h)) = some ([.int (x_b b)], sl, h) := by cases b <;> rfl
theorem t116_16_0 (ls : XL) (sl : Nat) (h : List AC) : rt 116 (some (16, ls, [.int (nI 0)], sl, h)) = some ([.int (x_b false)], sl, h) := rfl
theorem t116_16_1 (ls : XL) (sl : Nat) (h : List AC) : rt 116 (some (16, ls, [.int (nI 1)], sl, h)) = some ([.int (x_b true)], sl, h) := rfl
theorem t116_26 (ls : XL) (sl : Nat) (h : List AC) (b : Bool) : rt 116 (some (26, ls, [.int (x_b b)], sl, h)) = some ([.int (x_b b)], sl, h) := by cases b <;> rfl
theorem t116_26_0 (ls : XL) (sl : Nat) (h : List AC) : rt 116 (some (26, ls, [.int (nI 0)], sl, h)) = some ([.int (x_b false)], sl, h) := rfl
theorem t116_26_1 (ls : XL) (sl : Nat) (h : List AC) : rt 116 (some (26, ls, [.int (nI 1)], sl, h)) = some ([.int (x_b true)], sl, h) := rfl
theorem e117 (d sl : Nat) (h : List AC) (a0 : Nat) : C d 117 [.ref a0] sl h = rt 117 (R d 117 (0, [some (.ref a0), none], [], sl, h)) := C_rt _ _ _ _ _
theorem t117_46 (ls : XL) (sl : Nat) (h : List AC) (v : Int32) : rt 117 (some (46, ls, [.int v], sl, h)) = some ([.int v], sl, h) := rfl
theorem t117_74 (ls : XL) (sl : Nat) (h : List AC) (v : Int32) : rt 117 (some (74, ls, [.int v], sl, h)) = some ([.int v], sl, h) := rfl
theorem e118 (d sl : Nat) (h : List AC) (a0 : Nat) : C d 118 [.ref a0] sl h = rt 118 (R d 118 (0, [some (.ref a0)], [], sl, h)) := C_rt _ _ _ _ _
theorem t118_4 (ls : XL) (sl : Nat) (h : List AC) (v : Int32) : rt 118 (some (4, ls, [.int v], sl, h)) = some ([.int v], sl, h) := rfl
theorem e119 (d sl : Nat) (h : List AC) (a0 : Nat) : C d 119 [.ref a0] sl h = rt 119 (R d 119 (0, [some (.ref a0)], [], sl, h)) := C_rt _ _ _ _ _
theorem t119_19 (ls : XL) (sl : Nat) (h : List AC) : rt 119 (some (19, ls, [], sl, h)) = some ([], sl, h) := rfl
theorem e120 (d sl : Nat) (h : List AC) (a0 : Nat) (a1 : Int32) (a2 : Int32) : C d 120 [.ref a0, .int a1, .int a2] sl h = rt 120 (R d 120 (0, [some (.ref a0), some (.int a1), some (.int a2)], [], sl, h)) := C_rt _ _ _ _ _
theorem t120_73 (ls : XL) (sl : Nat) (h : List AC) (v : Int32) : rt 120 (some (73, ls, [.int v], sl, h)) = some ([.int v], sl, h) := rfl
theorem t120_83 (ls : XL) (sl : Nat) (h : List AC) (v : Int32) : rt 120 (some (83, ls, [.int v], sl, h)) = some ([.int v], sl, h) := rfl
theorem t120_93 (ls : XL) (sl : Nat) (h : List AC) (v : Int32) : rt 120 (some (93, ls, [.int v], sl, h)) = some ([.int v], sl, h) := rfl
theorem t120_102 (ls : XL) (sl : Nat) (h : List AC) (v : Int32) : rt 120 (some (102, ls, [.int v], sl, h)) = some ([.int v], sl, h) := rfl
theorem t120_111 (ls : XL) (sl : Nat) (h : List AC) (v : Int32) : rt 120 (some (111, ls, [.int v], sl, h)) = some ([.int v], sl, h) := rfl
theorem t120_120 (ls : XL) (sl : Nat) (h : List AC) (v : Int32) : rt 120 (some (120, ls, [.int v], sl, h)) = some ([.int v], sl, h) := rfl
theorem t120_143 (ls : XL) (sl : Nat) (h : List AC) (v : Int32) : rt 120 (some (143, ls, [.int v], sl, h)) = some ([.int v], sl, h) := rfl
theorem e121 (d sl : Nat) (h : List AC) (a0 : Nat) (a1 : Int32) : C d 121 [.ref a0, .int a1] sl h = rt 121 (R d 121 (0, [some (.ref a0), some (.int a1)], [], sl, h)) := C_rt _ _ _ _ _
theorem t121_48 (ls : XL) (sl : Nat) (h : List AC) (v : Int32) : rt 121 (some (48, ls, [.int v], sl, h)) = some ([.int v], sl, h) := rfl
theorem e122 (d sl : Nat) (h : List AC) (a0 : Nat) (a1 : Int32) (a2 : Int32) : C d 122 [.ref a0, .int a1, .int a2] sl h = rt 122 (R d 122 (0, [some (.ref a0), some (.int a1), some (.int a2)], [], sl, h)) := C_rt _ _ _ _ _
theorem t122_24 (ls : XL) (sl : Nat) (h : List AC) (v : Int32) : rt 122 (some (24, ls, [.int v], sl, h)) = some ([.int v], sl, h) := rfl
theorem e123 (d sl : Nat) (h : List AC) (a0 : Nat) (a1 : Int32) (a2 : Int32) : C d 123 [.ref a0, .int a1, .int a2] sl h = rt 123 (R d 123 (0, [some (.ref a0), some (.int a1), some (.int a2)], [], sl, h)) := C_rt _ _ _ _ _
theorem t123_29 (ls : XL) (sl : Nat) (h : List AC) (v : Int32) : rt 123 (some (29, ls, [.int v], sl, h)) = some ([.int v], sl, h) := rfl
theorem t123_39 (ls : XL) (sl : Nat) (h : List AC) (v : Int32) : rt 123 (some (39, ls, [.int v], sl, h)) = some ([.int v], sl, h) := rfl
theorem e124 (d sl : Nat) (h : List AC) (a0 : Nat) (a1 : Int32) : C d 124 [.ref a0, .int a1] sl h = rt 124 (R d 124 (0, [some (.ref a0), some (.int a1)], [], sl, h)) := C_rt _ _ _ _ _
theorem t124_51 (ls : XL) (sl : Nat) (h : List AC) (v : Int32) : rt 124 (some (51, ls, [.int v], sl, h)) = some ([.int v], sl, h) := rfl
theorem t124_59 (ls : XL) (sl : Nat) (h : List AC) (v : Int32) : rt 124 (some (59, ls, [.int v], sl, h)) = some ([.int v], sl, h) := rfl
theorem t124_67 (ls : XL) (sl : Nat) (h : List AC) (v : Int32) : rt 124 (some (67, ls, [.int v], sl, h)) = some ([.int v], sl, h) := rfl
theorem t124_75 (ls : XL) (sl : Nat) (h : List AC) (v : Int32) : rt 124 (some (75, ls, [.int v], sl, h)) = some ([.int v], sl, h) := rfl
theorem t124_83 (ls : XL) (sl : Nat) (h : List AC) (v : Int32) : rt 124 (some (83, ls, [.int v], sl, h)) = some ([.int v], sl, h) := rfl
theorem t124_91 (ls : XL) (sl : Nat) (h : List AC) (v : Int32) : rt 124 (some (91, ls, [.int v], sl, h)) = some ([.int v], sl, h) := rfl
theorem t124_103 (ls : XL) (sl : Nat) (h : List AC) (v : Int32) : rt 124 (some (103, ls, [.int v], sl, h)) = some ([.int v], sl, h) := rfl
theorem t124_105 (ls : XL) (sl : Nat) (h : List AC) (v : Int32) : rt 124 (some (105, ls, [.int v], sl, h)) = some ([.int v], sl, h) := rfl
theorem e125 (d sl : Nat) (h : List AC) (a0 : Nat) (a1 : Int32) : C d 125 [.ref a0, .int a1] sl h = rt 125 (R d 125 (0, [some (.ref a0), some (.int a1)], [], sl, h)) := C_rt _ _ _ _ _
theorem t125_43 (ls : XL) (sl : Nat) (h : List AC) (v : Int32) : rt 125 (some (43, ls, [.int v], sl, h)) = some ([.int v], sl, h) := rfl
theorem t125_51 (ls : XL) (sl : Nat) (h : List AC) (v : Int32) : rt 125 (some (51, ls, [.int v], sl, h)) = some ([.int v], sl, h) := rfl
theorem t125_59 (ls : XL) (sl : Nat) (h : List AC) (v : Int32) : rt 125 (some (59, ls, [.int v], sl, h)) = some ([.int v], sl, h) := rfl
theorem t125_67 (ls : XL) (sl : Nat) (h : List AC) (v : Int32) : rt 125 (some (67, ls, [.int v], sl, h)) = some ([.int v], sl, h) := rfl
theorem t125_75 (ls : XL) (sl : Nat) (h : List AC) (v : Int32) : rt 125 (some (75, ls, [.int v], sl, h)) = some ([.int v], sl, h) := rfl
theorem t125_77 (ls : XL) (sl : Nat) (h : List AC) (v : Int32) : rt 125 (some (77, ls, [.int v], sl, h)) = some ([.int v], sl, h) := rfl
theorem e126 (d sl : Nat) (h : List AC) (a0 : Nat) (a1 : Int32) (a2 : Int32) : C d 126 [.ref a0, .int a1, .int a2] sl h = rt 126 (R d 126 (0, [some (.ref a0), some (.int a1), some (.int a2)], [], sl, h)) := C_rt _ _ _ _ _
theorem t126_24 (ls : XL) (sl : Nat) (h : List AC) (v : Int32) : rt 126 (some (24, ls, [.int v], sl, h)) = some ([.int v], sl, h) := rfl
theorem t126_49 (ls : XL) (sl : Nat) (h : List AC) (v : Int32) : rt 126 (some (49, ls, [.int v], sl, h)) = some ([.int v], sl, h) := rfl
theorem e127 (d sl : Nat) (h : List AC) (a0 : Nat) (a1 : Int32) (a2 : Int32) (a3 : Int32) : C d 127 [.ref a0, .int a1, .int a2, .int a3] sl h = rt 127 (R d 127 (0, [some (.ref a0), some (.int a1), some (.int a2), some (.int a3)], [], sl, h)) := C_rt _ _ _ _ _
theorem t127_40 (ls : XL) (sl : Nat) (h : List AC) (v : Int32) : rt 127 (some (40, ls, [.int v], sl, h)) = some ([.int v], sl, h) := rfl
theorem t127_66 (ls : XL) (sl : Nat) (h : List AC) (v : Int32) : rt 127 (some (66, ls, [.int v], sl, h)) = some ([.int v], sl, h) := rfl
theorem e128 (d sl : Nat) (h : List AC) (a0 : Nat) (a1 : Int32) (a2 : Int32) : C d 128 [.ref a0, .int a1, .int a2] sl h = rt 128 (R d 128 (0, [some (.ref a0), some (.int a1), some (.int a2)], [], sl, h)) := C_rt _ _ _ _ _
theorem t128_23 (ls : XL) (sl : Nat) (h : List AC) (v : Int32) : rt 128 (some (23, ls, [.int v], sl, h)) = some ([.int v], sl, h) := rfl
theorem t128_48 (ls : XL) (sl : Nat) (h : List AC) (v : Int32) : rt 128 (some (48, ls, [.int v], sl, h)) = some ([.int v], sl, h) := rfl
theorem e129 (d sl : Nat) (h : List AC) (a0 : Nat) (a1 : Int32) : C d 129 [.ref a0, .int a1] sl h = rt 129 (R d 129 (0, [some (.ref a0), some (.int a1)], [], sl, h)) := C_rt _ _ _ _ _
theorem t129_12 (ls : XL) (sl : Nat) (h : List AC) (v : Int32) : rt 129 (some (12, ls, [.int v], sl, h)) = some ([.int v], sl, h) := rfl
theorem t129_36 (ls : XL) (sl : Nat) (h : List AC) (v : Int32) : rt 129 (some (36, ls, [.int v], sl, h)) = some ([.int v], sl, h) := rfl
theorem e130 (d sl : Nat) (h : List AC) (a0 : Nat) (a1 : Int32) (a2 : Int32) : C d 130 [.ref a0, .int a1, .int a2] sl h = rt 130 (R d 130 (0, [some (.ref a0), some (.int a1), some (.int a2)], [], sl, h)) := C_rt _ _ _ _ _
theorem t130_23 (ls : XL) (sl : Nat) (h : List AC) (v : Int32) : rt 130 (some (23, ls, [.int v], sl, h)) = some ([.int v], sl, h) := rfl
theorem t130_48 (ls : XL) (sl : Nat) (h : List AC) (v : Int32) : rt 130 (some (48, ls, [.int v], sl, h)) = some ([.int v], sl, h) := rfl
theorem e131 (d sl : Nat) (h : List AC) (a0 : Nat) (a1 : Int32) : C d 131 [.ref a0, .int a1] sl h = rt 131 (R d 131 (0, [some (.ref a0), some (.int a1)], [], sl, h)) := C_rt _ _ _ _ _
theorem t131_16 (ls : XL) (sl : Nat) (h : List AC) (v : Int32) : rt 131 (some (16, ls, [.int v], sl, h)) = some ([.int v], sl, h) := rfl
theorem e132 (d sl : Nat) (h : List AC) (a0 : Nat) (a1 : Int32) : C d 132 [.ref a0, .int a1] sl h = rt 132 (R d 132 (0, [some (.ref a0), some (.int a1), none, none], [], sl, h)) := C_rt _ _ _ _ _
theorem t132_12 (ls : XL) (sl : Nat) (h : List AC) (v : Int32) : rt 132 (some (12, ls, [.int v], sl, h)) = some ([.int v], sl, h) := rfl
theorem t132_61 (ls : XL) (sl : Nat) (h : List AC) (v : Int32) : rt 132 (some (61, ls, [.int v], sl, h)) = some ([.int v], sl, h) := rfl
theorem e133 (d sl : Nat) (h : List AC) (a0 : Nat) : C d 133 [.ref a0] sl h = rt 133 (R d 133 (0, [some (.ref a0)], [], sl, h)) := C_rt _ _ _ _ _
theorem t133_25 (ls : XL) (sl : Nat) (h : List AC) (v : Int32) : rt 133 (some (25, ls, [.int v], sl, h)) = some ([.int v], sl, h) := rfl
theorem e134 (d sl : Nat) (h : List AC) (a0 : Nat) (a1 : Int32) (a2 : Int32) : C d 134 [.ref a0, .int a1, .int a2] sl h = rt 134 (R d 134 (0, [some (.ref a0), some (.int a1), some (.int a2), none], [], sl, h)) := C_rt _ _ _ _ _
theorem t134_12 (ls : XL) (sl : Nat) (h : List AC) (v : Int32) : rt 134 (some (12, ls, [.int v], sl, h)) = some ([.int v], sl, h) := rfl
theorem t134_57 (ls : XL) (sl : Nat) (h : List AC) (v : Int32) : rt 134 (some (57, ls, [.int v], sl, h)) = some ([.int v], sl, h) := rfl
theorem e135 (d sl : Nat) (h : List AC) (a0 : Nat) (a1 : Int32) (a2 : Int32) (a3 : Int32) : C d 135 [.ref a0, .int a1, .int a2, .int a3] sl h = rt 135 (R d 135 (0, [some (.ref a0), some (.int a1), some (.int a2), some (.int a3), none, none, none], [], sl, h)) := C_rt _ _ _ _ _
theorem t135_23 (ls : XL) (sl : Nat) (h : List AC) (v : Int32) : rt 135 (some (23, ls, [.int v], sl, h)) = some ([.int v], sl, h) := rfl
theorem t135_100 (ls : XL) (sl : Nat) (h : List AC) (v : Int32) : rt 135 (some (100, ls, [.int v], sl, h)) = some ([.int v], sl, h) := rfl
theorem e136 (d sl : Nat) (h : List AC) (a0 : Nat) (a1 : Int32) : C d 136 [.ref a0, .int a1] sl h = rt 136 (R d 136 (0, [some (.ref a0), some (.int a1)], [], sl, h)) := C_rt _ _ _ _ _
theorem t136_23 (ls : XL) (sl : Nat) (h : List AC) (v : Int32) : rt 136 (some (23, ls, [.int v], sl, h)) = some ([.int v], sl, h) := rfl
theorem t136_32 (ls : XL) (sl : Nat) (h : List AC) (v : Int32) : rt 136 (some (32, ls, [.int v], sl, h)) = some ([.int v], sl, h) := rfl
theorem e137 (d sl : Nat) (h : List AC) (a0 : Nat) (a1 : Int32) : C d 137 [.ref a0, .int a1] sl h = rt 137 (R d 137 (0, [some (.ref a0), some (.int a1)], [], sl, h)) := C_rt _ _ _ _ _
theorem t137_12 (ls : XL) (sl : Nat) (h : List AC) (v : Int32) : rt 137 (some (12, ls, [.int v], sl, h)) = some ([.int v], sl, h) := rfl
theorem t137_32 (ls : XL) (sl : Nat) (h : List AC) (v : Int32) : rt 137 (some (32, ls, [.int v], sl, h)) = some ([.int v], sl, h) := rfl
theorem e138 (d sl : Nat) (h : List AC) (a0 : Nat) : C d 138 [.ref a0] sl h = rt 138 (R d 138 (0, [some (.ref a0)], [], sl, h)) := C_rt _ _ _ _ _
theorem t138_4 (ls : XL) (sl : Nat) (h : List AC) (v : Int32) : rt 138 (some (4, ls, [.int v], sl, h)) = some ([.int v], sl, h) := rfl
theorem e139 (d sl : Nat) (h : List AC) (a0 : Nat) (a1 : Int32) : C d 139 [.ref a0, .int a1] sl h = rt 139 (R d 139 (0, [some (.ref a0), some (.int a1), none], [], sl, h)) := C_rt _ _ _ _ _
theorem t139_12 (ls : XL) (sl : Nat) (h : List AC) (v : Int32) : rt 139 (some (12, ls, [.int v], sl, h)) = some ([.int v], sl, h) := rfl
theorem t139_44 (ls : XL) (sl : Nat) (h : List AC) (v : Int32) : rt 139 (some (44, ls, [.int v], sl, h)) = some ([.int v], sl, h) := rfl
theorem t139_59 (ls : XL) (sl : Nat) (h : List AC) (v : Int32) : rt 139 (some (59, ls, [.int v], sl, h)) = some ([.int v], sl, h) := rfl
theorem e140 (d sl : Nat) (h : List AC) (a0 : Nat) (a1 : Int32) : C d 140 [.ref a0, .int a1] sl h = rt 140 (R d 140 (0, [some (.ref a0), some (.int a1)], [], sl, h)) := C_rt _ _ _ _ _
theorem t140_12 (ls : XL) (sl : Nat) (h : List AC) (v : Int32) : rt 140 (some (12, ls, [.int v], sl, h)) = some ([.int v], sl, h) := rfl
theorem t140_39 (ls : XL) (sl : Nat) (h : List AC) (v : Int32) : rt 140 (some (39, ls, [.int v], sl, h)) = some ([.int v], sl, h) := rfl
theorem e141 (d sl : Nat) (h : List AC) (a0 : Nat) (a1 : Int32) : C d 141 [.ref a0, .int a1] sl h = rt 141 (R d 141 (0, [some (.ref a0), some (.int a1)], [], sl, h)) := C_rt _ _ _ _ _
theorem t141_28 (ls : XL) (sl : Nat) (h : List AC) (v : Int32) : rt 141 (some (28, ls, [.int v], sl, h)) = some ([.int v], sl, h) := rfl
theorem e142 (d sl : Nat) (h : List AC) (a0 : Nat) : C d 142 [.ref a0] sl h = rt 142 (R d 142 (0, [some (.ref a0)], [], sl, h)) := C_rt _ _ _ _ _
theorem t142_11 (ls : XL) (sl : Nat) (h : List AC) (v : Int32) : rt 142 (some (11, ls, [.int v], sl, h)) = some ([.int v], sl, h) := rfl
theorem e143 (d sl : Nat) (h : List AC) (a0 : Nat) : C d 143 [.ref a0] sl h = rt 143 (R d 143 (0, [some (.ref a0), none, none], [], sl, h)) := C_rt _ _ _ _ _
theorem t143_11 (ls : XL) (sl : Nat) (h : List AC) (v : Int32) : rt 143 (some (11, ls, [.int v], sl, h)) = some ([.int v], sl, h) := rfl
theorem t143_75 (ls : XL) (sl : Nat) (h : List AC) (v : Int32) : rt 143 (some (75, ls, [.int v], sl, h)) = some ([.int v], sl, h) := rfl
theorem e144 (d sl : Nat) (h : List AC) (a0 : Nat) (a1 : Int32) (a2 : Int32) : C d 144 [.ref a0, .int a1, .int a2] sl h = rt 144 (R d 144 (0, [some (.ref a0), some (.int a1), some (.int a2), none, none, none], [], sl, h)) := C_rt _ _ _ _ _
theorem t144_87 (ls : XL) (sl : Nat) (h : List AC) (v : Int32) : rt 144 (some (87, ls, [.int v], sl, h)) = some ([.int v], sl, h) := rfl
theorem e145 (d sl : Nat) (h : List AC) (a0 : Int32) (a1 : Int32) : C d 145 [.int a0, .int a1] sl h = rt 145 (R d 145 (0, [some (.int a0), some (.int a1), none], [], sl, h)) := C_rt _ _ _ _ _
theorem t145_20 (ls : XL) (sl : Nat) (h : List AC) (v : Int32) : rt 145 (some (20, ls, [.int v], sl, h)) = some ([.int v], sl, h) := rfl
theorem t145_28 (ls : XL) (sl : Nat) (h : List AC) (v : Int32) : rt 145 (some (28, ls, [.int v], sl, h)) = some ([.int v], sl, h) := rfl
theorem e146 (d sl : Nat) (h : List AC) (a0 : Nat) : C d 146 [.ref a0] sl h = rt 146 (R d 146 (0, [some (.ref a0), none], [], sl, h)) := C_rt _ _ _ _ _
theorem t146_27 (ls : XL) (sl : Nat) (h : List AC) (v : Int32) : rt 146 (some (27, ls, [.int v], sl, h)) = some ([.int v], sl, h) := rfl
theorem e147 (d sl : Nat) (h : List AC) (a0 : Nat) : C d 147 [.ref a0] sl h = rt 147 (R d 147 (0, [some (.ref a0)], [], sl, h)) := C_rt _ _ _ _ _
theorem t147_4 (ls : XL) (sl : Nat) (h : List AC) (v : Int32) : rt 147 (some (4, ls, [.int v], sl, h)) = some ([.int v], sl, h) := rfl
theorem e148 (d sl : Nat) (h : List AC) (a0 : Nat) : C d 148 [.ref a0] sl h = rt 148 (R d 148 (0, [some (.ref a0), none, none, none, none], [], sl, h)) := C_rt _ _ _ _ _
theorem t148_34 (ls : XL) (sl : Nat) (h : List AC) (v : Int32) : rt 148 (some (34, ls, [.int v], sl, h)) = some ([.int v], sl, h) := rfl
theorem t148_69 (ls : XL) (sl : Nat) (h : List AC) (v : Int32) : rt 148 (some (69, ls, [.int v], sl, h)) = some ([.int v], sl, h) := rfl
theorem t148_98 (ls : XL) (sl : Nat) (h : List AC) (v : Int32) : rt 148 (some (98, ls, [.int v], sl, h)) = some ([.int v], sl, h) := rfl
theorem e149 (d sl : Nat) (h : List AC) (a0 : Nat) (a1 : Int32) (a2 : Int32) : C d 149 [.ref a0, .int a1, .int a2] sl h = rt 149 (R d 149 (0, [some (.ref a0), some (.int a1), some (.int a2), none, none], [], sl, h)) := C_rt _ _ _ _ _
theorem t149_45 (ls : XL) (sl : Nat) (h : List AC) (v : Int32) : rt 149 (some (45, ls, [.int v], sl, h)) = some ([.int v], sl, h) := rfl
theorem e150 (d sl : Nat) (h : List AC) (a0 : Nat) (a1 : Int32) : C d 150 [.ref a0, .int a1] sl h = rt 150 (R d 150 (0, [some (.ref a0), some (.int a1), none, none, none, none], [], sl, h)) := C_rt _ _ _ _ _
theorem t150_42 (ls : XL) (sl : Nat) (h : List AC) (v : Int32) : rt 150 (some (42, ls, [.int v], sl, h)) = some ([.int v], sl, h) := rfl
theorem e151 (d sl : Nat) (h : List AC) (a0 : Nat) (a1 : Int32) (a2 : Int32) : C d 151 [.ref a0, .int a1, .int a2] sl h = rt 151 (R d 151 (0, [some (.ref a0), some (.int a1), some (.int a2), none, none, none, none, none], [], sl, h)) := C_rt _ _ _ _ _
theorem t151_119 (ls : XL) (sl : Nat) (h : List AC) (v : Int32) : rt 151 (some (119, ls, [.int v], sl, h)) = some ([.int v], sl, h) := rfl
theorem e152 (d sl : Nat) (h : List AC) (a0 : Nat) (a1 : Int32) : C d 152 [.ref a0, .int a1] sl h = rt 152 (R d 152 (0, [some (.ref a0), some (.int a1)], [], sl, h)) := C_rt _ _ _ _ _
theorem t152_12 (ls : XL) (sl : Nat) (h : List AC) (v : Int32) : rt 152 (some (12, ls, [.int v], sl, h)) = some ([.int v], sl, h) := rfl
theorem t152_32 (ls : XL) (sl : Nat) (h : List AC) (v : Int32) : rt 152 (some (32, ls, [.int v], sl, h)) = some ([.int v], sl, h) := rfl
theorem e153 (d sl : Nat) (h : List AC) (a0 : Nat) (a1 : Int32) : C d 153 [.ref a0, .int a1] sl h = rt 153 (R d 153 (0, [some (.ref a0), some (.int a1)], [], sl, h)) := C_rt _ _ _ _ _
theorem t153_8 (ls : XL) (sl : Nat) (h : List AC) (v : Int32) : rt 153 (some (8, ls, [.int v], sl, h)) = some ([.int v], sl, h) := rfl
theorem e154 (d sl : Nat) (h : List AC) (a0 : Nat) (a1 : Int32) : C d 154 [.ref a0, .int a1] sl h = rt 154 (R d 154 (0, [some (.ref a0), some (.int a1), none], [], sl, h)) := C_rt _ _ _ _ _
theorem t154_12 (ls : XL) (sl : Nat) (h : List AC) (v : Int32) : rt 154 (some (12, ls, [.int v], sl, h)) = some ([.int v], sl, h) := rfl
theorem t154_57 (ls : XL) (sl : Nat) (h : List AC) (v : Int32) : rt 154 (some (57, ls, [.int v], sl, h)) = some ([.int v], sl, h) := rfl
theorem t154_138 (ls : XL) (sl : Nat) (h : List AC) (v : Int32) : rt 154 (some (138, ls, [.int v], sl, h)) = some ([.int v], sl, h) := rfl
theorem e155 (d sl : Nat) (h : List AC) (a0 : Nat) (a1 : Int32) : C d 155 [.ref a0, .int a1] sl h = rt 155 (R d 155 (0, [some (.ref a0), some (.int a1)], [], sl, h)) := C_rt _ _ _ _ _
theorem t155_11 (ls : XL) (sl : Nat) (h : List AC) (v : Int32) : rt 155 (some (11, ls, [.int v], sl, h)) = some ([.int v], sl, h) := rfl
theorem t155_51 (ls : XL) (sl : Nat) (h : List AC) (v : Int32) : rt 155 (some (51, ls, [.int v], sl, h)) = some ([.int v], sl, h) := rfl
theorem t155_59 (ls : XL) (sl : Nat) (h : List AC) (v : Int32) : rt 155 (some (59, ls, [.int v], sl, h)) = some ([.int v], sl, h) := rfl
theorem t155_67 (ls : XL) (sl : Nat) (h : List AC) (v : Int32) : rt 155 (some (67, ls, [.int v], sl, h)) = some ([.int v], sl, h) := rfl
theorem t155_75 (ls : XL) (sl : Nat) (h : List AC) (v : Int32) : rt 155 (some (75, ls, [.int v], sl, h)) = some ([.int v], sl, h) := rfl
theorem t155_77 (ls : XL) (sl : Nat) (h : List AC) (v : Int32) : rt 155 (some (77, ls, [.int v], sl, h)) = some ([.int v], sl, h) := rfl
theorem e156 (d sl : Nat) (h : List AC) (a0 : Nat) : C d 156 [.ref a0] sl h = rt 156 (R d 156 (0, [some (.ref a0), none, none, none], [], sl, h)) := C_rt _ _ _ _ _
theorem t156_79 (ls : XL) (sl : Nat) (h : List AC) (v : Int32) : rt 156 (some (79, ls, [.int v], sl, h)) = some ([.int v], sl, h) := rfl
theorem t156_102 (ls : XL) (sl : Nat) (h : List AC) (v : Int32) : rt 156 (some (102, ls, [.int v], sl, h)) = some ([.int v], sl, h) := rfl
theorem e157 (d sl : Nat) (h : List AC) (a0 : Nat) (a1 : Int32) : C d 157 [.ref a0, .int a1] sl h = rt 157 (R d 157 (0, [some (.ref a0), some (.int a1), none, none, none], [], sl, h)) := C_rt _ _ _ _ _
theorem t157_16 (ls : XL) (sl : Nat) (h : List AC) (v : Int32) : rt 157 (some (16, ls, [.int v], sl, h)) = some ([.int v], sl, h) := rfl
theorem t157_70 (ls : XL) (sl : Nat) (h : List AC) (v : Int32) : rt 157 (some (70, ls, [.int v], sl, h)) = some ([.int v], sl, h) := rfl
theorem t157_90 (ls : XL) (sl : Nat) (h : List AC) (v : Int32) : rt 157 (some (90, ls, [.int v], sl, h)) = some ([.int v], sl, h) := rfl
theorem e158 (d sl : Nat) (h : List AC) (a0 : Nat) (a1 : Int32) : C d 158 [.ref a0, .int a1] sl h = rt 158 (R d 158 (0, [some (.ref a0), some (.int a1)], [], sl, h)) := C_rt _ _ _ _ _
theorem t158_10 (ls : XL) (sl : Nat) (h : List AC) (b : Bool) : rt 158 (some (10, ls, [.int (x_b b)], sl, h)) = some ([.int (x_b b)], sl, h) := by cases b <;> rfl
theorem t158_10_0 (ls : XL) (sl : Nat) (h : List AC) : rt 158 (some (10, ls, [.int (nI 0)], sl, h)) = some ([.int (x_b false)], sl, h) := rfl
theorem t158_10_1 (ls : XL) (sl : Nat) (h : List AC) : rt 158 (some (10, ls, [.int (nI 1)], sl, h)) = some ([.int (x_b true)], sl, h) := rfl
theorem t158_45 (ls : XL) (sl : Nat) (h : List AC) (b : Bool) : rt 158 (some (45, ls, [.int (x_b b)], sl, h)) = some ([.int (x_b b)], sl, h) := by cases b <;> rfl
theorem t158_45_0 (ls : XL) (sl : Nat) (h : List AC) : rt 158 (some (45, ls, [.int (nI 0)], sl, h)) = some ([.int (x_b false)], sl, h) := rfl
theorem t158_45_1 (ls : XL) (sl : Nat) (h : List AC) : rt 158 (some (45, ls, [.int (nI 1)], sl, h)) = some ([.int (x_b true)], sl, h) := rfl
theorem e159 (d sl : Nat) (h : List AC) (a0 : Nat) (a1 : Int32) : C d 159 [.ref a0, .int a1] sl h = rt 159 (R d 159 (0, [some (.ref a0), some (.int a1)], [], sl, h)) := C_rt _ _ _ _ _
theorem t159_19 (ls : XL) (sl : Nat) (h : List AC) (b : Bool) : rt 159 (some (19, ls, [.int (x_b b)], sl, h)) = some ([.int (x_b b)], sl, h) := by cases b <;> rfl
theorem t159_19_0 (ls : XL) (sl : Nat) (h : List AC) : rt 159 (some (19, ls, [.int (nI 0)], sl, h)) = some ([.int (x_b false)], sl, h) := rfl
theorem t159_19_1 (ls : XL) (sl : Nat) (h : List AC) : rt 159 (some (19, ls, [.int (nI 1)], sl, h)) = some ([.int (x_b true)], sl, h) := rfl
theorem t159_54 (ls : XL) (sl : Nat) (h : List AC) (b : Bool) : rt 159 (some (54, ls, [.int (x_b b)], sl, h)) = some ([.int (x_b b)], sl, h) := by cases b <;> rfl
theorem t159_54_0 (ls : XL) (sl : Nat) (h : List AC) : rt 159 (some (54, ls, [.int (nI 0)], sl, h)) = some ([.int (x_b false)], sl, h) := rfl
theorem t159_54_1 (ls : XL) (sl : Nat) (h : List AC) : rt 159 (some (54, ls, [.int (nI 1)], sl, h)) = some ([.int (x_b true)], sl, h) := rfl
theorem e160 (d sl : Nat) (h : List AC) (a0 : Nat) : C d 160 [.ref a0] sl h = rt 160 (R d 160 (0, [some (.ref a0)], [], sl, h)) := C_rt _ _ _ _ _
theorem t160_4 (ls : XL) (sl : Nat) (h : List AC) (v : Int32) : rt 160 (some (4, ls, [.int v], sl, h)) = some ([.int v], sl, h) := rfl
theorem e161 (d sl : Nat) (h : List AC) (a0 : Nat) : C d 161 [.ref a0] sl h = rt 161 (R d 161 (0, [some (.ref a0)], [], sl, h)) := C_rt _ _ _ _ _
theorem t161_6 (ls : XL) (sl : Nat) (h : List AC) (v : Int32) : rt 161 (some (6, ls, [.int v], sl, h)) = some ([.int v], sl, h) := rfl
theorem e162 (d sl : Nat) (h : List AC) (a0 : Nat) (a1 : Int32) : C d 162 [.ref a0, .int a1] sl h = rt 162 (R d 162 (0, [some (.ref a0), some (.int a1), none], [], sl, h)) := C_rt _ _ _ _ _
theorem t162_39 (ls : XL) (sl : Nat) (h : List AC) : rt 162 (some (39, ls, [], sl, h)) = some ([], sl, h) := rfl
theorem e163 (d sl : Nat) (h : List AC) (a0 : Nat) (a1 : Int32) (a2 : Int32) (a3 : Int32) (a4 : Int32) (a5 : Int32) : C d 163 [.ref a0, .int a1, .int a2, .int a3, .int a4, .int a5] sl h = rt 163 (R d 163 (0, [some (.ref a0), some (.int a1), some (.int a2), some (.int a3), some (.int a4), some (.int a5)], [], sl, h)) := C_rt _ _ _ _ _
theorem t163_19 (ls : XL) (sl : Nat) (h : List AC) (v : Int32) : rt 163 (some (19, ls, [.int v], sl, h)) = some ([.int v], sl, h) := rfl
theorem t163_51 (ls : XL) (sl : Nat) (h : List AC) (v : Int32) : rt 163 (some (51, ls, [.int v], sl, h)) = some ([.int v], sl, h) := rfl
theorem e164 (d sl : Nat) (h : List AC) (a0 : Nat) (a1 : Int32) : C d 164 [.ref a0, .int a1] sl h = rt 164 (R d 164 (0, [some (.ref a0), some (.int a1)], [], sl, h)) := C_rt _ _ _ _ _
theorem t164_18 (ls : XL) (sl : Nat) (h : List AC) (b : Bool) : rt 164 (some (18, ls, [.int (x_b b)], sl, h)) = some ([.int (x_b b)], sl, h) := by cases b <;> rfl
theorem t164_18_0 (ls : XL) (sl : Nat) (h : List AC) : rt 164 (some (18, ls, [.int (nI 0)], sl, h)) = some ([.int (x_b false)], sl, h) := rfl
theorem t164_18_1 (ls : XL) (sl : Nat) (h : List AC) : rt 164 (some (18, ls, [.int (nI 1)], sl, h)) = some ([.int (x_b true)], sl, h) := rfl
theorem t164_25 (ls : XL) (sl : Nat) (h : List AC) (b : Bool) : rt 164 (some (25, ls, [.int (x_b b)], sl, h)) = some ([.int (x_b b)], sl, h) := by cases b <;> rfl
theorem t164_25_0 (ls : XL) (sl : Nat) (h : List AC) : rt 164 (some (25, ls, [.int (nI 0)], sl, h)) = some ([.int (x_b false)], sl, h) := rfl
theorem t164_25_1 (ls : XL) (sl : Nat) (h : List AC) : rt 164 (some (25, ls, [.int (nI 1)], sl, h)) = some ([.int (x_b true)], sl, h) := rfl
theorem e165 (d sl : Nat) (h : List AC) (a0 : Nat) : C d 165 [.ref a0] sl h = rt 165 (R d 165 (0, [some (.ref a0), none], [], sl, h)) := C_rt _ _ _ _ _
theorem t165_11 (ls : XL) (sl : Nat) (h : List AC) (v : Int32) : rt 165 (some (11, ls, [.int v], sl, h)) = some ([.int v], sl, h) := rfl
theorem e166 (d sl : Nat) (h : List AC) (a0 : Int32) (a1 : Int32) (a2 : Int32) : C d 166 [.int a0, .int a1, .int a2] sl h = rt 166 (R d 166 (0, [some (.int a0), some (.int a1), some (.int a2)], [], sl, h)) := C_rt _ _ _ _ _
theorem t166_15 (ls : XL) (sl : Nat) (h : List AC) (b : Bool) : rt 166 (some (15, ls, [.int (x_b b)], sl, h)) = some ([.int (x_b b)], sl, h) := by cases b <;> rfl
theorem t166_15_0 (ls : XL) (sl : Nat) (h : List AC) : rt 166 (some (15, ls, [.int (nI 0)], sl, h)) = some ([.int (x_b false)], sl, h) := rfl
theorem t166_15_1 (ls : XL) (sl : Nat) (h : List AC) : rt 166 (some (15, ls, [.int (nI 1)], sl, h)) = some ([.int (x_b true)], sl, h) := rfl
theorem e167 (d sl : Nat) (h : List AC) (a0 : Int32) (a1 : Int32) : C d 167 [.int a0, .int a1] sl h = rt 167 (R d 167 (0, [some (.int a0), some (.int a1)], [], sl, h)) := C_rt _ _ _ _ _
theorem t167_14 (ls : XL) (sl : Nat) (h : List AC) (b : Bool) : rt 167 (some (14, ls, [.int (x_b b)], sl, h)) = some ([.int (x_b b)], sl, h) := by cases b <;> rfl
theorem t167_14_0 (ls : XL) (sl : Nat) (h : List AC) : rt 167 (some (14, ls, [.int (nI 0)], sl, h)) = some ([.int (x_b false)], sl, h) := rfl
theorem t167_14_1 (ls : XL) (sl : Nat) (h : List AC) : rt 167 (some (14, ls, [.int (nI 1)], sl, h)) = some ([.int (x_b true)], sl, h) := rfl
theorem e168 (d sl : Nat) (h : List AC) (a0 : Int32) : C d 168 [.int a0] sl h = rt 168 (R d 168 (0, [some (.int a0), none, none], [], sl, h)) := C_rt _ _ _ _ _
theorem t168_21 (ls : XL) (sl : Nat) (h : List AC) (v : Int32) : rt 168 (some (21, ls, [.int v], sl, h)) = some ([.int v], sl, h) := rfl
theorem e169 (d sl : Nat) (h : List AC) (a0 : Int32) (a1 : Int32) : C d 169 [.int a0, .int a1] sl h = rt 169 (R d 169 (0, [some (.int a0), some (.int a1)], [], sl, h)) := C_rt _ _ _ _ _
theorem t169_10 (ls : XL) (sl : Nat) (h : List AC) (v : Int32) : rt 169 (some (10, ls, [.int v], sl, h)) = some ([.int v], sl, h) := rfl
theorem e170 (d sl : Nat) (h : List AC) (a0 : Int32) (a1 : Int32) : C d 170 [.int a0, .int a1] sl h = rt 170 (R d 170 (0, [some (.int a0), some (.int a1), none, none, none], [], sl, h)) := C_rt _ _ _ _ _
theorem t170_22 (ls : XL) (sl : Nat) (h : List AC) (v : Int32) : rt 170 (some (22, ls, [.int v], sl, h)) = some ([.int v], sl, h) := rfl
theorem e171 (d sl : Nat) (h : List AC) (a0 : Nat) (a1 : Int32) : C d 171 [.ref a0, .int a1] sl h = rt 171 (R d 171 (0, [some (.ref a0), some (.int a1)], [], sl, h)) := C_rt _ _ _ _ _
theorem t171_18 (ls : XL) (sl : Nat) (h : List AC) (v : Int32) : rt 171 (some (18, ls, [.int v], sl, h)) = some ([.int v], sl, h) := rfl
theorem e172 (d sl : Nat) (h : List AC) (a0 : Int32) : C d 172 [.int a0] sl h = rt 172 (R d 172 (0, [some (.int a0)], [], sl, h)) := C_rt _ _ _ _ _
theorem t172_17 (ls : XL) (sl : Nat) (h : List AC) (b : Bool) : rt 172 (some (17, ls, [.int (x_b b)], sl, h)) = some ([.int (x_b b)], sl, h) := by cases b <;> rfl
theorem t172_17_0 (ls : XL) (sl : Nat) (h : List AC) : rt 172 (some (17, ls, [.int (nI 0)], sl, h)) = some ([.int (x_b false)], sl, h) := rfl
theorem t172_17_1 (ls : XL) (sl : Nat) (h : List AC) : rt 172 (some (17, ls, [.int (nI 1)], sl, h)) = some ([.int (x_b true)], sl, h) := rfl
theorem e173 (d sl : Nat) (h : List AC) (a0 : Int32) : C d 173 [.int a0] sl h = rt 173 (R d 173 (0, [some (.int a0)], [], sl, h)) := C_rt _ _ _ _ _
theorem t173_17 (ls : XL) (sl : Nat) (h : List AC) (b : Bool) : rt 173 (some (17, ls, [.int (x_b b)], sl, h)) = some ([.int (x_b b)], sl, h) := by cases b <;> rfl
theorem t173_17_0 (ls : XL) (sl : Nat) (h : List AC) : rt 173 (some (17, ls, [.int (nI 0)], sl, h)) = some ([.int (x_b false)], sl, h) := rfl
theorem t173_17_1 (ls : XL) (sl : Nat) (h : List AC) : rt 173 (some (17, ls, [.int (nI 1)], sl, h)) = some ([.int (x_b true)], sl, h) := rfl
theorem e174 (d sl : Nat) (h : List AC) (a0 : Nat) : C d 174 [.ref a0] sl h = rt 174 (R d 174 (0, [some (.ref a0), none, none, none, none], [], sl, h)) := C_rt _ _ _ _ _
theorem t174_95 (ls : XL) (sl : Nat) (h : List AC) : rt 174 (some (95, ls, [], sl, h)) = some ([], sl, h) := rfl
theorem t174_112 (ls : XL) (sl : Nat) (h : List AC) : rt 174 (some (112, ls, [], sl, h)) = some ([], sl, h) := rfl
theorem t174_197 (ls : XL) (sl : Nat) (h : List AC) : rt 174 (some (197, ls, [], sl, h)) = some ([], sl, h) := rfl
theorem t174_393 (ls : XL) (sl : Nat) (h : List AC) : rt 174 (some (393, ls, [], sl, h)) = some ([], sl, h) := rfl
theorem e175 (d sl : Nat) (h : List AC) (a0 : Int32) (a1 : Int32) (a2 : Int32) (a3 : Int32) (a4 : Int32) (a5 : Int32) (a6 : Int32) : C d 175 [.int a0, .int a1, .int a2, .int a3, .int a4, .int a5, .int a6] sl h = rt 175 (R d 175 (0, [some (.int a0), some (.int a1), some (.int a2), some (.int a3), some (.int a4), some (.int a5), some (.int a6), none, none], [], sl, h)) := C_rt _ _ _ _ _
theorem t175_122 (ls : XL) (sl : Nat) (h : List AC) (v : Int64) : rt 175 (some (122, ls, [.long v], sl, h)) = some ([.long v], sl, h) := rfl
theorem e176 (d sl : Nat) (h : List AC) (a0 : Int32) : C d 176 [.int a0] sl h = rt 176 (R d 176 (0, [some (.int a0)], [], sl, h)) := C_rt _ _ _ _ _
theorem t176_111 (ls : XL) (sl : Nat) (h : List AC) (v : Int64) : rt 176 (some (111, ls, [.long v], sl, h)) = some ([.long v], sl, h) := rfl
theorem t176_126 (ls : XL) (sl : Nat) (h : List AC) (v : Int64) : rt 176 (some (126, ls, [.long v], sl, h)) = some ([.long v], sl, h) := rfl
theorem t176_142 (ls : XL) (sl : Nat) (h : List AC) (v : Int64) : rt 176 (some (142, ls, [.long v], sl, h)) = some ([.long v], sl, h) := rfl
theorem t176_156 (ls : XL) (sl : Nat) (h : List AC) (v : Int64) : rt 176 (some (156, ls, [.long v], sl, h)) = some ([.long v], sl, h) := rfl
theorem t176_174 (ls : XL) (sl : Nat) (h : List AC) (v : Int64) : rt 176 (some (174, ls, [.long v], sl, h)) = some ([.long v], sl, h) := rfl
theorem t176_189 (ls : XL) (sl : Nat) (h : List AC) (v : Int64) : rt 176 (some (189, ls, [.long v], sl, h)) = some ([.long v], sl, h) := rfl
theorem t176_207 (ls : XL) (sl : Nat) (h : List AC) (v : Int64) : rt 176 (some (207, ls, [.long v], sl, h)) = some ([.long v], sl, h) := rfl
theorem t176_223 (ls : XL) (sl : Nat) (h : List AC) (v : Int64) : rt 176 (some (223, ls, [.long v], sl, h)) = some ([.long v], sl, h) := rfl
theorem t176_238 (ls : XL) (sl : Nat) (h : List AC) (v : Int64) : rt 176 (some (238, ls, [.long v], sl, h)) = some ([.long v], sl, h) := rfl
theorem t176_251 (ls : XL) (sl : Nat) (h : List AC) (v : Int64) : rt 176 (some (251, ls, [.long v], sl, h)) = some ([.long v], sl, h) := rfl
theorem t176_265 (ls : XL) (sl : Nat) (h : List AC) (v : Int64) : rt 176 (some (265, ls, [.long v], sl, h)) = some ([.long v], sl, h) := rfl
theorem t176_279 (ls : XL) (sl : Nat) (h : List AC) (v : Int64) : rt 176 (some (279, ls, [.long v], sl, h)) = some ([.long v], sl, h) := rfl
theorem t176_294 (ls : XL) (sl : Nat) (h : List AC) (v : Int64) : rt 176 (some (294, ls, [.long v], sl, h)) = some ([.long v], sl, h) := rfl
theorem t176_310 (ls : XL) (sl : Nat) (h : List AC) (v : Int64) : rt 176 (some (310, ls, [.long v], sl, h)) = some ([.long v], sl, h) := rfl
theorem t176_325 (ls : XL) (sl : Nat) (h : List AC) (v : Int64) : rt 176 (some (325, ls, [.long v], sl, h)) = some ([.long v], sl, h) := rfl
theorem t176_342 (ls : XL) (sl : Nat) (h : List AC) (v : Int64) : rt 176 (some (342, ls, [.long v], sl, h)) = some ([.long v], sl, h) := rfl
theorem t176_357 (ls : XL) (sl : Nat) (h : List AC) (v : Int64) : rt 176 (some (357, ls, [.long v], sl, h)) = some ([.long v], sl, h) := rfl
theorem t176_373 (ls : XL) (sl : Nat) (h : List AC) (v : Int64) : rt 176 (some (373, ls, [.long v], sl, h)) = some ([.long v], sl, h) := rfl
theorem t176_389 (ls : XL) (sl : Nat) (h : List AC) (v : Int64) : rt 176 (some (389, ls, [.long v], sl, h)) = some ([.long v], sl, h) := rfl
theorem t176_406 (ls : XL) (sl : Nat) (h : List AC) (v : Int64) : rt 176 (some (406, ls, [.long v], sl, h)) = some ([.long v], sl, h) := rfl
theorem t176_423 (ls : XL) (sl : Nat) (h : List AC) (v : Int64) : rt 176 (some (423, ls, [.long v], sl, h)) = some ([.long v], sl, h) := rfl
theorem e177 (d sl : Nat) (h : List AC) (a0 : Nat) (a1 : Int32) : C d 177 [.ref a0, .int a1] sl h = rt 177 (R d 177 (0, [some (.ref a0), some (.int a1)], [], sl, h)) := C_rt _ _ _ _ _
theorem t177_25 (ls : XL) (sl : Nat) (h : List AC) (b : Bool) : rt 177 (some (25, ls, [.int (x_b b)], sl, h)) = some ([.int (x_b b)], sl, h) := by cases b <;> rfl
theorem t177_25_0 (ls : XL) (sl : Nat) (h : List AC) : rt 177 (some (25, ls, [.int (nI 0)], sl, h)) = some ([.int (x_b false)], sl, h) := rfl
theorem t177_25_1 (ls : XL) (sl : Nat) (h : List AC) : rt 177 (some (25, ls, [.int (nI 1)], sl, h)) = some ([.int (x_b true)], sl, h) := rfl
theorem e178 (d sl : Nat) (h : List AC) (a0 : Nat) (a1 : Int32) : C d 178 [.ref a0, .int a1] sl h = rt 178 (R d 178 (0, [some (.ref a0), some (.int a1)], [], sl, h)) := C_rt _ _ _ _ _
theorem t178_21 (ls : XL) (sl : Nat) (h : List AC) (b : Bool) : rt 178 (some (21, ls, [.int (x_b b)], sl, h)) = some ([.int (x_b b)], sl, h) := by cases b <;> rfl
theorem t178_21_0 (ls : XL) (sl : Nat) (h : List AC) : rt 178 (some (21, ls, [.int (nI 0)], sl, h)) = some ([.int (x_b false)], sl, h) := rfl
theorem t178_21_1 (ls : XL) (sl : Nat) (h : List AC) : rt 178 (some (21, ls, [.int (nI 1)], sl, h)) = some ([.int (x_b true)], sl, h) := rfl
theorem e179 (d sl : Nat) (h : List AC) (a0 : Nat) : C d 179 [.ref a0] sl h = rt 179 (R d 179 (0, [some (.ref a0), none], [], sl, h)) := C_rt _ _ _ _ _
theorem t179_9 (ls : XL) (sl : Nat) (h : List AC) (b : Bool) : rt 179 (some (9, ls, [.int (x_b b)], sl, h)) = some ([.int (x_b b)], sl, h) := by cases b <;> rfl
theorem t179_9_0 (ls : XL) (sl : Nat) (h : List AC) : rt 179 (some (9, ls, [.int (nI 0)], sl, h)) = some ([.int (x_b false)], sl, h) := rfl
theorem t179_9_1 (ls : XL) (sl : Nat) (h : List AC) : rt 179 (some (9, ls, [.int (nI 1)], sl, h)) = some ([.int (x_b true)], sl, h) := rfl
theorem t179_31 (ls : XL) (sl : Nat) (h : List AC) (b : Bool) : rt 179 (some (31, ls, [.int (x_b b)], sl, h)) = some ([.int (x_b b)], sl, h) := by cases b <;> rfl
theorem t179_31_0 (ls : XL) (sl : Nat) (h : List AC) : rt 179 (some (31, ls, [.int (nI 0)], sl, h)) = some ([.int (x_b false)], sl, h) := rfl
theorem t179_31_1 (ls : XL) (sl : Nat) (h : List AC) : rt 179 (some (31, ls, [.int (nI 1)], sl, h)) = some ([.int (x_b true)], sl, h) := rfl
theorem t179_39 (ls : XL) (sl : Nat) (h : List AC) (b : Bool) : rt 179 (some (39, ls, [.int (x_b b)], sl, h)) = some ([.int (x_b b)], sl, h) := by cases b <;> rfl
theorem t179_39_0 (ls : XL) (sl : Nat) (h : List AC) : rt 179 (some (39, ls, [.int (nI 0)], sl, h)) = some ([.int (x_b false)], sl, h) := rfl
theorem t179_39_1 (ls : XL) (sl : Nat) (h : List AC) : rt 179 (some (39, ls, [.int (nI 1)], sl, h)) = some ([.int (x_b true)], sl, h) := rfl
theorem e180 (d sl : Nat) (h : List AC) (a0 : Nat) (a1 : Int32) : C d 180 [.ref a0, .int a1] sl h = rt 180 (R d 180 (0, [some (.ref a0), some (.int a1)], [], sl, h)) := C_rt _ _ _ _ _
theorem t180_26 (ls : XL) (sl : Nat) (h : List AC) (b : Bool) : rt 180 (some (26, ls, [.int (x_b b)], sl, h)) = some ([.int (x_b b)], sl, h) := by cases b <;> rfl
theorem t180_26_0 (ls : XL) (sl : Nat) (h : List AC) : rt 180 (some (26, ls, [.int (nI 0)], sl, h)) = some ([.int (x_b false)], sl, h) := rfl
theorem t180_26_1 (ls : XL) (sl : Nat) (h : List AC) : rt 180 (some (26, ls, [.int (nI 1)], sl, h)) = some ([.int (x_b true)], sl, h) := rfl
theorem e181 (d sl : Nat) (h : List AC) (a0 : Nat) (a1 : Int32) (a2 : Int32) : C d 181 [.ref a0, .int a1, .int a2] sl h = rt 181 (R d 181 (0, [some (.ref a0), some (.int a1), some (.int a2)], [], sl, h)) := C_rt _ _ _ _ _
theorem t181_13 (ls : XL) (sl : Nat) (h : List AC) (b : Bool) : rt 181 (some (13, ls, [.int (x_b b)], sl, h)) = some ([.int (x_b b)], sl, h) := by cases b <;> rfl
theorem t181_13_0 (ls : XL) (sl : Nat) (h : List AC) : rt 181 (some (13, ls, [.int (nI 0)], sl, h)) = some ([.int (x_b false)], sl, h) := rfl
theorem t181_13_1 (ls : XL) (sl : Nat) (h : List AC) : rt 181 (some (13, ls, [.int (nI 1)], sl, h)) = some ([.int (x_b true)], sl, h) := rfl
theorem t181_31 (ls : XL) (sl : Nat) (h : List AC) (b : Bool) : rt 181 (some (31, ls, [.int (x_b b)], sl, h)) = some ([.int (x_b b)], sl, h) := by cases b <;> rfl
theorem t181_31_0 (ls : XL) (sl : Nat) (h : List AC) : rt 181 (some (31, ls, [.int (nI 0)], sl, h)) = some ([.int (x_b false)], sl, h) := rfl
theorem t181_31_1 (ls : XL) (sl : Nat) (h : List AC) : rt 181 (some (31, ls, [.int (nI 1)], sl, h)) = some ([.int (x_b true)], sl, h) := rfl
theorem t181_45 (ls : XL) (sl : Nat) (h : List AC) (b : Bool) : rt 181 (some (45, ls, [.int (x_b b)], sl, h)) = some ([.int (x_b b)], sl, h) := by cases b <;> rfl
theorem t181_45_0 (ls : XL) (sl : Nat) (h : List AC) : rt 181 (some (45, ls, [.int (nI 0)], sl, h)) = some ([.int (x_b false)], sl, h) := rfl
theorem t181_45_1 (ls : XL) (sl : Nat) (h : List AC) : rt 181 (some (45, ls, [.int (nI 1)], sl, h)) = some ([.int (x_b true)], sl, h) := rfl
theorem e182 (d sl : Nat) (h : List AC) (a0 : Nat) : C d 182 [.ref a0] sl h = rt 182 (R d 182 (0, [some (.ref a0)], [], sl, h)) := C_rt _ _ _ _ _
theorem t182_14 (ls : XL) (sl : Nat) (h : List AC) (b : Bool) : rt 182 (some (14, ls, [.int (x_b b)], sl, h)) = some ([.int (x_b b)], sl, h) := by cases b <;> rfl
theorem t182_14_0 (ls : XL) (sl : Nat) (h : List AC) : rt 182 (some (14, ls, [.int (nI 0)], sl, h)) = some ([.int (x_b false)], sl, h) := rfl
theorem t182_14_1 (ls : XL) (sl : Nat) (h : List AC) : rt 182 (some (14, ls, [.int (nI 1)], sl, h)) = some ([.int (x_b true)], sl, h) := rfl
theorem t182_20 (ls : XL) (sl : Nat) (h : List AC) (b : Bool) : rt 182 (some (20, ls, [.int (x_b b)], sl, h)) = some ([.int (x_b b)], sl, h) := by cases b <;> rfl
theorem t182_20_0 (ls : XL) (sl : Nat) (h : List AC) : rt 182 (some (20, ls, [.int (nI 0)], sl, h)) = some ([.int (x_b false)], sl, h) := rfl
theorem t182_20_1 (ls : XL) (sl : Nat) (h : List AC) : rt 182 (some (20, ls, [.int (nI 1)], sl, h)) = some ([.int (x_b true)], sl, h) := rfl
theorem e183 (d sl : Nat) (h : List AC) (a0 : Nat) (a1 : Int32) : C d 183 [.ref a0, .int a1] sl h = rt 183 (R d 183 (0, [some (.ref a0), some (.int a1)], [], sl, h)) := C_rt _ _ _ _ _
theorem t183_32 (ls : XL) (sl : Nat) (h : List AC) : rt 183 (some (32, ls, [], sl, h)) = some ([], sl, h) := rfl
theorem e184 (d sl : Nat) (h : List AC) (a0 : Nat) : C d 184 [.ref a0] sl h = rt 184 (R d 184 (0, [some (.ref a0)], [], sl, h)) := C_rt _ _ _ _ _
theorem t184_180 (ls : XL) (sl : Nat) (h : List AC) : rt 184 (some (180, ls, [], sl, h)) = some ([], sl, h) := rfl
theorem e185 (d sl : Nat) (h : List AC) (a0 : Nat) : C d 185 [.ref a0] sl h = rt 185 (R d 185 (0, [some (.ref a0), none], [], sl, h)) := C_rt _ _ _ _ _
theorem t185_99 (ls : XL) (sl : Nat) (h : List AC) : rt 185 (some (99, ls, [], sl, h)) = some ([], sl, h) := rfl
theorem e186 (d sl : Nat) (h : List AC) (a0 : Nat) (a1 : Int32) (a2 : Int64) : C d 186 [.ref a0, .int a1, .long a2] sl h = rt 186 (R d 186 (0, [some (.ref a0), some (.int a1), some (.long a2), none, none], [], sl, h)) := C_rt _ _ _ _ _
theorem t186_20 (ls : XL) (sl : Nat) (h : List AC) (v : Int32) : rt 186 (some (20, ls, [.int v], sl, h)) = some ([.int v], sl, h) := rfl
theorem t186_28 (ls : XL) (sl : Nat) (h : List AC) (v : Int32) : rt 186 (some (28, ls, [.int v], sl, h)) = some ([.int v], sl, h) := rfl
theorem e187 (d sl : Nat) (h : List AC) (a0 : Nat) (a1 : Int32) (a2 : Int32) : C d 187 [.ref a0, .int a1, .int a2] sl h = rt 187 (R d 187 (0, [some (.ref a0), some (.int a1), some (.int a2)], [], sl, h)) := C_rt _ _ _ _ _
theorem t187_15 (ls : XL) (sl : Nat) (h : List AC) (b : Bool) : rt 187 (some (15, ls, [.int (x_b b)], sl, h)) = some ([.int (x_b b)], sl, h) := by cases b <;> rfl
theorem t187_15_0 (ls : XL) (sl : Nat) (h : List AC) : rt 187 (some (15, ls, [.int (nI 0)], sl, h)) = some ([.int (x_b false)], sl, h) := rfl
theorem t187_15_1 (ls : XL) (sl : Nat) (h : List AC) : rt 187 (some (15, ls, [.int (nI 1)], sl, h)) = some ([.int (x_b true)], sl, h) := rfl
theorem t187_21 (ls : XL) (sl : Nat) (h : List AC) (b : Bool) : rt 187 (some (21, ls, [.int (x_b b)], sl, h)) = some ([.int (x_b b)], sl, h) := by cases b <;> rfl
theorem t187_21_0 (ls : XL) (sl : Nat) (h : List AC) : rt 187 (some (21, ls, [.int (nI 0)], sl, h)) = some ([.int (x_b false)], sl, h) := rfl
theorem t187_21_1 (ls : XL) (sl : Nat) (h : List AC) : rt 187 (some (21, ls, [.int (nI 1)], sl, h)) = some ([.int (x_b true)], sl, h) := rfl
theorem e188 (d sl : Nat) (h : List AC) (a0 : Nat) (a1 : Int32) (a2 : Int32) : C d 188 [.ref a0, .int a1, .int a2] sl h = rt 188 (R d 188 (0, [some (.ref a0), some (.int a1), some (.int a2)], [], sl, h)) := C_rt _ _ _ _ _
theorem t188_15 (ls : XL) (sl : Nat) (h : List AC) (b : Bool) : rt 188 (some (15, ls, [.int (x_b b)], sl, h)) = some ([.int (x_b b)], sl, h) := by cases b <;> rfl
theorem t188_15_0 (ls : XL) (sl : Nat) (h : List AC) : rt 188 (some (15, ls, [.int (nI 0)], sl, h)) = some ([.int (x_b false)], sl, h) := rfl
theorem t188_15_1 (ls : XL) (sl : Nat) (h : List AC) : rt 188 (some (15, ls, [.int (nI 1)], sl, h)) = some ([.int (x_b true)], sl, h) := rfl
theorem e189 (d sl : Nat) (h : List AC) (a0 : Nat) : C d 189 [.ref a0] sl h = rt 189 (R d 189 (0, [some (.ref a0), none], [], sl, h)) := C_rt _ _ _ _ _
theorem t189_11 (ls : XL) (sl : Nat) (h : List AC) (b : Bool) : rt 189 (some (11, ls, [.int (x_b b)], sl, h)) = some ([.int (x_b b)], sl, h) := by cases b <;> rfl
theorem t189_11_0 (ls : XL) (sl : Nat) (h : List AC) : rt 189 (some (11, ls, [.int (nI 0)], sl, h)) = some ([.int (x_b false)], sl, h) := rfl
theorem t189_11_1 (ls : XL) (sl : Nat) (h : List AC) : rt 189 (some (11, ls, [.int (nI 1)], sl, h)) = some ([.int (x_b true)], sl, h) := rfl
theorem t189_31 (ls : XL) (sl : Nat) (h : List AC) (b : Bool) : rt 189 (some (31, ls, [.int (x_b b)], sl, h)) = some ([.int (x_b b)], sl, h) := by cases b <;> rfl
theorem t189_31_0 (ls : XL) (sl : Nat) (h : List AC) : rt 189 (some (31, ls, [.int (nI 0)], sl, h)) = some ([.int (x_b false)], sl, h) := rfl
theorem t189_31_1 (ls : XL) (sl : Nat) (h : List AC) : rt 189 (some (31, ls, [.int (nI 1)], sl, h)) = some ([.int (x_b true)], sl, h) := rfl
theorem t189_53 (ls : XL) (sl : Nat) (h : List AC) (b : Bool) : rt 189 (some (53, ls, [.int (x_b b)], sl, h)) = some ([.int (x_b b)], sl, h) := by cases b <;> rfl
theorem t189_53_0 (ls : XL) (sl : Nat) (h : List AC) : rt 189 (some (53, ls, [.int (nI 0)], sl, h)) = some ([.int (x_b false)], sl, h) := rfl
theorem t189_53_1 (ls : XL) (sl : Nat) (h : List AC) : rt 189 (some (53, ls, [.int (nI 1)], sl, h)) = some ([.int (x_b true)], sl, h) := rfl
theorem t189_123 (ls : XL) (sl : Nat) (h : List AC) (b : Bool) : rt 189 (some (123, ls, [.int (x_b b)], sl, h)) = some ([.int (x_b b)], sl, h) := by cases b <;> rfl
theorem t189_123_0 (ls : XL) (sl : Nat) (h : List AC) : rt 189 (some (123, ls, [.int (nI 0)], sl, h)) = some ([.int (x_b false)], sl, h) := rfl
theorem t189_123_1 (ls : XL) (sl : Nat) (h : List AC) : rt 189 (some (123, ls, [.int (nI 1)], sl, h)) = some ([.int (x_b true)], sl, h) := rfl
theorem t189_135 (ls : XL) (sl : Nat) (h : List AC) (b : Bool) : rt 189 (some (135, ls, [.int (x_b b)], sl, h)) = some ([.int (x_b b)], sl, h) := by cases b <;> rfl
theorem t189_135_0 (ls : XL) (sl : Nat) (h : List AC) : rt 189 (some (135, ls, [.int (nI 0)], sl, h)) = some ([.int (x_b false)], sl, h) := rfl
theorem t189_135_1 (ls : XL) (sl : Nat) (h : List AC) : rt 189 (some (135, ls, [.int (nI 1)], sl, h)) = some ([.int (x_b true)], sl, h) := rfl
theorem e190 (d sl : Nat) (h : List AC) (a0 : Nat) (a1 : Nat) (a2 : Int32) (a3 : Int32) : C d 190 [.ref a0, .ref a1, .int a2, .int a3] sl h = rt 190 (R d 190 (0, [some (.ref a0), some (.ref a1), some (.int a2), some (.int a3)], [], sl, h)) := C_rt _ _ _ _ _
theorem t190_12 (ls : XL) (sl : Nat) (h : List AC) (b : Bool) : rt 190 (some (12, ls, [.int (x_b b)], sl, h)) = some ([.int (x_b b)], sl, h) := by cases b <;> rfl
theorem t190_12_0 (ls : XL) (sl : Nat) (h : List AC) : rt 190 (some (12, ls, [.int (nI 0)], sl, h)) = some ([.int (x_b false)], sl, h) := rfl
theorem t190_12_1 (ls : XL) (sl : Nat) (h : List AC) : rt 190 (some (12, ls, [.int (nI 1)], sl, h)) = some ([.int (x_b true)], sl, h) := rfl
theorem t190_47 (ls : XL) (sl : Nat) (h : List AC) (b : Bool) : rt 190 (some (47, ls, [.int (x_b b)], sl, h)) = some ([.int (x_b b)], sl, h) := by cases b <;> rfl
theorem t190_47_0 (ls : XL) (sl : Nat) (h : List AC) : rt 190 (some (47, ls, [.int (nI 0)], sl, h)) = some ([.int (x_b false)], sl, h) := rfl
theorem t190_47_1 (ls : XL) (sl : Nat) (h : List AC) : rt 190 (some (47, ls, [.int (nI 1)], sl, h)) = some ([.int (x_b true)], sl, h) := rfl
theorem t190_53 (ls : XL) (sl : Nat) (h : List AC) (b : Bool) : rt 190 (some (53, ls, [.int (x_b b)], sl, h)) = some ([.int (x_b b)], sl, h) := by cases b <;> rfl
theorem t190_53_0 (ls : XL) (sl : Nat) (h : List AC) : rt 190 (some (53, ls, [.int (nI 0)], sl, h)) = some ([.int (x_b false)], sl, h) := rfl
theorem t190_53_1 (ls : XL) (sl : Nat) (h : List AC) : rt 190 (some (53, ls, [.int (nI 1)], sl, h)) = some ([.int (x_b true)], sl, h) := rfl
theorem e191 (d sl : Nat) (h : List AC) (a0 : Nat) : C d 191 [.ref a0] sl h = rt 191 (R d 191 (0, [some (.ref a0), none], [], sl, h)) := C_rt _ _ _ _ _
theorem t191_11 (ls : XL) (sl : Nat) (h : List AC) (b : Bool) : rt 191 (some (11, ls, [.int (x_b b)], sl, h)) = some ([.int (x_b b)], sl, h) := by cases b <;> rfl
theorem t191_11_0 (ls : XL) (sl : Nat) (h : List AC) : rt 191 (some (11, ls, [.int (nI 0)], sl, h)) = some ([.int (x_b false)], sl, h) := rfl
theorem t191_11_1 (ls : XL) (sl : Nat) (h : List AC) : rt 191 (some (11, ls, [.int (nI 1)], sl, h)) = some ([.int (x_b true)], sl, h) := rfl
theorem t191_80 (ls : XL) (sl : Nat) (h : List AC) (b : Bool) : rt 191 (some (80, ls, [.int (x_b b)], sl, h)) = some ([.int (x_b b)], sl, h) := by cases b <;> rfl
theorem t191_80_0 (ls : XL) (sl : Nat) (h : List AC) : rt 191 (some (80, ls, [.int (nI 0)], sl, h)) = some ([.int (x_b false)], sl, h) := rfl
theorem t191_80_1 (ls : XL) (sl : Nat) (h : List AC) : rt 191 (some (80, ls, [.int (nI 1)], sl, h)) = some ([.int (x_b true)], sl, h) := rfl
theorem t191_119 (ls : XL) (sl : Nat) (h : List AC) (b : Bool) : rt 191 (some (119, ls, [.int (x_b b)], sl, h)) = some ([.int (x_b b)], sl, h) := by cases b <;> rfl
theorem t191_119_0 (ls : XL) (sl : Nat) (h : List AC) : rt 191 (some (119, ls, [.int (nI 0)], sl, h)) = some ([.int (x_b false)], sl, h) := rfl
theorem t191_119_1 (ls : XL) (sl : Nat) (h : List AC) : rt 191 (some (119, ls, [.int (nI 1)], sl, h)) = some ([.int (x_b true)], sl, h) := rfl
theorem t191_131 (ls : XL) (sl : Nat) (h : List AC) (b : Bool) : rt 191 (some (131, ls, [.int (x_b b)], sl, h)) = some ([.int (x_b b)], sl, h) := by cases b <;> rfl
theorem t191_131_0 (ls : XL) (sl : Nat) (h : List AC) : rt 191 (some (131, ls, [.int (nI 0)], sl, h)) = some ([.int (x_b false)], sl, h) := rfl
theorem t191_131_1 (ls : XL) (sl : Nat) (h : List AC) : rt 191 (some (131, ls, [.int (nI 1)], sl, h)) = some ([.int (x_b true)], sl, h) := rfl
theorem e192 (d sl : Nat) (h : List AC) (a0 : Nat) : C d 192 [.ref a0] sl h = rt 192 (R d 192 (0, [some (.ref a0)], [], sl, h)) := C_rt _ _ _ _ _
theorem t192_12 (ls : XL) (sl : Nat) (h : List AC) (b : Bool) : rt 192 (some (12, ls, [.int (x_b b)], sl, h)) = some ([.int (x_b b)], sl, h) := by cases b <;> rfl
theorem t192_12_0 (ls : XL) (sl : Nat) (h : List AC) : rt 192 (some (12, ls, [.int (nI 0)], sl, h)) = some ([.int (x_b false)], sl, h) := rfl
theorem t192_12_1 (ls : XL) (sl : Nat) (h : List AC) : rt 192 (some (12, ls, [.int (nI 1)], sl, h)) = some ([.int (x_b true)], sl, h) := rfl
theorem t192_57 (ls : XL) (sl : Nat) (h : List AC) (b : Bool) : rt 192 (some (57, ls, [.int (x_b b)], sl, h)) = some ([.int (x_b b)], sl, h) := by cases b <;> rfl
theorem t192_57_0 (ls : XL) (sl : Nat) (h : List AC) : rt 192 (some (57, ls, [.int (nI 0)], sl, h)) = some ([.int (x_b false)], sl, h) := rfl
theorem t192_57_1 (ls : XL) (sl : Nat) (h : List AC) : rt 192 (some (57, ls, [.int (nI 1)], sl, h)) = some ([.int (x_b true)], sl, h) := rfl
theorem e193 (d sl : Nat) (h : List AC) (a0 : Nat) : C d 193 [.ref a0] sl h = rt 193 (R d 193 (0, [some (.ref a0)], [], sl, h)) := C_rt _ _ _ _ _
theorem t193_12 (ls : XL) (sl : Nat) (h : List AC) (b : Bool) : rt 193 (some (12, ls, [.int (x_b b)], sl, h)) = some ([.int (x_b b)], sl, h) := by cases b <;> rfl
theorem t193_12_0 (ls : XL) (sl : Nat) (h : List AC) : rt 193 (some (12, ls, [.int (nI 0)], sl, h)) = some ([.int (x_b false)], sl, h) := rfl
theorem t193_12_1 (ls : XL) (sl : Nat) (h : List AC) : rt 193 (some (12, ls, [.int (nI 1)], sl, h)) = some ([.int (x_b true)], sl, h) := rfl
theorem t193_25 (ls : XL) (sl : Nat) (h : List AC) (b : Bool) : rt 193 (some (25, ls, [.int (x_b b)], sl, h)) = some ([.int (x_b b)], sl, h) := by cases b <;> rfl
theorem t193_25_0 (ls : XL) (sl : Nat) (h : List AC) : rt 193 (some (25, ls, [.int (nI 0)], sl, h)) = some ([.int (x_b false)], sl, h) := rfl
theorem t193_25_1 (ls : XL) (sl : Nat) (h : List AC) : rt 193 (some (25, ls, [.int (nI 1)], sl, h)) = some ([.int (x_b true)], sl, h) := rfl
theorem t193_46 (ls : XL) (sl : Nat) (h : List AC) (b : Bool) : rt 193 (some (46, ls, [.int (x_b b)], sl, h)) = some ([.int (x_b b)], sl, h) := by cases b <;> rfl
theorem t193_46_0 (ls : XL) (sl : Nat) (h : List AC) : rt 193 (some (46, ls, [.int (nI 0)], sl, h)) = some ([.int (x_b false)], sl, h) := rfl
theorem t193_46_1 (ls : XL) (sl : Nat) (h : List AC) : rt 193 (some (46, ls, [.int (nI 1)], sl, h)) = some ([.int (x_b true)], sl, h) := rfl
theorem e194 (d sl : Nat) (h : List AC) (a0 : Nat) : C d 194 [.ref a0] sl h = rt 194 (R d 194 (0, [some (.ref a0), none, none], [], sl, h)) := C_rt _ _ _ _ _
theorem t194_76 (ls : XL) (sl : Nat) (h : List AC) (v : Int32) : rt 194 (some (76, ls, [.int v], sl, h)) = some ([.int v], sl, h) := rfl
theorem t194_145 (ls : XL) (sl : Nat) (h : List AC) (v : Int32) : rt 194 (some (145, ls, [.int v], sl, h)) = some ([.int v], sl, h) := rfl
theorem e195 (d sl : Nat) (h : List AC) (a0 : Nat) : C d 195 [.ref a0] sl h = rt 195 (R d 195 (0, [some (.ref a0)], [], sl, h)) := C_rt _ _ _ _ _
theorem t195_9 (ls : XL) (sl : Nat) (h : List AC) (v : Int32) : rt 195 (some (9, ls, [.int v], sl, h)) = some ([.int v], sl, h) := rfl
theorem e196 (d sl : Nat) (h : List AC) (a0 : Nat) (a1 : Int32) : C d 196 [.ref a0, .int a1] sl h = rt 196 (R d 196 (0, [some (.ref a0), some (.int a1)], [], sl, h)) := C_rt _ _ _ _ _
theorem t196_13 (ls : XL) (sl : Nat) (h : List AC) (b : Bool) : rt 196 (some (13, ls, [.int (x_b b)], sl, h)) = some ([.int (x_b b)], sl, h) := by cases b <;> rfl
theorem t196_13_0 (ls : XL) (sl : Nat) (h : List AC) : rt 196 (some (13, ls, [.int (nI 0)], sl, h)) = some ([.int (x_b false)], sl, h) := rfl
theorem t196_13_1 (ls : XL) (sl : Nat) (h : List AC) : rt 196 (some (13, ls, [.int (nI 1)], sl, h)) = some ([.int (x_b true)], sl, h) := rfl
theorem e197 (d sl : Nat) (h : List AC) (a0 : Nat) (a1 : Int32) : C d 197 [.ref a0, .int a1] sl h = rt 197 (R d 197 (0, [some (.ref a0), some (.int a1)], [], sl, h)) := C_rt _ _ _ _ _
theorem t197_14 (ls : XL) (sl : Nat) (h : List AC) (b : Bool) : rt 197 (some (14, ls, [.int (x_b b)], sl, h)) = some ([.int (x_b b)], sl, h) := by cases b <;> rfl
theorem t197_14_0 (ls : XL) (sl : Nat) (h : List AC) : rt 197 (some (14, ls, [.int (nI 0)], sl, h)) = some ([.int (x_b false)], sl, h) := rfl
theorem t197_14_1 (ls : XL) (sl : Nat) (h : List AC) : rt 197 (some (14, ls, [.int (nI 1)], sl, h)) = some ([.int (x_b true)], sl, h) := rfl
theorem e198 (d sl : Nat) (h : List AC) (a0 : Nat) (a1 : Int32) : C d 198 [.ref a0, .int a1] sl h = rt 198 (R d 198 (0, [some (.ref a0), some (.int a1)], [], sl, h)) := C_rt _ _ _ _ _
theorem t198_17 (ls : XL) (sl : Nat) (h : List AC) (b : Bool) : rt 198 (some (17, ls, [.int (x_b b)], sl, h)) = some ([.int (x_b b)], sl, h) := by cases b <;> rfl
theorem t198_17_0 (ls : XL) (sl : Nat) (h : List AC) : rt 198 (some (17, ls, [.int (nI 0)], sl, h)) = some ([.int (x_b false)], sl, h) := rfl
theorem t198_17_1 (ls : XL) (sl : Nat) (h : List AC) : rt 198 (some (17, ls, [.int (nI 1)], sl, h)) = some ([.int (x_b true)], sl, h) := rfl
theorem e199 (d sl : Nat) (h : List AC) (a0 : Nat) (a1 : Int32) (a2 : Int32) : C d 199 [.ref a0, .int a1, .int a2] sl h = rt 199 (R d 199 (0, [some (.ref a0), some (.int a1), some (.int a2)], [], sl, h)) := C_rt _ _ _ _ _
theorem t199_52 (ls : XL) (sl : Nat) (h : List AC) (b : Bool) : rt 199 (some (52, ls, [.int (x_b b)], sl, h)) = some ([.int (x_b b)], sl, h) := by cases b <;> rfl
theorem t199_52_0 (ls : XL) (sl : Nat) (h : List AC) : rt 199 (some (52, ls, [.int (nI 0)], sl, h)) = some ([.int (x_b false)], sl, h) := rfl
theorem t199_52_1 (ls : XL) (sl : Nat) (h : List AC) : rt 199 (some (52, ls, [.int (nI 1)], sl, h)) = some ([.int (x_b true)], sl, h) := rfl
theorem e200 (d sl : Nat) (h : List AC) (a0 : Nat) (a1 : Int32) (a2 : Int32) : C d 200 [.ref a0, .int a1, .int a2] sl h = rt 200 (R d 200 (0, [some (.ref a0), some (.int a1), some (.int a2), none, none], [], sl, h)) := C_rt _ _ _ _ _
theorem t200_50 (ls : XL) (sl : Nat) (h : List AC) (v : Int32) : rt 200 (some (50, ls, [.int v], sl, h)) = some ([.int v], sl, h) := rfl
theorem e201 (d sl : Nat) (h : List AC) (a0 : Nat) (a1 : Int32) : C d 201 [.ref a0, .int a1] sl h = rt 201 (R d 201 (0, [some (.ref a0), some (.int a1), none, none], [], sl, h)) := C_rt _ _ _ _ _
theorem t201_49 (ls : XL) (sl : Nat) (h : List AC) (v : Int32) : rt 201 (some (49, ls, [.int v], sl, h)) = some ([.int v], sl, h) := rfl
theorem e202 (d sl : Nat) (h : List AC) (a0 : Nat) (a1 : Int32) : C d 202 [.ref a0, .int a1] sl h = rt 202 (R d 202 (0, [some (.ref a0), some (.int a1), none, none], [], sl, h)) := C_rt _ _ _ _ _
theorem t202_66 (ls : XL) (sl : Nat) (h : List AC) (v : Int32) : rt 202 (some (66, ls, [.int v], sl, h)) = some ([.int v], sl, h) := rfl
theorem e203 (d sl : Nat) (h : List AC) (a0 : Nat) (a1 : Int32) : C d 203 [.ref a0, .int a1] sl h = rt 203 (R d 203 (0, [some (.ref a0), some (.int a1), none, none], [], sl, h)) := C_rt _ _ _ _ _
theorem t203_37 (ls : XL) (sl : Nat) (h : List AC) (v : Int32) : rt 203 (some (37, ls, [.int v], sl, h)) = some ([.int v], sl, h) := rfl
theorem e204 (d sl : Nat) (h : List AC) (a0 : Nat) (a1 : Int32) : C d 204 [.ref a0, .int a1] sl h = rt 204 (R d 204 (0, [some (.ref a0), some (.int a1)], [], sl, h)) := C_rt _ _ _ _ _
theorem t204_24 (ls : XL) (sl : Nat) (h : List AC) (b : Bool) : rt 204 (some (24, ls, [.int (x_b b)], sl, h)) = some ([.int (x_b b)], sl, h) := by cases b <;> rfl
theorem t204_24_0 (ls : XL) (sl : Nat) (h : List AC) : rt 204 (some (24, ls, [.int (nI 0)], sl, h)) = some ([.int (x_b false)], sl, h) := rfl
theorem t204_24_1 (ls : XL) (sl : Nat) (h : List AC) : rt 204 (some (24, ls, [.int (nI 1)], sl, h)) = some ([.int (x_b true)], sl, h) := rfl
theorem e205 (d sl : Nat) (h : List AC) (a0 : Nat) (a1 : Int32) (a2 : Int32) : C d 205 [.ref a0, .int a1, .int a2] sl h = rt 205 (R d 205 (0, [some (.ref a0), some (.int a1), some (.int a2), none], [], sl, h)) := C_rt _ _ _ _ _
theorem t205_17 (ls : XL) (sl : Nat) (h : List AC) (v : Int32) : rt 205 (some (17, ls, [.int v], sl, h)) = some ([.int v], sl, h) := rfl
theorem t205_69 (ls : XL) (sl : Nat) (h : List AC) (v : Int32) : rt 205 (some (69, ls, [.int v], sl, h)) = some ([.int v], sl, h) := rfl
theorem t205_79 (ls : XL) (sl : Nat) (h : List AC) (v : Int32) : rt 205 (some (79, ls, [.int v], sl, h)) = some ([.int v], sl, h) := rfl
theorem t205_89 (ls : XL) (sl : Nat) (h : List AC) (v : Int32) : rt 205 (some (89, ls, [.int v], sl, h)) = some ([.int v], sl, h) := rfl
theorem t205_97 (ls : XL) (sl : Nat) (h : List AC) (v : Int32) : rt 205 (some (97, ls, [.int v], sl, h)) = some ([.int v], sl, h) := rfl
theorem t205_105 (ls : XL) (sl : Nat) (h : List AC) (v : Int32) : rt 205 (some (105, ls, [.int v], sl, h)) = some ([.int v], sl, h) := rfl
theorem t205_111 (ls : XL) (sl : Nat) (h : List AC) (v : Int32) : rt 205 (some (111, ls, [.int v], sl, h)) = some ([.int v], sl, h) := rfl
theorem t205_140 (ls : XL) (sl : Nat) (h : List AC) (v : Int32) : rt 205 (some (140, ls, [.int v], sl, h)) = some ([.int v], sl, h) := rfl
theorem t205_145 (ls : XL) (sl : Nat) (h : List AC) (v : Int32) : rt 205 (some (145, ls, [.int v], sl, h)) = some ([.int v], sl, h) := rfl
theorem e206 (d sl : Nat) (h : List AC) (a0 : Nat) (a1 : Int32) : C d 206 [.ref a0, .int a1] sl h = rt 206 (R d 206 (0, [some (.ref a0), some (.int a1)], [], sl, h)) := C_rt _ _ _ _ _
theorem t206_45 (ls : XL) (sl : Nat) (h : List AC) (v : Int32) : rt 206 (some (45, ls, [.int v], sl, h)) = some ([.int v], sl, h) := rfl
theorem e207 (d sl : Nat) (h : List AC) (a0 : Nat) (a1 : Int32) : C d 207 [.ref a0, .int a1] sl h = rt 207 (R d 207 (0, [some (.ref a0), some (.int a1)], [], sl, h)) := C_rt _ _ _ _ _
theorem t207_20 (ls : XL) (sl : Nat) (h : List AC) (v : Int32) : rt 207 (some (20, ls, [.int v], sl, h)) = some ([.int v], sl, h) := rfl
theorem e208 (d sl : Nat) (h : List AC) (a0 : Nat) (a1 : Int32) (a2 : Int32) : C d 208 [.ref a0, .int a1, .int a2] sl h = rt 208 (R d 208 (0, [some (.ref a0), some (.int a1), some (.int a2)], [], sl, h)) := C_rt _ _ _ _ _
theorem t208_14 (ls : XL) (sl : Nat) (h : List AC) (v : Int32) : rt 208 (some (14, ls, [.int v], sl, h)) = some ([.int v], sl, h) := rfl
theorem t208_61 (ls : XL) (sl : Nat) (h : List AC) (v : Int32) : rt 208 (some (61, ls, [.int v], sl, h)) = some ([.int v], sl, h) := rfl
theorem t208_71 (ls : XL) (sl : Nat) (h : List AC) (v : Int32) : rt 208 (some (71, ls, [.int v], sl, h)) = some ([.int v], sl, h) := rfl
theorem t208_81 (ls : XL) (sl : Nat) (h : List AC) (v : Int32) : rt 208 (some (81, ls, [.int v], sl, h)) = some ([.int v], sl, h) := rfl
theorem t208_91 (ls : XL) (sl : Nat) (h : List AC) (v : Int32) : rt 208 (some (91, ls, [.int v], sl, h)) = some ([.int v], sl, h) := rfl
theorem t208_97 (ls : XL) (sl : Nat) (h : List AC) (v : Int32) : rt 208 (some (97, ls, [.int v], sl, h)) = some ([.int v], sl, h) := rfl
theorem t208_99 (ls : XL) (sl : Nat) (h : List AC) (v : Int32) : rt 208 (some (99, ls, [.int v], sl, h)) = some ([.int v], sl, h) := rfl
theorem e209 (d sl : Nat) (h : List AC) (a0 : Nat) (a1 : Int32) (a2 : Int32) : C d 209 [.ref a0, .int a1, .int a2] sl h = rt 209 (R d 209 (0, [some (.ref a0), some (.int a1), some (.int a2), none], [], sl, h)) := C_rt _ _ _ _ _
theorem t209_33 (ls : XL) (sl : Nat) (h : List AC) (v : Int32) : rt 209 (some (33, ls, [.int v], sl, h)) = some ([.int v], sl, h) := rfl
theorem t209_70 (ls : XL) (sl : Nat) (h : List AC) (v : Int32) : rt 209 (some (70, ls, [.int v], sl, h)) = some ([.int v], sl, h) := rfl
theorem t209_78 (ls : XL) (sl : Nat) (h : List AC) (v : Int32) : rt 209 (some (78, ls, [.int v], sl, h)) = some ([.int v], sl, h) := rfl
theorem e210 (d sl : Nat) (h : List AC) (a0 : Nat) (a1 : Int32) (a2 : Int32) : C d 210 [.ref a0, .int a1, .int a2] sl h = rt 210 (R d 210 (0, [some (.ref a0), some (.int a1), some (.int a2), none], [], sl, h)) := C_rt _ _ _ _ _
theorem t210_48 (ls : XL) (sl : Nat) (h : List AC) (b : Bool) : rt 210 (some (48, ls, [.int (x_b b)], sl, h)) = some ([.int (x_b b)], sl, h) := by cases b <;> rfl
theorem t210_48_0 (ls : XL) (sl : Nat) (h : List AC) : rt 210 (some (48, ls, [.int (nI 0)], sl, h)) = some ([.int (x_b false)], sl, h) := rfl
theorem t210_48_1 (ls : XL) (sl : Nat) (h : List AC) : rt 210 (some (48, ls, [.int (nI 1)], sl, h)) = some ([.int (x_b true)], sl, h) := rfl
theorem t210_56 (ls : XL) (sl : Nat) (h : List AC) (b : Bool) : rt 210 (some (56, ls, [.int (x_b b)], sl, h)) = some ([.int (x_b b)], sl, h) := by cases b <;> rfl
theorem t210_56_0 (ls : XL) (sl : Nat) (h : List AC) : rt 210 (some (56, ls, [.int (nI 0)], sl, h)) = some ([.int (x_b false)], sl, h) := rfl
theorem t210_56_1 (ls : XL) (sl : Nat) (h : List AC) : rt 210 (some (56, ls, [.int (nI 1)], sl, h)) = some ([.int (x_b true)], sl, h) := rfl
theorem e211 (d sl : Nat) (h : List AC) (a0 : Nat) (a1 : Int32) : C d 211 [.ref a0, .int a1] sl h = rt 211 (R d 211 (0, [some (.ref a0), some (.int a1), none, none, none], [], sl, h)) := C_rt _ _ _ _ _
theorem t211_121 (ls : XL) (sl : Nat) (h : List AC) : rt 211 (some (121, ls, [], sl, h)) = some ([], sl, h) := rfl
theorem e212 (d sl : Nat) (h : List AC) (a0 : Nat) (a1 : Int32) : C d 212 [.ref a0, .int a1] sl h = rt 212 (R d 212 (0, [some (.ref a0), some (.int a1)], [], sl, h)) := C_rt _ _ _ _ _
theorem t212_21 (ls : XL) (sl : Nat) (h : List AC) (b : Bool) : rt 212 (some (21, ls, [.int (x_b b)], sl, h)) = some ([.int (x_b b)], sl, h) := by cases b <;> rfl
theorem t212_21_0 (ls : XL) (sl : Nat) (h : List AC) : rt 212 (some (21, ls, [.int (nI 0)], sl, h)) = some ([.int (x_b false)], sl, h) := rfl
theorem t212_21_1 (ls : XL) (sl : Nat) (h : List AC) : rt 212 (some (21, ls, [.int (nI 1)], sl, h)) = some ([.int (x_b true)], sl, h) := rfl
theorem e213 (d sl : Nat) (h : List AC) (a0 : Nat) (a1 : Int32) : C d 213 [.ref a0, .int a1] sl h = rt 213 (R d 213 (0, [some (.ref a0), some (.int a1), none, none, none], [], sl, h)) := C_rt _ _ _ _ _
theorem t213_22 (ls : XL) (sl : Nat) (h : List AC) (v : Int32) : rt 213 (some (22, ls, [.int v], sl, h)) = some ([.int v], sl, h) := rfl
theorem t213_112 (ls : XL) (sl : Nat) (h : List AC) (v : Int32) : rt 213 (some (112, ls, [.int v], sl, h)) = some ([.int v], sl, h) := rfl
theorem e214 (d sl : Nat) (h : List AC) (a0 : Nat) (a1 : Int32) : C d 214 [.ref a0, .int a1] sl h = rt 214 (R d 214 (0, [some (.ref a0), some (.int a1)], [], sl, h)) := C_rt _ _ _ _ _
theorem t214_29 (ls : XL) (sl : Nat) (h : List AC) (v : Int32) : rt 214 (some (29, ls, [.int v], sl, h)) = some ([.int v], sl, h) := rfl
theorem e215 (d sl : Nat) (h : List AC) (a0 : Nat) (a1 : Int32) (a2 : Int32) : C d 215 [.ref a0, .int a1, .int a2] sl h = rt 215 (R d 215 (0, [some (.ref a0), some (.int a1), some (.int a2), none, none], [], sl, h)) := C_rt _ _ _ _ _
theorem t215_30 (ls : XL) (sl : Nat) (h : List AC) (v : Int32) : rt 215 (some (30, ls, [.int v], sl, h)) = some ([.int v], sl, h) := rfl
theorem e216 (d sl : Nat) (h : List AC) (a0 : Nat) (a1 : Int32) : C d 216 [.ref a0, .int a1] sl h = rt 216 (R d 216 (0, [some (.ref a0), some (.int a1), none, none], [], sl, h)) := C_rt _ _ _ _ _
theorem t216_59 (ls : XL) (sl : Nat) (h : List AC) (v : Int32) : rt 216 (some (59, ls, [.int v], sl, h)) = some ([.int v], sl, h) := rfl
theorem t216_68 (ls : XL) (sl : Nat) (h : List AC) (v : Int32) : rt 216 (some (68, ls, [.int v], sl, h)) = some ([.int v], sl, h) := rfl
theorem t216_77 (ls : XL) (sl : Nat) (h : List AC) (v : Int32) : rt 216 (some (77, ls, [.int v], sl, h)) = some ([.int v], sl, h) := rfl
theorem t216_112 (ls : XL) (sl : Nat) (h : List AC) (v : Int32) : rt 216 (some (112, ls, [.int v], sl, h)) = some ([.int v], sl, h) := rfl
theorem t216_120 (ls : XL) (sl : Nat) (h : List AC) (v : Int32) : rt 216 (some (120, ls, [.int v], sl, h)) = some ([.int v], sl, h) := rfl
theorem t216_154 (ls : XL) (sl : Nat) (h : List AC) (v : Int32) : rt 216 (some (154, ls, [.int v], sl, h)) = some ([.int v], sl, h) := rfl
theorem t216_188 (ls : XL) (sl : Nat) (h : List AC) (v : Int32) : rt 216 (some (188, ls, [.int v], sl, h)) = some ([.int v], sl, h) := rfl
theorem t216_190 (ls : XL) (sl : Nat) (h : List AC) (v : Int32) : rt 216 (some (190, ls, [.int v], sl, h)) = some ([.int v], sl, h) := rfl
theorem e217 (d sl : Nat) (h : List AC) (a0 : Nat) : C d 217 [.ref a0] sl h = rt 217 (R d 217 (0, [some (.ref a0), none], [], sl, h)) := C_rt _ _ _ _ _
theorem t217_96 (ls : XL) (sl : Nat) (h : List AC) : rt 217 (some (96, ls, [], sl, h)) = some ([], sl, h) := rfl
theorem e218 (d sl : Nat) (h : List AC) (a0 : Nat) (a1 : Int32) (a2 : Int32) : C d 218 [.ref a0, .int a1, .int a2] sl h = rt 218 (R d 218 (0, [some (.ref a0), some (.int a1), some (.int a2)], [], sl, h)) := C_rt _ _ _ _ _
theorem t218_9 (ls : XL) (sl : Nat) (h : List AC) (v : Int32) : rt 218 (some (9, ls, [.int v], sl, h)) = some ([.int v], sl, h) := rfl
theorem t218_70 (ls : XL) (sl : Nat) (h : List AC) (v : Int32) : rt 218 (some (70, ls, [.int v], sl, h)) = some ([.int v], sl, h) := rfl
theorem e219 (d sl : Nat) (h : List AC) (a0 : Nat) (a1 : Int32) (a2 : Int32) (a3 : Int32) (a4 : Int32) : C d 219 [.ref a0, .int a1, .int a2, .int a3, .int a4] sl h = rt 219 (R d 219 (0, [some (.ref a0), some (.int a1), some (.int a2), some (.int a3), some (.int a4)], [], sl, h)) := C_rt _ _ _ _ _
theorem t219_87 (ls : XL) (sl : Nat) (h : List AC) (v : Int32) : rt 219 (some (87, ls, [.int v], sl, h)) = some ([.int v], sl, h) := rfl
theorem t219_123 (ls : XL) (sl : Nat) (h : List AC) (v : Int32) : rt 219 (some (123, ls, [.int v], sl, h)) = some ([.int v], sl, h) := rfl
theorem t219_130 (ls : XL) (sl : Nat) (h : List AC) (v : Int32) : rt 219 (some (130, ls, [.int v], sl, h)) = some ([.int v], sl, h) := rfl
theorem t219_144 (ls : XL) (sl : Nat) (h : List AC) (v : Int32) : rt 219 (some (144, ls, [.int v], sl, h)) = some ([.int v], sl, h) := rfl
theorem t219_212 (ls : XL) (sl : Nat) (h : List AC) (v : Int32) : rt 219 (some (212, ls, [.int v], sl, h)) = some ([.int v], sl, h) := rfl
theorem e220 (d sl : Nat) (h : List AC) (a0 : Nat) (a1 : Int32) (a2 : Int32) (a3 : Int32) : C d 220 [.ref a0, .int a1, .int a2, .int a3] sl h = rt 220 (R d 220 (0, [some (.ref a0), some (.int a1), some (.int a2), some (.int a3)], [], sl, h)) := C_rt _ _ _ _ _
theorem t220_26 (ls : XL) (sl : Nat) (h : List AC) : rt 220 (some (26, ls, [], sl, h)) = some ([], sl, h) := rfl
theorem e221 (d sl : Nat) (h : List AC) (a0 : Nat) (a1 : Int32) (a2 : Int32) (a3 : Int32) (a4 : Int32) : C d 221 [.ref a0, .int a1, .int a2, .int a3, .int a4] sl h = rt 221 (R d 221 (0, [some (.ref a0), some (.int a1), some (.int a2), some (.int a3), some (.int a4), none], [], sl, h)) := C_rt _ _ _ _ _
theorem t221_79 (ls : XL) (sl : Nat) (h : List AC) : rt 221 (some (79, ls, [], sl, h)) = some ([], sl, h) := rfl
theorem t221_153 (ls : XL) (sl : Nat) (h : List AC) : rt 221 (some (153, ls, [], sl, h)) = some ([], sl, h) := rfl
theorem t221_187 (ls : XL) (sl : Nat) (h : List AC) : rt 221 (some (187, ls, [], sl, h)) = some ([], sl, h) := rfl
theorem t221_198 (ls : XL) (sl : Nat) (h : List AC) : rt 221 (some (198, ls, [], sl, h)) = some ([], sl, h) := rfl
theorem t221_250 (ls : XL) (sl : Nat) (h : List AC) : rt 221 (some (250, ls, [], sl, h)) = some ([], sl, h) := rfl
theorem e222 (d sl : Nat) (h : List AC) (a0 : Nat) (a1 : Int32) (a2 : Int32) (a3 : Int32) (a4 : Int32) (a5 : Int32) : C d 222 [.ref a0, .int a1, .int a2, .int a3, .int a4, .int a5] sl h = rt 222 (R d 222 (0, [some (.ref a0), some (.int a1), some (.int a2), some (.int a3), some (.int a4), some (.int a5), none], [], sl, h)) := C_rt _ _ _ _ _
theorem t222_6 (ls : XL) (sl : Nat) (h : List AC) (v : Int32) : rt 222 (some (6, ls, [.int v], sl, h)) = some ([.int v], sl, h) := rfl
theorem t222_25 (ls : XL) (sl : Nat) (h : List AC) (v : Int32) : rt 222 (some (25, ls, [.int v], sl, h)) = some ([.int v], sl, h) := rfl
theorem t222_40 (ls : XL) (sl : Nat) (h : List AC) (v : Int32) : rt 222 (some (40, ls, [.int v], sl, h)) = some ([.int v], sl, h) := rfl
theorem e223 (d sl : Nat) (h : List AC) (a0 : Nat) (a1 : Int32) (a2 : Int32) : C d 223 [.ref a0, .int a1, .int a2] sl h = rt 223 (R d 223 (0, [some (.ref a0), some (.int a1), some (.int a2)], [], sl, h)) := C_rt _ _ _ _ _
theorem t223_37 (ls : XL) (sl : Nat) (h : List AC) (v : Int32) : rt 223 (some (37, ls, [.int v], sl, h)) = some ([.int v], sl, h) := rfl
theorem e224 (d sl : Nat) (h : List AC) (a0 : Nat) (a1 : Int32) (a2 : Int32) (a3 : Int32) : C d 224 [.ref a0, .int a1, .int a2, .int a3] sl h = rt 224 (R d 224 (0, [some (.ref a0), some (.int a1), some (.int a2), some (.int a3)], [], sl, h)) := C_rt _ _ _ _ _
theorem t224_50 (ls : XL) (sl : Nat) (h : List AC) (v : Int32) : rt 224 (some (50, ls, [.int v], sl, h)) = some ([.int v], sl, h) := rfl
theorem e225 (d sl : Nat) (h : List AC) (a0 : Nat) (a1 : Int32) (a2 : Int32) : C d 225 [.ref a0, .int a1, .int a2] sl h = rt 225 (R d 225 (0, [some (.ref a0), some (.int a1), some (.int a2)], [], sl, h)) := C_rt _ _ _ _ _
theorem t225_34 (ls : XL) (sl : Nat) (h : List AC) (v : Int32) : rt 225 (some (34, ls, [.int v], sl, h)) = some ([.int v], sl, h) := rfl
theorem e226 (d sl : Nat) (h : List AC) (a0 : Nat) (a1 : Int32) : C d 226 [.ref a0, .int a1] sl h = rt 226 (R d 226 (0, [some (.ref a0), some (.int a1)], [], sl, h)) := C_rt _ _ _ _ _
theorem t226_18 (ls : XL) (sl : Nat) (h : List AC) (v : Int32) : rt 226 (some (18, ls, [.int v], sl, h)) = some ([.int v], sl, h) := rfl
theorem e227 (d sl : Nat) (h : List AC) (a0 : Nat) (a1 : Int32) (a2 : Int32) : C d 227 [.ref a0, .int a1, .int a2] sl h = rt 227 (R d 227 (0, [some (.ref a0), some (.int a1), some (.int a2)], [], sl, h)) := C_rt _ _ _ _ _
theorem t227_34 (ls : XL) (sl : Nat) (h : List AC) (v : Int32) : rt 227 (some (34, ls, [.int v], sl, h)) = some ([.int v], sl, h) := rfl
theorem e228 (d sl : Nat) (h : List AC) (a0 : Nat) : C d 228 [.ref a0] sl h = rt 228 (R d 228 (0, [some (.ref a0), none], [], sl, h)) := C_rt _ _ _ _ _
theorem t228_13 (ls : XL) (sl : Nat) (h : List AC) (v : Int32) : rt 228 (some (13, ls, [.int v], sl, h)) = some ([.int v], sl, h) := rfl
theorem t228_65 (ls : XL) (sl : Nat) (h : List AC) (v : Int32) : rt 228 (some (65, ls, [.int v], sl, h)) = some ([.int v], sl, h) := rfl
theorem e229 (d sl : Nat) (h : List AC) (a0 : Nat) : C d 229 [.ref a0] sl h = rt 229 (R d 229 (0, [some (.ref a0), none, none], [], sl, h)) := C_rt _ _ _ _ _
theorem t229_188 (ls : XL) (sl : Nat) (h : List AC) : rt 229 (some (188, ls, [], sl, h)) = some ([], sl, h) := rfl
theorem e230 (d sl : Nat) (h : List AC) (a0 : Nat) (a1 : Int32) : C d 230 [.ref a0, .int a1] sl h = rt 230 (R d 230 (0, [some (.ref a0), some (.int a1), none, none], [], sl, h)) := C_rt _ _ _ _ _
theorem t230_34 (ls : XL) (sl : Nat) (h : List AC) (v : Int32) : rt 230 (some (34, ls, [.int v], sl, h)) = some ([.int v], sl, h) := rfl
theorem e231 (d sl : Nat) (h : List AC) (a0 : Nat) (a1 : Int32) : C d 231 [.ref a0, .int a1] sl h = rt 231 (R d 231 (0, [some (.ref a0), some (.int a1)], [], sl, h)) := C_rt _ _ _ _ _
theorem t231_16 (ls : XL) (sl : Nat) (h : List AC) (v : Int32) : rt 231 (some (16, ls, [.int v], sl, h)) = some ([.int v], sl, h) := rfl
theorem t231_31 (ls : XL) (sl : Nat) (h : List AC) (v : Int32) : rt 231 (some (31, ls, [.int v], sl, h)) = some ([.int v], sl, h) := rfl
theorem t231_41 (ls : XL) (sl : Nat) (h : List AC) (v : Int32) : rt 231 (some (41, ls, [.int v], sl, h)) = some ([.int v], sl, h) := rfl
theorem e232 (d sl : Nat) (h : List AC) (a0 : Nat) (a1 : Int32) : C d 232 [.ref a0, .int a1] sl h = rt 232 (R d 232 (0, [some (.ref a0), some (.int a1)], [], sl, h)) := C_rt _ _ _ _ _
theorem t232_34 (ls : XL) (sl : Nat) (h : List AC) (v : Int32) : rt 232 (some (34, ls, [.int v], sl, h)) = some ([.int v], sl, h) := rfl
theorem e233 (d sl : Nat) (h : List AC) (a0 : Nat) (a1 : Int32) : C d 233 [.ref a0, .int a1] sl h = rt 233 (R d 233 (0, [some (.ref a0), some (.int a1), none, none, none, none], [], sl, h)) := C_rt _ _ _ _ _
theorem t233_14 (ls : XL) (sl : Nat) (h : List AC) (v : Int32) : rt 233 (some (14, ls, [.int v], sl, h)) = some ([.int v], sl, h) := rfl
theorem t233_116 (ls : XL) (sl : Nat) (h : List AC) (v : Int32) : rt 233 (some (116, ls, [.int v], sl, h)) = some ([.int v], sl, h) := rfl
theorem e234 (d sl : Nat) (h : List AC) (a0 : Nat) : C d 234 [.ref a0] sl h = rt 234 (R d 234 (0, [some (.ref a0)], [], sl, h)) := C_rt _ _ _ _ _
theorem t234_9 (ls : XL) (sl : Nat) (h : List AC) (v : Int32) : rt 234 (some (9, ls, [.int v], sl, h)) = some ([.int v], sl, h) := rfl
theorem e235 (d sl : Nat) (h : List AC) (a0 : Nat) : C d 235 [.ref a0] sl h = rt 235 (R d 235 (0, [some (.ref a0), none], [], sl, h)) := C_rt _ _ _ _ _
theorem t235_29 (ls : XL) (sl : Nat) (h : List AC) : rt 235 (some (29, ls, [], sl, h)) = some ([], sl, h) := rfl
theorem e236 (d sl : Nat) (h : List AC) (a0 : Nat) : C d 236 [.ref a0] sl h = rt 236 (R d 236 (0, [some (.ref a0), none], [], sl, h)) := C_rt _ _ _ _ _
theorem t236_29 (ls : XL) (sl : Nat) (h : List AC) : rt 236 (some (29, ls, [], sl, h)) = some ([], sl, h) := rfl
theorem e237 (d sl : Nat) (h : List AC) (a0 : Nat) (a1 : Int32) : C d 237 [.ref a0, .int a1] sl h = rt 237 (R d 237 (0, [some (.ref a0), some (.int a1), none], [], sl, h)) := C_rt _ _ _ _ _
theorem t237_14 (ls : XL) (sl : Nat) (h : List AC) (v : Int32) : rt 237 (some (14, ls, [.int v], sl, h)) = some ([.int v], sl, h) := rfl
theorem t237_60 (ls : XL) (sl : Nat) (h : List AC) (v : Int32) : rt 237 (some (60, ls, [.int v], sl, h)) = some ([.int v], sl, h) := rfl
theorem e238 (d sl : Nat) (h : List AC) (a0 : Nat) : C d 238 [.ref a0] sl h = rt 238 (R d 238 (0, [some (.ref a0), none, none, none, none], [], sl, h)) := C_rt _ _ _ _ _
theorem t238_213 (ls : XL) (sl : Nat) (h : List AC) (v : Int32) : rt 238 (some (213, ls, [.int v], sl, h)) = some ([.int v], sl, h) := rfl
theorem e239 (d sl : Nat) (h : List AC) (a0 : Nat) (a1 : Int32) (a2 : Int32) : C d 239 [.ref a0, .int a1, .int a2] sl h = rt 239 (R d 239 (0, [some (.ref a0), some (.int a1), some (.int a2)], [], sl, h)) := C_rt _ _ _ _ _
theorem t239_41 (ls : XL) (sl : Nat) (h : List AC) (v : Int32) : rt 239 (some (41, ls, [.int v], sl, h)) = some ([.int v], sl, h) := rfl
theorem t239_51 (ls : XL) (sl : Nat) (h : List AC) (v : Int32) : rt 239 (some (51, ls, [.int v], sl, h)) = some ([.int v], sl, h) := rfl
theorem t239_61 (ls : XL) (sl : Nat) (h : List AC) (v : Int32) : rt 239 (some (61, ls, [.int v], sl, h)) = some ([.int v], sl, h) := rfl
theorem t239_71 (ls : XL) (sl : Nat) (h : List AC) (v : Int32) : rt 239 (some (71, ls, [.int v], sl, h)) = some ([.int v], sl, h) := rfl
theorem t239_77 (ls : XL) (sl : Nat) (h : List AC) (v : Int32) : rt 239 (some (77, ls, [.int v], sl, h)) = some ([.int v], sl, h) := rfl
theorem e240 (d sl : Nat) (h : List AC) (a0 : Nat) (a1 : Int32) (a2 : Int32) : C d 240 [.ref a0, .int a1, .int a2] sl h = rt 240 (R d 240 (0, [some (.ref a0), some (.int a1), some (.int a2), none, none, none, none], [], sl, h)) := C_rt _ _ _ _ _
theorem t240_98 (ls : XL) (sl : Nat) (h : List AC) (v : Int32) : rt 240 (some (98, ls, [.int v], sl, h)) = some ([.int v], sl, h) := rfl
theorem e241 (d sl : Nat) (h : List AC) (a0 : Nat) : C d 241 [.ref a0] sl h = rt 241 (R d 241 (0, [some (.ref a0), none, none, none, none, none], [], sl, h)) := C_rt _ _ _ _ _
theorem t241_29 (ls : XL) (sl : Nat) (h : List AC) (v : Int32) : rt 241 (some (29, ls, [.int v], sl, h)) = some ([.int v], sl, h) := rfl
theorem t241_48 (ls : XL) (sl : Nat) (h : List AC) (v : Int32) : rt 241 (some (48, ls, [.int v], sl, h)) = some ([.int v], sl, h) := rfl
theorem t241_150 (ls : XL) (sl : Nat) (h : List AC) (v : Int32) : rt 241 (some (150, ls, [.int v], sl, h)) = some ([.int v], sl, h) := rfl
theorem t241_193 (ls : XL) (sl : Nat) (h : List AC) (v : Int32) : rt 241 (some (193, ls, [.int v], sl, h)) = some ([.int v], sl, h) := rfl
theorem e242 (d sl : Nat) (h : List AC) (a0 : Nat) : C d 242 [.ref a0] sl h = rt 242 (R d 242 (0, [some (.ref a0)], [], sl, h)) := C_rt _ _ _ _ _
theorem t242_9 (ls : XL) (sl : Nat) (h : List AC) (v : Int32) : rt 242 (some (9, ls, [.int v], sl, h)) = some ([.int v], sl, h) := rfl
theorem e243 (d sl : Nat) (h : List AC) (a0 : Nat) : C d 243 [.ref a0] sl h = rt 243 (R d 243 (0, [some (.ref a0), none, none], [], sl, h)) := C_rt _ _ _ _ _
theorem t243_72 (ls : XL) (sl : Nat) (h : List AC) (v : Int32) : rt 243 (some (72, ls, [.int v], sl, h)) = some ([.int v], sl, h) := rfl
theorem e244 (d sl : Nat) (h : List AC) (a0 : Nat) (a1 : Int32) (a2 : Int32) : C d 244 [.ref a0, .int a1, .int a2] sl h = rt 244 (R d 244 (0, [some (.ref a0), some (.int a1), some (.int a2), none, none], [], sl, h)) := C_rt _ _ _ _ _
theorem t244_34 (ls : XL) (sl : Nat) (h : List AC) (v : Int32) : rt 244 (some (34, ls, [.int v], sl, h)) = some ([.int v], sl, h) := rfl
theorem t244_106 (ls : XL) (sl : Nat) (h : List AC) (v : Int32) : rt 244 (some (106, ls, [.int v], sl, h)) = some ([.int v], sl, h) := rfl
theorem e245 (d sl : Nat) (h : List AC) (a0 : Nat) (a1 : Int32) : C d 245 [.ref a0, .int a1] sl h = rt 245 (R d 245 (0, [some (.ref a0), some (.int a1)], [], sl, h)) := C_rt _ _ _ _ _
theorem t245_20 (ls : XL) (sl : Nat) (h : List AC) : rt 245 (some (20, ls, [], sl, h)) = some ([], sl, h) := rfl
theorem e246 (d sl : Nat) (h : List AC) (a0 : Nat) (a1 : Int64) : C d 246 [.ref a0, .long a1] sl h = rt 246 (R d 246 (0, [some (.ref a0), some (.long a1), none], [], sl, h)) := C_rt _ _ _ _ _
theorem t246_30 (ls : XL) (sl : Nat) (h : List AC) : rt 246 (some (30, ls, [], sl, h)) = some ([], sl, h) := rfl
theorem e247 (d sl : Nat) (h : List AC) (a0 : Nat) (a1 : Int32) : C d 247 [.ref a0, .int a1] sl h = rt 247 (R d 247 (0, [some (.ref a0), some (.int a1)], [], sl, h)) := C_rt _ _ _ _ _
theorem t247_25 (ls : XL) (sl : Nat) (h : List AC) : rt 247 (some (25, ls, [], sl, h)) = some ([], sl, h) := rfl
theorem e248 (d sl : Nat) (h : List AC) (a0 : Nat) (a1 : Int64) : C d 248 [.ref a0, .long a1] sl h = rt 248 (R d 248 (0, [some (.ref a0), some (.long a1), none], [], sl, h)) := C_rt _ _ _ _ _
theorem t248_11 (ls : XL) (sl : Nat) (h : List AC) : rt 248 (some (11, ls, [], sl, h)) = some ([], sl, h) := rfl
theorem e249 (d sl : Nat) (h : List AC) (a0 : Nat) (a1 : Int32) : C d 249 [.ref a0, .int a1] sl h = rt 249 (R d 249 (0, [some (.ref a0), some (.int a1)], [], sl, h)) := C_rt _ _ _ _ _
theorem t249_11 (ls : XL) (sl : Nat) (h : List AC) : rt 249 (some (11, ls, [], sl, h)) = some ([], sl, h) := rfl
theorem e250 (d sl : Nat) (h : List AC) (a0 : Nat) (a1 : Int32) : C d 250 [.ref a0, .int a1] sl h = rt 250 (R d 250 (0, [some (.ref a0), some (.int a1)], [], sl, h)) := C_rt _ _ _ _ _
theorem t250_14 (ls : XL) (sl : Nat) (h : List AC) (v : Int32) : rt 250 (some (14, ls, [.int v], sl, h)) = some ([.int v], sl, h) := rfl
theorem t250_95 (ls : XL) (sl : Nat) (h : List AC) (v : Int32) : rt 250 (some (95, ls, [.int v], sl, h)) = some ([.int v], sl, h) := rfl
theorem t250_142 (ls : XL) (sl : Nat) (h : List AC) (v : Int32) : rt 250 (some (142, ls, [.int v], sl, h)) = some ([.int v], sl, h) := rfl
theorem e251 (d sl : Nat) (h : List AC) (a0 : Nat) (a1 : Int32) : C d 251 [.ref a0, .int a1] sl h = rt 251 (R d 251 (0, [some (.ref a0), some (.int a1)], [], sl, h)) := C_rt _ _ _ _ _
theorem t251_29 (ls : XL) (sl : Nat) (h : List AC) (v : Int32) : rt 251 (some (29, ls, [.int v], sl, h)) = some ([.int v], sl, h) := rfl
theorem e252 (d sl : Nat) (h : List AC) (a0 : Nat) (a1 : Int32) : C d 252 [.ref a0, .int a1] sl h = rt 252 (R d 252 (0, [some (.ref a0), some (.int a1)], [], sl, h)) := C_rt _ _ _ _ _
theorem t252_25 (ls : XL) (sl : Nat) (h : List AC) (v : Int32) : rt 252 (some (25, ls, [.int v], sl, h)) = some ([.int v], sl, h) := rfl
theorem e253 (d sl : Nat) (h : List AC) (a0 : Nat) (a1 : Int32) (a2 : Int32) (a3 : Int32) (a4 : Int32) : C d 253 [.ref a0, .int a1, .int a2, .int a3, .int a4] sl h = rt 253 (R d 253 (0, [some (.ref a0), some (.int a1), some (.int a2), some (.int a3), some (.int a4)], [], sl, h)) := C_rt _ _ _ _ _
theorem t253_21 (ls : XL) (sl : Nat) (h : List AC) : rt 253 (some (21, ls, [], sl, h)) = some ([], sl, h) := rfl
theorem e254 (d sl : Nat) (h : List AC) (a0 : Nat) (a1 : Int32) : C d 254 [.ref a0, .int a1] sl h = rt 254 (R d 254 (0, [some (.ref a0), some (.int a1), none, none, none], [], sl, h)) := C_rt _ _ _ _ _
theorem t254_65 (ls : XL) (sl : Nat) (h : List AC) : rt 254 (some (65, ls, [], sl, h)) = some ([], sl, h) := rfl
theorem t254_109 (ls : XL) (sl : Nat) (h : List AC) : rt 254 (some (109, ls, [], sl, h)) = some ([], sl, h) := rfl
theorem e255 (d sl : Nat) (h : List AC) (a0 : Nat) (a1 : Int32) (a2 : Int32) : C d 255 [.ref a0, .int a1, .int a2] sl h = rt 255 (R d 255 (0, [some (.ref a0), some (.int a1), some (.int a2), none, none, none], [], sl, h)) := C_rt _ _ _ _ _
theorem t255_67 (ls : XL) (sl : Nat) (h : List AC) (v : Int32) : rt 255 (some (67, ls, [.int v], sl, h)) = some ([.int v], sl, h) := rfl
theorem e256 (d sl : Nat) (h : List AC) (a0 : Nat) (a1 : Int32) (a2 : Int32) : C d 256 [.ref a0, .int a1, .int a2] sl h = rt 256 (R d 256 (0, [some (.ref a0), some (.int a1), some (.int a2)], [], sl, h)) := C_rt _ _ _ _ _
theorem t256_16 (ls : XL) (sl : Nat) (h : List AC) (v : Int32) : rt 256 (some (16, ls, [.int v], sl, h)) = some ([.int v], sl, h) := rfl
theorem t256_31 (ls : XL) (sl : Nat) (h : List AC) (v : Int32) : rt 256 (some (31, ls, [.int v], sl, h)) = some ([.int v], sl, h) := rfl
theorem t256_42 (ls : XL) (sl : Nat) (h : List AC) (v : Int32) : rt 256 (some (42, ls, [.int v], sl, h)) = some ([.int v], sl, h) := rfl
theorem e257 (d sl : Nat) (h : List AC) (a0 : Nat) (a1 : Int32) (a2 : Int32) (a3 : Int32) : C d 257 [.ref a0, .int a1, .int a2, .int a3] sl h = rt 257 (R d 257 (0, [some (.ref a0), some (.int a1), some (.int a2), some (.int a3), none, none], [], sl, h)) := C_rt _ _ _ _ _
theorem t257_24 (ls : XL) (sl : Nat) (h : List AC) (v : Int32) : rt 257 (some (24, ls, [.int v], sl, h)) = some ([.int v], sl, h) := rfl
theorem t257_75 (ls : XL) (sl : Nat) (h : List AC) (v : Int32) : rt 257 (some (75, ls, [.int v], sl, h)) = some ([.int v], sl, h) := rfl
theorem e258 (d sl : Nat) (h : List AC) (a0 : Nat) (a1 : Int32) (a2 : Int32) : C d 258 [.ref a0, .int a1, .int a2] sl h = rt 258 (R d 258 (0, [some (.ref a0), some (.int a1), some (.int a2)], [], sl, h)) := C_rt _ _ _ _ _
theorem t258_15 (ls : XL) (sl : Nat) (h : List AC) (b : Bool) : rt 258 (some (15, ls, [.int (x_b b)], sl, h)) = some ([.int (x_b b)], sl, h) := by cases b <;> rfl
theorem t258_15_0 (ls : XL) (sl : Nat) (h : List AC) : rt 258 (some (15, ls, [.int (nI 0)], sl, h)) = some ([.int (x_b false)], sl, h) := rfl
theorem t258_15_1 (ls : XL) (sl : Nat) (h : List AC) : rt 258 (some (15, ls, [.int (nI 1)], sl, h)) = some ([.int (x_b true)], sl, h) := rfl
theorem e259 (d sl : Nat) (h : List AC) (a0 : Nat) : C d 259 [.ref a0] sl h = rt 259 (R d 259 (0, [some (.ref a0)], [], sl, h)) := C_rt _ _ _ _ _
theorem t259_7 (ls : XL) (sl : Nat) (h : List AC) (b : Bool) : rt 259 (some (7, ls, [.int (x_b b)], sl, h)) = some ([.int (x_b b)], sl, h) := by cases b <;> rfl
theorem t259_7_0 (ls : XL) (sl : Nat) (h : List AC) : rt 259 (some (7, ls, [.int (nI 0)], sl, h)) = some ([.int (x_b false)], sl, h) := rfl
theorem t259_7_1 (ls : XL) (sl : Nat) (h : List AC) : rt 259 (some (7, ls, [.int (nI 1)], sl, h)) = some ([.int (x_b true)], sl, h) := rfl
theorem e260 (d sl : Nat) (h : List AC) (a0 : Nat) : C d 260 [.ref a0] sl h = rt 260 (R d 260 (0, [some (.ref a0)], [], sl, h)) := C_rt _ _ _ _ _
theorem t260_15 (ls : XL) (sl : Nat) (h : List AC) (b : Bool) : rt 260 (some (15, ls, [.int (x_b b)], sl, h)) = some ([.int (x_b b)], sl, h) := by cases b <;> rfl
theorem t260_15_0 (ls : XL) (sl : Nat) (h : List AC) : rt 260 (some (15, ls, [.int (nI 0)], sl, h)) = some ([.int (x_b false)], sl, h) := rfl
theorem t260_15_1 (ls : XL) (sl : Nat) (h : List AC) : rt 260 (some (15, ls, [.int (nI 1)], sl, h)) = some ([.int (x_b true)], sl, h) := rfl
theorem e261 (d sl : Nat) (h : List AC) (a0 : Nat) (a1 : Int32) : C d 261 [.ref a0, .int a1] sl h = rt 261 (R d 261 (0, [some (.ref a0), some (.int a1)], [], sl, h)) := C_rt _ _ _ _ _
theorem t261_13 (ls : XL) (sl : Nat) (h : List AC) (b : Bool) : rt 261 (some (13, ls, [.int (x_b b)], sl, h)) = some ([.int (x_b b)], sl, h) := by cases b <;> rfl
theorem t261_13_0 (ls : XL) (sl : Nat) (h : List AC) : rt 261 (some (13, ls, [.int (nI 0)], sl, h)) = some ([.int (x_b false)], sl, h) := rfl
theorem t261_13_1 (ls : XL) (sl : Nat) (h : List AC) : rt 261 (some (13, ls, [.int (nI 1)], sl, h)) = some ([.int (x_b true)], sl, h) := rfl
theorem t261_73 (ls : XL) (sl : Nat) (h : List AC) (b : Bool) : rt 261 (some (73, ls, [.int (x_b b)], sl, h)) = some ([.int (x_b b)], sl, h) := by cases b <;> rfl
theorem t261_73_0 (ls : XL) (sl : Nat) (h : List AC) : rt 261 (some (73, ls, [.int (nI 0)], sl, h)) = some ([.int (x_b false)], sl, h) := rfl
theorem t261_73_1 (ls : XL) (sl : Nat) (h : List AC) : rt 261 (some (73, ls, [.int (nI 1)], sl, h)) = some ([.int (x_b true)], sl, h) := rfl
theorem e262 (d sl : Nat) (h : List AC) (a0 : Nat) : C d 262 [.ref a0] sl h = rt 262 (R d 262 (0, [some (.ref a0), none], [], sl, h)) := C_rt _ _ _ _ _
theorem t262_10 (ls : XL) (sl : Nat) (h : List AC) (v : Int32) : rt 262 (some (10, ls, [.int v], sl, h)) = some ([.int v], sl, h) := rfl
theorem t262_20 (ls : XL) (sl : Nat) (h : List AC) (v : Int32) : rt 262 (some (20, ls, [.int v], sl, h)) = some ([.int v], sl, h) := rfl
theorem t262_41 (ls : XL) (sl : Nat) (h : List AC) (v : Int32) : rt 262 (some (41, ls, [.int v], sl, h)) = some ([.int v], sl, h) := rfl
theorem t262_49 (ls : XL) (sl : Nat) (h : List AC) (v : Int32) : rt 262 (some (49, ls, [.int v], sl, h)) = some ([.int v], sl, h) := rfl
theorem e263 (d sl : Nat) (h : List AC) (a0 : Nat) : C d 263 [.ref a0] sl h = rt 263 (R d 263 (0, [some (.ref a0), none, none], [], sl, h)) := C_rt _ _ _ _ _
theorem t263_22 (ls : XL) (sl : Nat) (h : List AC) (b : Bool) : rt 263 (some (22, ls, [.int (x_b b)], sl, h)) = some ([.int (x_b b)], sl, h) := by cases b <;> rfl
theorem t263_22_0 (ls : XL) (sl : Nat) (h : List AC) : rt 263 (some (22, ls, [.int (nI 0)], sl, h)) = some ([.int (x_b false)], sl, h) := rfl
theorem t263_22_1 (ls : XL) (sl : Nat) (h : List AC) : rt 263 (some (22, ls, [.int (nI 1)], sl, h)) = some ([.int (x_b true)], sl, h) := rfl
theorem t263_49 (ls : XL) (sl : Nat) (h : List AC) (b : Bool) : rt 263 (some (49, ls, [.int (x_b b)], sl, h)) = some ([.int (x_b b)], sl, h) := by cases b <;> rfl
theorem t263_49_0 (ls : XL) (sl : Nat) (h : List AC) : rt 263 (some (49, ls, [.int (nI 0)], sl, h)) = some ([.int (x_b false)], sl, h) := rfl
theorem t263_49_1 (ls : XL) (sl : Nat) (h : List AC) : rt 263 (some (49, ls, [.int (nI 1)], sl, h)) = some ([.int (x_b true)], sl, h) := rfl
theorem t263_64 (ls : XL) (sl : Nat) (h : List AC) (b : Bool) : rt 263 (some (64, ls, [.int (x_b b)], sl, h)) = some ([.int (x_b b)], sl, h) := by cases b <;> rfl
theorem t263_64_0 (ls : XL) (sl : Nat) (h : List AC) : rt 263 (some (64, ls, [.int (nI 0)], sl, h)) = some ([.int (x_b false)], sl, h) := rfl
theorem t263_64_1 (ls : XL) (sl : Nat) (h : List AC) : rt 263 (some (64, ls, [.int (nI 1)], sl, h)) = some ([.int (x_b true)], sl, h) := rfl
theorem t263_216 (ls : XL) (sl : Nat) (h : List AC) (b : Bool) : rt 263 (some (216, ls, [.int (x_b b)], sl, h)) = some ([.int (x_b b)], sl, h) := by cases b <;> rfl
theorem t263_216_0 (ls : XL) (sl : Nat) (h : List AC) : rt 263 (some (216, ls, [.int (nI 0)], sl, h)) = some ([.int (x_b false)], sl, h) := rfl
theorem t263_216_1 (ls : XL) (sl : Nat) (h : List AC) : rt 263 (some (216, ls, [.int (nI 1)], sl, h)) = some ([.int (x_b true)], sl, h) := rfl
theorem t263_237 (ls : XL) (sl : Nat) (h : List AC) (b : Bool) : rt 263 (some (237, ls, [.int (x_b b)], sl, h)) = some ([.int (x_b b)], sl, h) := by cases b <;> rfl
theorem t263_237_0 (ls : XL) (sl : Nat) (h : List AC) : rt 263 (some (237, ls, [.int (nI 0)], sl, h)) = some ([.int (x_b false)], sl, h) := rfl
theorem t263_237_1 (ls : XL) (sl : Nat) (h : List AC) : rt 263 (some (237, ls, [.int (nI 1)], sl, h)) = some ([.int (x_b true)], sl, h) := rfl
theorem t263_278 (ls : XL) (sl : Nat) (h : List AC) (b : Bool) : rt 263 (some (278, ls, [.int (x_b b)], sl, h)) = some ([.int (x_b b)], sl, h) := by cases b <;> rfl
theorem t263_278_0 (ls : XL) (sl : Nat) (h : List AC) : rt 263 (some (278, ls, [.int (nI 0)], sl, h)) = some ([.int (x_b false)], sl, h) := rfl
theorem t263_278_1 (ls : XL) (sl : Nat) (h : List AC) : rt 263 (some (278, ls, [.int (nI 1)], sl, h)) = some ([.int (x_b true)], sl, h) := rfl
theorem t263_305 (ls : XL) (sl : Nat) (h : List AC) (b : Bool) : rt 263 (some (305, ls, [.int (x_b b)], sl, h)) = some ([.int (x_b b)], sl, h) := by cases b <;> rfl
theorem t263_305_0 (ls : XL) (sl : Nat) (h : List AC) : rt 263 (some (305, ls, [.int (nI 0)], sl, h)) = some ([.int (x_b false)], sl, h) := rfl
theorem t263_305_1 (ls : XL) (sl : Nat) (h : List AC) : rt 263 (some (305, ls, [.int (nI 1)], sl, h)) = some ([.int (x_b true)], sl, h) := rfl
theorem t263_346 (ls : XL) (sl : Nat) (h : List AC) (b : Bool) : rt 263 (some (346, ls, [.int (x_b b)], sl, h)) = some ([.int (x_b b)], sl, h) := by cases b <;> rfl
theorem t263_346_0 (ls : XL) (sl : Nat) (h : List AC) : rt 263 (some (346, ls, [.int (nI 0)], sl, h)) = some ([.int (x_b false)], sl, h) := rfl
theorem t263_346_1 (ls : XL) (sl : Nat) (h : List AC) : rt 263 (some (346, ls, [.int (nI 1)], sl, h)) = some ([.int (x_b true)], sl, h) := rfl
theorem t263_376 (ls : XL) (sl : Nat) (h : List AC) (b : Bool) : rt 263 (some (376, ls, [.int (x_b b)], sl, h)) = some ([.int (x_b b)], sl, h) := by cases b <;> rfl
theorem t263_376_0 (ls : XL) (sl : Nat) (h : List AC) : rt 263 (some (376, ls, [.int (nI 0)], sl, h)) = some ([.int (x_b false)], sl, h) := rfl
theorem t263_376_1 (ls : XL) (sl : Nat) (h : List AC) : rt 263 (some (376, ls, [.int (nI 1)], sl, h)) = some ([.int (x_b true)], sl, h) := rfl
theorem e264 (d sl : Nat) (h : List AC) (a0 : Nat) (a1 : Int32) : C d 264 [.ref a0, .int a1] sl h = rt 264 (R d 264 (0, [some (.ref a0), some (.int a1), none, none, none, none], [], sl, h)) := C_rt _ _ _ _ _
theorem t264_48 (ls : XL) (sl : Nat) (h : List AC) (v : Int32) : rt 264 (some (48, ls, [.int v], sl, h)) = some ([.int v], sl, h) := rfl
theorem t264_56 (ls : XL) (sl : Nat) (h : List AC) (v : Int32) : rt 264 (some (56, ls, [.int v], sl, h)) = some ([.int v], sl, h) := rfl
theorem t264_91 (ls : XL) (sl : Nat) (h : List AC) (v : Int32) : rt 264 (some (91, ls, [.int v], sl, h)) = some ([.int v], sl, h) := rfl
theorem t264_122 (ls : XL) (sl : Nat) (h : List AC) (v : Int32) : rt 264 (some (122, ls, [.int v], sl, h)) = some ([.int v], sl, h) := rfl
theorem t264_140 (ls : XL) (sl : Nat) (h : List AC) (v : Int32) : rt 264 (some (140, ls, [.int v], sl, h)) = some ([.int v], sl, h) := rfl
theorem e265 (d sl : Nat) (h : List AC) (a0 : Nat) (a1 : Int32) : C d 265 [.ref a0, .int a1] sl h = rt 265 (R d 265 (0, [some (.ref a0), some (.int a1), none, none], [], sl, h)) := C_rt _ _ _ _ _
theorem t265_17 (ls : XL) (sl : Nat) (h : List AC) (v : Int32) : rt 265 (some (17, ls, [.int v], sl, h)) = some ([.int v], sl, h) := rfl
theorem t265_51 (ls : XL) (sl : Nat) (h : List AC) (v : Int32) : rt 265 (some (51, ls, [.int v], sl, h)) = some ([.int v], sl, h) := rfl
theorem t265_176 (ls : XL) (sl : Nat) (h : List AC) (v : Int32) : rt 265 (some (176, ls, [.int v], sl, h)) = some ([.int v], sl, h) := rfl
theorem e266 (d sl : Nat) (h : List AC) (a0 : Nat) (a1 : Int32) : C d 266 [.ref a0, .int a1] sl h = rt 266 (R d 266 (0, [some (.ref a0), some (.int a1), none, none], [], sl, h)) := C_rt _ _ _ _ _
theorem t266_50 (ls : XL) (sl : Nat) (h : List AC) : rt 266 (some (50, ls, [], sl, h)) = some ([], sl, h) := rfl
theorem t266_59 (ls : XL) (sl : Nat) (h : List AC) : rt 266 (some (59, ls, [], sl, h)) = some ([], sl, h) := rfl
theorem e267 (d sl : Nat) (h : List AC) (a0 : Nat) (a1 : Int32) : C d 267 [.ref a0, .int a1] sl h = rt 267 (R d 267 (0, [some (.ref a0), some (.int a1)], [], sl, h)) := C_rt _ _ _ _ _
theorem t267_31 (ls : XL) (sl : Nat) (h : List AC) (v : Int32) : rt 267 (some (31, ls, [.int v], sl, h)) = some ([.int v], sl, h) := rfl
theorem e268 (d sl : Nat) (h : List AC) (a0 : Nat) (a1 : Int32) (a2 : Int32) (a3 : Int32) (a4 : Int32) : C d 268 [.ref a0, .int a1, .int a2, .int a3, .int a4] sl h = rt 268 (R d 268 (0, [some (.ref a0), some (.int a1), some (.int a2), some (.int a3), some (.int a4), none], [], sl, h)) := C_rt _ _ _ _ _
theorem t268_63 (ls : XL) (sl : Nat) (h : List AC) (v : Int32) : rt 268 (some (63, ls, [.int v], sl, h)) = some ([.int v], sl, h) := rfl
theorem e269 (d sl : Nat) (h : List AC) (a0 : Nat) : C d 269 [.ref a0] sl h = rt 269 (R d 269 (0, [some (.ref a0), none], [], sl, h)) := C_rt _ _ _ _ _
theorem t269_8 (ls : XL) (sl : Nat) (h : List AC) (b : Bool) : rt 269 (some (8, ls, [.int (x_b b)], sl, h)) = some ([.int (x_b b)], sl, h) := by cases b <;> rfl
theorem t269_8_0 (ls : XL) (sl : Nat) (h : List AC) : rt 269 (some (8, ls, [.int (nI 0)], sl, h)) = some ([.int (x_b false)], sl, h) := rfl
theorem t269_8_1 (ls : XL) (sl : Nat) (h : List AC) : rt 269 (some (8, ls, [.int (nI 1)], sl, h)) = some ([.int (x_b true)], sl, h) := rfl
theorem t269_35 (ls : XL) (sl : Nat) (h : List AC) (b : Bool) : rt 269 (some (35, ls, [.int (x_b b)], sl, h)) = some ([.int (x_b b)], sl, h) := by cases b <;> rfl
theorem t269_35_0 (ls : XL) (sl : Nat) (h : List AC) : rt 269 (some (35, ls, [.int (nI 0)], sl, h)) = some ([.int (x_b false)], sl, h) := rfl
theorem t269_35_1 (ls : XL) (sl : Nat) (h : List AC) : rt 269 (some (35, ls, [.int (nI 1)], sl, h)) = some ([.int (x_b true)], sl, h) := rfl
theorem t269_57 (ls : XL) (sl : Nat) (h : List AC) (b : Bool) : rt 269 (some (57, ls, [.int (x_b b)], sl, h)) = some ([.int (x_b b)], sl, h) := by cases b <;> rfl
theorem t269_57_0 (ls : XL) (sl : Nat) (h : List AC) : rt 269 (some (57, ls, [.int (nI 0)], sl, h)) = some ([.int (x_b false)], sl, h) := rfl
theorem t269_57_1 (ls : XL) (sl : Nat) (h : List AC) : rt 269 (some (57, ls, [.int (nI 1)], sl, h)) = some ([.int (x_b true)], sl, h) := rfl
theorem e270 (d sl : Nat) (h : List AC) (a0 : Nat) : C d 270 [.ref a0] sl h = rt 270 (R d 270 (0, [some (.ref a0), none], [], sl, h)) := C_rt _ _ _ _ _
theorem t270_8 (ls : XL) (sl : Nat) (h : List AC) (b : Bool) : rt 270 (some (8, ls, [.int (x_b b)], sl, h)) = some ([.int (x_b b)], sl, h) := by cases b <;> rfl
theorem t270_8_0 (ls : XL) (sl : Nat) (h : List AC) : rt 270 (some (8, ls, [.int (nI 0)], sl, h)) = some ([.int (x_b false)], sl, h) := rfl
theorem t270_8_1 (ls : XL) (sl : Nat) (h : List AC) : rt 270 (some (8, ls, [.int (nI 1)], sl, h)) = some ([.int (x_b true)], sl, h) := rfl
theorem t270_35 (ls : XL) (sl : Nat) (h : List AC) (b : Bool) : rt 270 (some (35, ls, [.int (x_b b)], sl, h)) = some ([.int (x_b b)], sl, h) := by cases b <;> rfl
theorem t270_35_0 (ls : XL) (sl : Nat) (h : List AC) : rt 270 (some (35, ls, [.int (nI 0)], sl, h)) = some ([.int (x_b false)], sl, h) := rfl
theorem t270_35_1 (ls : XL) (sl : Nat) (h : List AC) : rt 270 (some (35, ls, [.int (nI 1)], sl, h)) = some ([.int (x_b true)], sl, h) := rfl
theorem t270_57 (ls : XL) (sl : Nat) (h : List AC) (b : Bool) : rt 270 (some (57, ls, [.int (x_b b)], sl, h)) = some ([.int (x_b b)], sl, h) := by cases b <;> rfl
theorem t270_57_0 (ls : XL) (sl : Nat) (h : List AC) : rt 270 (some (57, ls, [.int (nI 0)], sl, h)) = some ([.int (x_b false)], sl, h) := rfl
theorem t270_57_1 (ls : XL) (sl : Nat) (h : List AC) : rt 270 (some (57, ls, [.int (nI 1)], sl, h)) = some ([.int (x_b true)], sl, h) := rfl
theorem e271 (d sl : Nat) (h : List AC) (a0 : Nat) : C d 271 [.ref a0] sl h = rt 271 (R d 271 (0, [some (.ref a0), none, none, none], [], sl, h)) := C_rt _ _ _ _ _
theorem t271_45 (ls : XL) (sl : Nat) (h : List AC) (b : Bool) : rt 271 (some (45, ls, [.int (x_b b)], sl, h)) = some ([.int (x_b b)], sl, h) := by cases b <;> rfl
theorem t271_45_0 (ls : XL) (sl : Nat) (h : List AC) : rt 271 (some (45, ls, [.int (nI 0)], sl, h)) = some ([.int (x_b false)], sl, h) := rfl
theorem t271_45_1 (ls : XL) (sl : Nat) (h : List AC) : rt 271 (some (45, ls, [.int (nI 1)], sl, h)) = some ([.int (x_b true)], sl, h) := rfl
theorem t271_69 (ls : XL) (sl : Nat) (h : List AC) (b : Bool) : rt 271 (some (69, ls, [.int (x_b b)], sl, h)) = some ([.int (x_b b)], sl, h) := by cases b <;> rfl
theorem t271_69_0 (ls : XL) (sl : Nat) (h : List AC) : rt 271 (some (69, ls, [.int (nI 0)], sl, h)) = some ([.int (x_b false)], sl, h) := rfl
theorem t271_69_1 (ls : XL) (sl : Nat) (h : List AC) : rt 271 (some (69, ls, [.int (nI 1)], sl, h)) = some ([.int (x_b true)], sl, h) := rfl
theorem t271_177 (ls : XL) (sl : Nat) (h : List AC) (b : Bool) : rt 271 (some (177, ls, [.int (x_b b)], sl, h)) = some ([.int (x_b b)], sl, h) := by cases b <;> rfl
theorem t271_177_0 (ls : XL) (sl : Nat) (h : List AC) : rt 271 (some (177, ls, [.int (nI 0)], sl, h)) = some ([.int (x_b false)], sl, h) := rfl
theorem t271_177_1 (ls : XL) (sl : Nat) (h : List AC) : rt 271 (some (177, ls, [.int (nI 1)], sl, h)) = some ([.int (x_b true)], sl, h) := rfl
theorem e272 (d sl : Nat) (h : List AC) (a0 : Nat) : C d 272 [.ref a0] sl h = rt 272 (R d 272 (0, [some (.ref a0)], [], sl, h)) := C_rt _ _ _ _ _
theorem t272_8 (ls : XL) (sl : Nat) (h : List AC) (b : Bool) : rt 272 (some (8, ls, [.int (x_b b)], sl, h)) = some ([.int (x_b b)], sl, h) := by cases b <;> rfl
theorem t272_8_0 (ls : XL) (sl : Nat) (h : List AC) : rt 272 (some (8, ls, [.int (nI 0)], sl, h)) = some ([.int (x_b false)], sl, h) := rfl
theorem t272_8_1 (ls : XL) (sl : Nat) (h : List AC) : rt 272 (some (8, ls, [.int (nI 1)], sl, h)) = some ([.int (x_b true)], sl, h) := rfl
theorem t272_25 (ls : XL) (sl : Nat) (h : List AC) (b : Bool) : rt 272 (some (25, ls, [.int (x_b b)], sl, h)) = some ([.int (x_b b)], sl, h) := by cases b <;> rfl
theorem t272_25_0 (ls : XL) (sl : Nat) (h : List AC) : rt 272 (some (25, ls, [.int (nI 0)], sl, h)) = some ([.int (x_b false)], sl, h) := rfl
theorem t272_25_1 (ls : XL) (sl : Nat) (h : List AC) : rt 272 (some (25, ls, [.int (nI 1)], sl, h)) = some ([.int (x_b true)], sl, h) := rfl
theorem e273 (d sl : Nat) (h : List AC) (a0 : Nat) : C d 273 [.ref a0] sl h = rt 273 (R d 273 (0, [some (.ref a0)], [], sl, h)) := C_rt _ _ _ _ _
theorem t273_8 (ls : XL) (sl : Nat) (h : List AC) (b : Bool) : rt 273 (some (8, ls, [.int (x_b b)], sl, h)) = some ([.int (x_b b)], sl, h) := by cases b <;> rfl
theorem t273_8_0 (ls : XL) (sl : Nat) (h : List AC) : rt 273 (some (8, ls, [.int (nI 0)], sl, h)) = some ([.int (x_b false)], sl, h) := rfl
theorem t273_8_1 (ls : XL) (sl : Nat) (h : List AC) : rt 273 (some (8, ls, [.int (nI 1)], sl, h)) = some ([.int (x_b true)], sl, h) := rfl
theorem t273_23 (ls : XL) (sl : Nat) (h : List AC) (b : Bool) : rt 273 (some (23, ls, [.int (x_b b)], sl, h)) = some ([.int (x_b b)], sl, h) := by cases b <;> rfl
theorem t273_23_0 (ls : XL) (sl : Nat) (h : List AC) : rt 273 (some (23, ls, [.int (nI 0)], sl, h)) = some ([.int (x_b false)], sl, h) := rfl
theorem t273_23_1 (ls : XL) (sl : Nat) (h : List AC) : rt 273 (some (23, ls, [.int (nI 1)], sl, h)) = some ([.int (x_b true)], sl, h) := rfl
theorem t273_29 (ls : XL) (sl : Nat) (h : List AC) (b : Bool) : rt 273 (some (29, ls, [.int (x_b b)], sl, h)) = some ([.int (x_b b)], sl, h) := by cases b <;> rfl
theorem t273_29_0 (ls : XL) (sl : Nat) (h : List AC) : rt 273 (some (29, ls, [.int (nI 0)], sl, h)) = some ([.int (x_b false)], sl, h) := rfl
theorem t273_29_1 (ls : XL) (sl : Nat) (h : List AC) : rt 273 (some (29, ls, [.int (nI 1)], sl, h)) = some ([.int (x_b true)], sl, h) := rfl
theorem e274 (d sl : Nat) (h : List AC) (a0 : Nat) (a1 : Int32) : C d 274 [.ref a0, .int a1] sl h = rt 274 (R d 274 (0, [some (.ref a0), some (.int a1)], [], sl, h)) := C_rt _ _ _ _ _
theorem t274_8 (ls : XL) (sl : Nat) (h : List AC) (b : Bool) : rt 274 (some (8, ls, [.int (x_b b)], sl, h)) = some ([.int (x_b b)], sl, h) := by cases b <;> rfl
theorem t274_8_0 (ls : XL) (sl : Nat) (h : List AC) : rt 274 (some (8, ls, [.int (nI 0)], sl, h)) = some ([.int (x_b false)], sl, h) := rfl
theorem t274_8_1 (ls : XL) (sl : Nat) (h : List AC) : rt 274 (some (8, ls, [.int (nI 1)], sl, h)) = some ([.int (x_b true)], sl, h) := rfl
theorem t274_28 (ls : XL) (sl : Nat) (h : List AC) (b : Bool) : rt 274 (some (28, ls, [.int (x_b b)], sl, h)) = some ([.int (x_b b)], sl, h) := by cases b <;> rfl
theorem t274_28_0 (ls : XL) (sl : Nat) (h : List AC) : rt 274 (some (28, ls, [.int (nI 0)], sl, h)) = some ([.int (x_b false)], sl, h) := rfl
theorem t274_28_1 (ls : XL) (sl : Nat) (h : List AC) : rt 274 (some (28, ls, [.int (nI 1)], sl, h)) = some ([.int (x_b true)], sl, h) := rfl
theorem e275 (d sl : Nat) (h : List AC) (a0 : Nat) (a1 : Int32) : C d 275 [.ref a0, .int a1] sl h = rt 275 (R d 275 (0, [some (.ref a0), some (.int a1), none], [], sl, h)) := C_rt _ _ _ _ _
theorem t275_32 (ls : XL) (sl : Nat) (h : List AC) (b : Bool) : rt 275 (some (32, ls, [.int (x_b b)], sl, h)) = some ([.int (x_b b)], sl, h) := by cases b <;> rfl
theorem t275_32_0 (ls : XL) (sl : Nat) (h : List AC) : rt 275 (some (32, ls, [.int (nI 0)], sl, h)) = some ([.int (x_b false)], sl, h) := rfl
theorem t275_32_1 (ls : XL) (sl : Nat) (h : List AC) : rt 275 (some (32, ls, [.int (nI 1)], sl, h)) = some ([.int (x_b true)], sl, h) := rfl
theorem t275_54 (ls : XL) (sl : Nat) (h : List AC) (b : Bool) : rt 275 (some (54, ls, [.int (x_b b)], sl, h)) = some ([.int (x_b b)], sl, h) := by cases b <;> rfl
theorem t275_54_0 (ls : XL) (sl : Nat) (h : List AC) : rt 275 (some (54, ls, [.int (nI 0)], sl, h)) = some ([.int (x_b false)], sl, h) := rfl
theorem t275_54_1 (ls : XL) (sl : Nat) (h : List AC) : rt 275 (some (54, ls, [.int (nI 1)], sl, h)) = some ([.int (x_b true)], sl, h) := rfl
theorem t275_74 (ls : XL) (sl : Nat) (h : List AC) (b : Bool) : rt 275 (some (74, ls, [.int (x_b b)], sl, h)) = some ([.int (x_b b)], sl, h) := by cases b <;> rfl
theorem t275_74_0 (ls : XL) (sl : Nat) (h : List AC) : rt 275 (some (74, ls, [.int (nI 0)], sl, h)) = some ([.int (x_b false)], sl, h) := rfl
theorem t275_74_1 (ls : XL) (sl : Nat) (h : List AC) : rt 275 (some (74, ls, [.int (nI 1)], sl, h)) = some ([.int (x_b true)], sl, h) := rfl
theorem e276 (d sl : Nat) (h : List AC) (a0 : Nat) : C d 276 [.ref a0] sl h = rt 276 (R d 276 (0, [some (.ref a0), none], [], sl, h)) := C_rt _ _ _ _ _
theorem t276_35 (ls : XL) (sl : Nat) (h : List AC) (v : Int32) : rt 276 (some (35, ls, [.int v], sl, h)) = some ([.int v], sl, h) := rfl
theorem t276_55 (ls : XL) (sl : Nat) (h : List AC) (v : Int32) : rt 276 (some (55, ls, [.int v], sl, h)) = some ([.int v], sl, h) := rfl
theorem t276_111 (ls : XL) (sl : Nat) (h : List AC) (v : Int32) : rt 276 (some (111, ls, [.int v], sl, h)) = some ([.int v], sl, h) := rfl
theorem e277 (d sl : Nat) (h : List AC) (a0 : Nat) (a1 : Int32) (a2 : Int32) : C d 277 [.ref a0, .int a1, .int a2] sl h = rt 277 (R d 277 (0, [some (.ref a0), some (.int a1), some (.int a2), none, none, none, none, none], [], sl, h)) := C_rt _ _ _ _ _
theorem t277_123 (ls : XL) (sl : Nat) (h : List AC) (b : Bool) : rt 277 (some (123, ls, [.int (x_b b)], sl, h)) = some ([.int (x_b b)], sl, h) := by cases b <;> rfl
theorem t277_123_0 (ls : XL) (sl : Nat) (h : List AC) : rt 277 (some (123, ls, [.int (nI 0)], sl, h)) = some ([.int (x_b false)], sl, h) := rfl
theorem t277_123_1 (ls : XL) (sl : Nat) (h : List AC) : rt 277 (some (123, ls, [.int (nI 1)], sl, h)) = some ([.int (x_b true)], sl, h) := rfl
theorem t277_149 (ls : XL) (sl : Nat) (h : List AC) (b : Bool) : rt 277 (some (149, ls, [.int (x_b b)], sl, h)) = some ([.int (x_b b)], sl, h) := by cases b <;> rfl
theorem t277_149_0 (ls : XL) (sl : Nat) (h : List AC) : rt 277 (some (149, ls, [.int (nI 0)], sl, h)) = some ([.int (x_b false)], sl, h) := rfl
theorem t277_149_1 (ls : XL) (sl : Nat) (h : List AC) : rt 277 (some (149, ls, [.int (nI 1)], sl, h)) = some ([.int (x_b true)], sl, h) := rfl
theorem t277_175 (ls : XL) (sl : Nat) (h : List AC) (b : Bool) : rt 277 (some (175, ls, [.int (x_b b)], sl, h)) = some ([.int (x_b b)], sl, h) := by cases b <;> rfl
theorem t277_175_0 (ls : XL) (sl : Nat) (h : List AC) : rt 277 (some (175, ls, [.int (nI 0)], sl, h)) = some ([.int (x_b false)], sl, h) := rfl
theorem t277_175_1 (ls : XL) (sl : Nat) (h : List AC) : rt 277 (some (175, ls, [.int (nI 1)], sl, h)) = some ([.int (x_b true)], sl, h) := rfl
theorem t277_189 (ls : XL) (sl : Nat) (h : List AC) (b : Bool) : rt 277 (some (189, ls, [.int (x_b b)], sl, h)) = some ([.int (x_b b)], sl, h) := by cases b <;> rfl
theorem t277_189_0 (ls : XL) (sl : Nat) (h : List AC) : rt 277 (some (189, ls, [.int (nI 0)], sl, h)) = some ([.int (x_b false)], sl, h) := rfl
theorem t277_189_1 (ls : XL) (sl : Nat) (h : List AC) : rt 277 (some (189, ls, [.int (nI 1)], sl, h)) = some ([.int (x_b true)], sl, h) := rfl
theorem t277_195 (ls : XL) (sl : Nat) (h : List AC) (b : Bool) : rt 277 (some (195, ls, [.int (x_b b)], sl, h)) = some ([.int (x_b b)], sl, h) := by cases b <;> rfl
theorem t277_195_0 (ls : XL) (sl : Nat) (h : List AC) : rt 277 (some (195, ls, [.int (nI 0)], sl, h)) = some ([.int (x_b false)], sl, h) := rfl
theorem t277_195_1 (ls : XL) (sl : Nat) (h : List AC) : rt 277 (some (195, ls, [.int (nI 1)], sl, h)) = some ([.int (x_b true)], sl, h) := rfl
theorem t277_221 (ls : XL) (sl : Nat) (h : List AC) (b : Bool) : rt 277 (some (221, ls, [.int (x_b b)], sl, h)) = some ([.int (x_b b)], sl, h) := by cases b <;> rfl
theorem t277_221_0 (ls : XL) (sl : Nat) (h : List AC) : rt 277 (some (221, ls, [.int (nI 0)], sl, h)) = some ([.int (x_b false)], sl, h) := rfl
theorem t277_221_1 (ls : XL) (sl : Nat) (h : List AC) : rt 277 (some (221, ls, [.int (nI 1)], sl, h)) = some ([.int (x_b true)], sl, h) := rfl
theorem t277_227 (ls : XL) (sl : Nat) (h : List AC) (b : Bool) : rt 277 (some (227, ls, [.int (x_b b)], sl, h)) = some ([.int (x_b b)], sl, h) := by cases b <;> rfl
theorem t277_227_0 (ls : XL) (sl : Nat) (h : List AC) : rt 277 (some (227, ls, [.int (nI 0)], sl, h)) = some ([.int (x_b false)], sl, h) := rfl
theorem t277_227_1 (ls : XL) (sl : Nat) (h : List AC) : rt 277 (some (227, ls, [.int (nI 1)], sl, h)) = some ([.int (x_b true)], sl, h) := rfl
theorem t277_235 (ls : XL) (sl : Nat) (h : List AC) (b : Bool) : rt 277 (some (235, ls, [.int (x_b b)], sl, h)) = some ([.int (x_b b)], sl, h) := by cases b <;> rfl
theorem t277_235_0 (ls : XL) (sl : Nat) (h : List AC) : rt 277 (some (235, ls, [.int (nI 0)], sl, h)) = some ([.int (x_b false)], sl, h) := rfl
theorem t277_235_1 (ls : XL) (sl : Nat) (h : List AC) : rt 277 (some (235, ls, [.int (nI 1)], sl, h)) = some ([.int (x_b true)], sl, h) := rfl
theorem t277_374 (ls : XL) (sl : Nat) (h : List AC) (b : Bool) : rt 277 (some (374, ls, [.int (x_b b)], sl, h)) = some ([.int (x_b b)], sl, h) := by cases b <;> rfl
theorem t277_374_0 (ls : XL) (sl : Nat) (h : List AC) : rt 277 (some (374, ls, [.int (nI 0)], sl, h)) = some ([.int (x_b false)], sl, h) := rfl
theorem t277_374_1 (ls : XL) (sl : Nat) (h : List AC) : rt 277 (some (374, ls, [.int (nI 1)], sl, h)) = some ([.int (x_b true)], sl, h) := rfl
theorem e278 (d sl : Nat) (h : List AC) (a0 : Nat) (a1 : Int32) : C d 278 [.ref a0, .int a1] sl h = rt 278 (R d 278 (0, [some (.ref a0), some (.int a1), none, none], [], sl, h)) := C_rt _ _ _ _ _
theorem t278_16 (ls : XL) (sl : Nat) (h : List AC) (v : Int32) : rt 278 (some (16, ls, [.int v], sl, h)) = some ([.int v], sl, h) := rfl
theorem t278_56 (ls : XL) (sl : Nat) (h : List AC) (v : Int32) : rt 278 (some (56, ls, [.int v], sl, h)) = some ([.int v], sl, h) := rfl
theorem t278_76 (ls : XL) (sl : Nat) (h : List AC) (v : Int32) : rt 278 (some (76, ls, [.int v], sl, h)) = some ([.int v], sl, h) := rfl
theorem e279 (d sl : Nat) (h : List AC) (a0 : Nat) (a1 : Int32) : C d 279 [.ref a0, .int a1] sl h = rt 279 (R d 279 (0, [some (.ref a0), some (.int a1), none], [], sl, h)) := C_rt _ _ _ _ _
theorem t279_15 (ls : XL) (sl : Nat) (h : List AC) (b : Bool) : rt 279 (some (15, ls, [.int (x_b b)], sl, h)) = some ([.int (x_b b)], sl, h) := by cases b <;> rfl
theorem t279_15_0 (ls : XL) (sl : Nat) (h : List AC) : rt 279 (some (15, ls, [.int (nI 0)], sl, h)) = some ([.int (x_b false)], sl, h) := rfl
theorem t279_15_1 (ls : XL) (sl : Nat) (h : List AC) : rt 279 (some (15, ls, [.int (nI 1)], sl, h)) = some ([.int (x_b true)], sl, h) := rfl
theorem t279_88 (ls : XL) (sl : Nat) (h : List AC) (b : Bool) : rt 279 (some (88, ls, [.int (x_b b)], sl, h)) = some ([.int (x_b b)], sl, h) := by cases b <;> rfl
theorem t279_88_0 (ls : XL) (sl : Nat) (h : List AC) : rt 279 (some (88, ls, [.int (nI 0)], sl, h)) = some ([.int (x_b false)], sl, h) := rfl
theorem t279_88_1 (ls : XL) (sl : Nat) (h : List AC) : rt 279 (some (88, ls, [.int (nI 1)], sl, h)) = some ([.int (x_b true)], sl, h) := rfl
theorem e280 (d sl : Nat) (h : List AC) (a0 : Nat) (a1 : Int32) : C d 280 [.ref a0, .int a1] sl h = rt 280 (R d 280 (0, [some (.ref a0), some (.int a1), none], [], sl, h)) := C_rt _ _ _ _ _
theorem t280_24 (ls : XL) (sl : Nat) (h : List AC) (b : Bool) : rt 280 (some (24, ls, [.int (x_b b)], sl, h)) = some ([.int (x_b b)], sl, h) := by cases b <;> rfl
theorem t280_24_0 (ls : XL) (sl : Nat) (h : List AC) : rt 280 (some (24, ls, [.int (nI 0)], sl, h)) = some ([.int (x_b false)], sl, h) := rfl
theorem t280_24_1 (ls : XL) (sl : Nat) (h : List AC) : rt 280 (some (24, ls, [.int (nI 1)], sl, h)) = some ([.int (x_b true)], sl, h) := rfl
theorem t280_95 (ls : XL) (sl : Nat) (h : List AC) (b : Bool) : rt 280 (some (95, ls, [.int (x_b b)], sl, h)) = some ([.int (x_b b)], sl, h) := by cases b <;> rfl
theorem t280_95_0 (ls : XL) (sl : Nat) (h : List AC) : rt 280 (some (95, ls, [.int (nI 0)], sl, h)) = some ([.int (x_b false)], sl, h) := rfl
theorem t280_95_1 (ls : XL) (sl : Nat) (h : List AC) : rt 280 (some (95, ls, [.int (nI 1)], sl, h)) = some ([.int (x_b true)], sl, h) := rfl
theorem e281 (d sl : Nat) (h : List AC) (a0 : Nat) (a1 : Int32) : C d 281 [.ref a0, .int a1] sl h = rt 281 (R d 281 (0, [some (.ref a0), some (.int a1)], [], sl, h)) := C_rt _ _ _ _ _
theorem t281_46 (ls : XL) (sl : Nat) (h : List AC) (v : Int32) : rt 281 (some (46, ls, [.int v], sl, h)) = some ([.int v], sl, h) := rfl
theorem t281_54 (ls : XL) (sl : Nat) (h : List AC) (v : Int32) : rt 281 (some (54, ls, [.int v], sl, h)) = some ([.int v], sl, h) := rfl
theorem t281_61 (ls : XL) (sl : Nat) (h : List AC) (v : Int32) : rt 281 (some (61, ls, [.int v], sl, h)) = some ([.int v], sl, h) := rfl
theorem t281_68 (ls : XL) (sl : Nat) (h : List AC) (v : Int32) : rt 281 (some (68, ls, [.int v], sl, h)) = some ([.int v], sl, h) := rfl
theorem t281_73 (ls : XL) (sl : Nat) (h : List AC) (v : Int32) : rt 281 (some (73, ls, [.int v], sl, h)) = some ([.int v], sl, h) := rfl
theorem t281_75 (ls : XL) (sl : Nat) (h : List AC) (v : Int32) : rt 281 (some (75, ls, [.int v], sl, h)) = some ([.int v], sl, h) := rfl
