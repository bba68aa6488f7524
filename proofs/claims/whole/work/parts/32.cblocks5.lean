set_option maxRecDepth 100000 in
theorem k44_r86_r3_0 (d sl : Nat) (I : Nat → Nat → Int32) (A : Nat → Nat → Int32) (N : Nat → Nat → Int64) (V : Nat → Nat → Option Nat) (lt : Int64) (tw : Option Nat) (sp sr : Nat) (X : List AC)  :
  R d 44 (0, [some (.ref 86), some (.ref 3)], [], sl, (CH I A N V lt tw sp sr X)) =
    some (168, [some (.ref 86), some (.ref 3)], [], sl, (CH (up1 I 86 (up1 (up1 (up1 (up1 (up1 (up1 (I 86) 8 (I 3 8)) 9 (I 3 9)) 10 (I 3 10)) 11 (I 3 11)) 12 (I 3 12)) 13 (I 3 13))) (up1 (up1 (up1 (up1 (up1 (up1 (up1 A 88 (va_cpy (A 5) (A 88) 0 0 6)) 89 (va_cpy (A 6) (A 89) 0 0 6)) 90 (va_cpy (A 7) (A 90) 0 0 6)) 91 (va_cpy (A 8) (A 91) 0 0 12)) 92 (va_cpy (A 9) (A 92) 0 0 12)) 93 (va_cpy (A 10) (A 93) 0 0 12)) 94 (va_cpy (A 11) (A 94) 0 0 12)) (up1 N 87 (va_cpy (N 4) (N 87) 0 0 6)) V lt tw sp sr X)) :=
  (R_gob [] 400 _ _ _).trans rfl
set_option maxRecDepth 100000 in
theorem k44_r3_r68_0 (d sl : Nat) (I : Nat → Nat → Int32) (A : Nat → Nat → Int32) (N : Nat → Nat → Int64) (V : Nat → Nat → Option Nat) (lt : Int64) (tw : Option Nat) (sp sr : Nat) (X : List AC)  :
  R d 44 (0, [some (.ref 3), some (.ref 68)], [], sl, (CH I A N V lt tw sp sr X)) =
    some (168, [some (.ref 3), some (.ref 68)], [], sl, (CH (up1 I 3 (up1 (up1 (up1 (up1 (up1 (up1 (I 3) 8 (I 68 8)) 9 (I 68 9)) 10 (I 68 10)) 11 (I 68 11)) 12 (I 68 12)) 13 (I 68 13))) (up1 (up1 (up1 (up1 (up1 (up1 (up1 A 5 (va_cpy (A 70) (A 5) 0 0 6)) 6 (va_cpy (A 71) (A 6) 0 0 6)) 7 (va_cpy (A 72) (A 7) 0 0 6)) 8 (va_cpy (A 73) (A 8) 0 0 12)) 9 (va_cpy (A 74) (A 9) 0 0 12)) 10 (va_cpy (A 75) (A 10) 0 0 12)) 11 (va_cpy (A 76) (A 11) 0 0 12)) (up1 N 4 (va_cpy (N 69) (N 4) 0 0 6)) V lt tw sp sr X)) :=
  (R_gob [] 400 _ _ _).trans rfl
set_option maxRecDepth 100000 in
theorem k44_r3_r77_0 (d sl : Nat) (I : Nat → Nat → Int32) (A : Nat → Nat → Int32) (N : Nat → Nat → Int64) (V : Nat → Nat → Option Nat) (lt : Int64) (tw : Option Nat) (sp sr : Nat) (X : List AC)  :
  R d 44 (0, [some (.ref 3), some (.ref 77)], [], sl, (CH I A N V lt tw sp sr X)) =
    some (168, [some (.ref 3), some (.ref 77)], [], sl, (CH (up1 I 3 (up1 (up1 (up1 (up1 (up1 (up1 (I 3) 8 (I 77 8)) 9 (I 77 9)) 10 (I 77 10)) 11 (I 77 11)) 12 (I 77 12)) 13 (I 77 13))) (up1 (up1 (up1 (up1 (up1 (up1 (up1 A 5 (va_cpy (A 79) (A 5) 0 0 6)) 6 (va_cpy (A 80) (A 6) 0 0 6)) 7 (va_cpy (A 81) (A 7) 0 0 6)) 8 (va_cpy (A 82) (A 8) 0 0 12)) 9 (va_cpy (A 83) (A 9) 0 0 12)) 10 (va_cpy (A 84) (A 10) 0 0 12)) 11 (va_cpy (A 85) (A 11) 0 0 12)) (up1 N 4 (va_cpy (N 78) (N 4) 0 0 6)) V lt tw sp sr X)) :=
  (R_gob [] 400 _ _ _).trans rfl
set_option maxRecDepth 100000 in
theorem k44_r3_r59_0 (d sl : Nat) (I : Nat → Nat → Int32) (A : Nat → Nat → Int32) (N : Nat → Nat → Int64) (V : Nat → Nat → Option Nat) (lt : Int64) (tw : Option Nat) (sp sr : Nat) (X : List AC)  :
  R d 44 (0, [some (.ref 3), some (.ref 59)], [], sl, (CH I A N V lt tw sp sr X)) =
    some (168, [some (.ref 3), some (.ref 59)], [], sl, (CH (up1 I 3 (up1 (up1 (up1 (up1 (up1 (up1 (I 3) 8 (I 59 8)) 9 (I 59 9)) 10 (I 59 10)) 11 (I 59 11)) 12 (I 59 12)) 13 (I 59 13))) (up1 (up1 (up1 (up1 (up1 (up1 (up1 A 5 (va_cpy (A 61) (A 5) 0 0 6)) 6 (va_cpy (A 62) (A 6) 0 0 6)) 7 (va_cpy (A 63) (A 7) 0 0 6)) 8 (va_cpy (A 64) (A 8) 0 0 12)) 9 (va_cpy (A 65) (A 9) 0 0 12)) 10 (va_cpy (A 66) (A 10) 0 0 12)) 11 (va_cpy (A 67) (A 11) 0 0 12)) (up1 N 4 (va_cpy (N 60) (N 4) 0 0 6)) V lt tw sp sr X)) :=
  (R_gob [] 400 _ _ _).trans rfl
set_option maxRecDepth 100000 in
theorem k44_r3_r23_0 (d sl : Nat) (I : Nat → Nat → Int32) (A : Nat → Nat → Int32) (N : Nat → Nat → Int64) (V : Nat → Nat → Option Nat) (lt : Int64) (tw : Option Nat) (sp sr : Nat) (X : List AC)  :
  R d 44 (0, [some (.ref 3), some (.ref 23)], [], sl, (CH I A N V lt tw sp sr X)) =
    some (168, [some (.ref 3), some (.ref 23)], [], sl, (CH (up1 I 3 (up1 (up1 (up1 (up1 (up1 (up1 (I 3) 8 (I 23 8)) 9 (I 23 9)) 10 (I 23 10)) 11 (I 23 11)) 12 (I 23 12)) 13 (I 23 13))) (up1 (up1 (up1 (up1 (up1 (up1 (up1 A 5 (va_cpy (A 25) (A 5) 0 0 6)) 6 (va_cpy (A 26) (A 6) 0 0 6)) 7 (va_cpy (A 27) (A 7) 0 0 6)) 8 (va_cpy (A 28) (A 8) 0 0 12)) 9 (va_cpy (A 29) (A 9) 0 0 12)) 10 (va_cpy (A 30) (A 10) 0 0 12)) 11 (va_cpy (A 31) (A 11) 0 0 12)) (up1 N 4 (va_cpy (N 24) (N 4) 0 0 6)) V lt tw sp sr X)) :=
  (R_gob [] 400 _ _ _).trans rfl
set_option maxRecDepth 100000 in
theorem k44_r3_r86_0 (d sl : Nat) (I : Nat → Nat → Int32) (A : Nat → Nat → Int32) (N : Nat → Nat → Int64) (V : Nat → Nat → Option Nat) (lt : Int64) (tw : Option Nat) (sp sr : Nat) (X : List AC)  :
  R d 44 (0, [some (.ref 3), some (.ref 86)], [], sl, (CH I A N V lt tw sp sr X)) =
    some (168, [some (.ref 3), some (.ref 86)], [], sl, (CH (up1 I 3 (up1 (up1 (up1 (up1 (up1 (up1 (I 3) 8 (I 86 8)) 9 (I 86 9)) 10 (I 86 10)) 11 (I 86 11)) 12 (I 86 12)) 13 (I 86 13))) (up1 (up1 (up1 (up1 (up1 (up1 (up1 A 5 (va_cpy (A 88) (A 5) 0 0 6)) 6 (va_cpy (A 89) (A 6) 0 0 6)) 7 (va_cpy (A 90) (A 7) 0 0 6)) 8 (va_cpy (A 91) (A 8) 0 0 12)) 9 (va_cpy (A 92) (A 9) 0 0 12)) 10 (va_cpy (A 93) (A 10) 0 0 12)) 11 (va_cpy (A 94) (A 11) 0 0 12)) (up1 N 4 (va_cpy (N 87) (N 4) 0 0 6)) V lt tw sp sr X)) :=
  (R_gob [] 400 _ _ _).trans rfl
set_option maxRecDepth 100000 in
theorem k44_r3_r32_0 (d sl : Nat) (I : Nat → Nat → Int32) (A : Nat → Nat → Int32) (N : Nat → Nat → Int64) (V : Nat → Nat → Option Nat) (lt : Int64) (tw : Option Nat) (sp sr : Nat) (X : List AC)  :
  R d 44 (0, [some (.ref 3), some (.ref 32)], [], sl, (CH I A N V lt tw sp sr X)) =
    some (168, [some (.ref 3), some (.ref 32)], [], sl, (CH (up1 I 3 (up1 (up1 (up1 (up1 (up1 (up1 (I 3) 8 (I 32 8)) 9 (I 32 9)) 10 (I 32 10)) 11 (I 32 11)) 12 (I 32 12)) 13 (I 32 13))) (up1 (up1 (up1 (up1 (up1 (up1 (up1 A 5 (va_cpy (A 34) (A 5) 0 0 6)) 6 (va_cpy (A 35) (A 6) 0 0 6)) 7 (va_cpy (A 36) (A 7) 0 0 6)) 8 (va_cpy (A 37) (A 8) 0 0 12)) 9 (va_cpy (A 38) (A 9) 0 0 12)) 10 (va_cpy (A 39) (A 10) 0 0 12)) 11 (va_cpy (A 40) (A 11) 0 0 12)) (up1 N 4 (va_cpy (N 33) (N 4) 0 0 6)) V lt tw sp sr X)) :=
  (R_gob [] 400 _ _ _).trans rfl
set_option maxRecDepth 100000 in
theorem k44_r3_r41_0 (d sl : Nat) (I : Nat → Nat → Int32) (A : Nat → Nat → Int32) (N : Nat → Nat → Int64) (V : Nat → Nat → Option Nat) (lt : Int64) (tw : Option Nat) (sp sr : Nat) (X : List AC)  :
  R d 44 (0, [some (.ref 3), some (.ref 41)], [], sl, (CH I A N V lt tw sp sr X)) =
    some (168, [some (.ref 3), some (.ref 41)], [], sl, (CH (up1 I 3 (up1 (up1 (up1 (up1 (up1 (up1 (I 3) 8 (I 41 8)) 9 (I 41 9)) 10 (I 41 10)) 11 (I 41 11)) 12 (I 41 12)) 13 (I 41 13))) (up1 (up1 (up1 (up1 (up1 (up1 (up1 A 5 (va_cpy (A 43) (A 5) 0 0 6)) 6 (va_cpy (A 44) (A 6) 0 0 6)) 7 (va_cpy (A 45) (A 7) 0 0 6)) 8 (va_cpy (A 46) (A 8) 0 0 12)) 9 (va_cpy (A 47) (A 9) 0 0 12)) 10 (va_cpy (A 48) (A 10) 0 0 12)) 11 (va_cpy (A 49) (A 11) 0 0 12)) (up1 N 4 (va_cpy (N 42) (N 4) 0 0 6)) V lt tw sp sr X)) :=
  (R_gob [] 400 _ _ _).trans rfl
set_option maxRecDepth 100000 in
theorem k44_r3_r50_0 (d sl : Nat) (I : Nat → Nat → Int32) (A : Nat → Nat → Int32) (N : Nat → Nat → Int64) (V : Nat → Nat → Option Nat) (lt : Int64) (tw : Option Nat) (sp sr : Nat) (X : List AC)  :
  R d 44 (0, [some (.ref 3), some (.ref 50)], [], sl, (CH I A N V lt tw sp sr X)) =
    some (168, [some (.ref 3), some (.ref 50)], [], sl, (CH (up1 I 3 (up1 (up1 (up1 (up1 (up1 (up1 (I 3) 8 (I 50 8)) 9 (I 50 9)) 10 (I 50 10)) 11 (I 50 11)) 12 (I 50 12)) 13 (I 50 13))) (up1 (up1 (up1 (up1 (up1 (up1 (up1 A 5 (va_cpy (A 52) (A 5) 0 0 6)) 6 (va_cpy (A 53) (A 6) 0 0 6)) 7 (va_cpy (A 54) (A 7) 0 0 6)) 8 (va_cpy (A 55) (A 8) 0 0 12)) 9 (va_cpy (A 56) (A 9) 0 0 12)) 10 (va_cpy (A 57) (A 10) 0 0 12)) 11 (va_cpy (A 58) (A 11) 0 0 12)) (up1 N 4 (va_cpy (N 51) (N 4) 0 0 6)) V lt tw sp sr X)) :=
  (R_gob [] 400 _ _ _).trans rfl
set_option maxRecDepth 100000 in
theorem k44_r86_r12_0 (d sl : Nat) (I : Nat → Nat → Int32) (A : Nat → Nat → Int32) (N : Nat → Nat → Int64) (V : Nat → Nat → Option Nat) (lt : Int64) (tw : Option Nat) (sp sr : Nat) (X : List AC)  :
  R d 44 (0, [some (.ref 86), some (.ref 12)], [], sl, (CH I A N V lt tw sp sr X)) =
    some (168, [some (.ref 86), some (.ref 12)], [], sl, (CH (up1 I 86 (up1 (up1 (up1 (up1 (up1 (up1 (I 86) 8 (I 12 8)) 9 (I 12 9)) 10 (I 12 10)) 11 (I 12 11)) 12 (I 12 12)) 13 (I 12 13))) (up1 (up1 (up1 (up1 (up1 (up1 (up1 A 88 (va_cpy (A 14) (A 88) 0 0 6)) 89 (va_cpy (A 15) (A 89) 0 0 6)) 90 (va_cpy (A 16) (A 90) 0 0 6)) 91 (va_cpy (A 17) (A 91) 0 0 12)) 92 (va_cpy (A 18) (A 92) 0 0 12)) 93 (va_cpy (A 19) (A 93) 0 0 12)) 94 (va_cpy (A 20) (A 94) 0 0 12)) (up1 N 87 (va_cpy (N 13) (N 87) 0 0 6)) V lt tw sp sr X)) :=
  (R_gob [] 400 _ _ _).trans rfl
set_option maxRecDepth 100000 in
theorem k44_r23_r12_0 (d sl : Nat) (I : Nat → Nat → Int32) (A : Nat → Nat → Int32) (N : Nat → Nat → Int64) (V : Nat → Nat → Option Nat) (lt : Int64) (tw : Option Nat) (sp sr : Nat) (X : List AC)  :
  R d 44 (0, [some (.ref 23), some (.ref 12)], [], sl, (CH I A N V lt tw sp sr X)) =
    some (168, [some (.ref 23), some (.ref 12)], [], sl, (CH (up1 I 23 (up1 (up1 (up1 (up1 (up1 (up1 (I 23) 8 (I 12 8)) 9 (I 12 9)) 10 (I 12 10)) 11 (I 12 11)) 12 (I 12 12)) 13 (I 12 13))) (up1 (up1 (up1 (up1 (up1 (up1 (up1 A 25 (va_cpy (A 14) (A 25) 0 0 6)) 26 (va_cpy (A 15) (A 26) 0 0 6)) 27 (va_cpy (A 16) (A 27) 0 0 6)) 28 (va_cpy (A 17) (A 28) 0 0 12)) 29 (va_cpy (A 18) (A 29) 0 0 12)) 30 (va_cpy (A 19) (A 30) 0 0 12)) 31 (va_cpy (A 20) (A 31) 0 0 12)) (up1 N 24 (va_cpy (N 13) (N 24) 0 0 6)) V lt tw sp sr X)) :=
  (R_gob [] 400 _ _ _).trans rfl
set_option maxRecDepth 100000 in
theorem k44_r50_r12_0 (d sl : Nat) (I : Nat → Nat → Int32) (A : Nat → Nat → Int32) (N : Nat → Nat → Int64) (V : Nat → Nat → Option Nat) (lt : Int64) (tw : Option Nat) (sp sr : Nat) (X : List AC)  :
  R d 44 (0, [some (.ref 50), some (.ref 12)], [], sl, (CH I A N V lt tw sp sr X)) =
    some (168, [some (.ref 50), some (.ref 12)], [], sl, (CH (up1 I 50 (up1 (up1 (up1 (up1 (up1 (up1 (I 50) 8 (I 12 8)) 9 (I 12 9)) 10 (I 12 10)) 11 (I 12 11)) 12 (I 12 12)) 13 (I 12 13))) (up1 (up1 (up1 (up1 (up1 (up1 (up1 A 52 (va_cpy (A 14) (A 52) 0 0 6)) 53 (va_cpy (A 15) (A 53) 0 0 6)) 54 (va_cpy (A 16) (A 54) 0 0 6)) 55 (va_cpy (A 17) (A 55) 0 0 12)) 56 (va_cpy (A 18) (A 56) 0 0 12)) 57 (va_cpy (A 19) (A 57) 0 0 12)) 58 (va_cpy (A 20) (A 58) 0 0 12)) (up1 N 51 (va_cpy (N 13) (N 51) 0 0 6)) V lt tw sp sr X)) :=
  (R_gob [] 400 _ _ _).trans rfl
set_option maxRecDepth 100000 in
theorem k44_r77_r12_0 (d sl : Nat) (I : Nat → Nat → Int32) (A : Nat → Nat → Int32) (N : Nat → Nat → Int64) (V : Nat → Nat → Option Nat) (lt : Int64) (tw : Option Nat) (sp sr : Nat) (X : List AC)  :
  R d 44 (0, [some (.ref 77), some (.ref 12)], [], sl, (CH I A N V lt tw sp sr X)) =
    some (168, [some (.ref 77), some (.ref 12)], [], sl, (CH (up1 I 77 (up1 (up1 (up1 (up1 (up1 (up1 (I 77) 8 (I 12 8)) 9 (I 12 9)) 10 (I 12 10)) 11 (I 12 11)) 12 (I 12 12)) 13 (I 12 13))) (up1 (up1 (up1 (up1 (up1 (up1 (up1 A 79 (va_cpy (A 14) (A 79) 0 0 6)) 80 (va_cpy (A 15) (A 80) 0 0 6)) 81 (va_cpy (A 16) (A 81) 0 0 6)) 82 (va_cpy (A 17) (A 82) 0 0 12)) 83 (va_cpy (A 18) (A 83) 0 0 12)) 84 (va_cpy (A 19) (A 84) 0 0 12)) 85 (va_cpy (A 20) (A 85) 0 0 12)) (up1 N 78 (va_cpy (N 13) (N 78) 0 0 6)) V lt tw sp sr X)) :=
  (R_gob [] 400 _ _ _).trans rfl
set_option maxRecDepth 100000 in
theorem k44_r41_r12_0 (d sl : Nat) (I : Nat → Nat → Int32) (A : Nat → Nat → Int32) (N : Nat → Nat → Int64) (V : Nat → Nat → Option Nat) (lt : Int64) (tw : Option Nat) (sp sr : Nat) (X : List AC)  :
  R d 44 (0, [some (.ref 41), some (.ref 12)], [], sl, (CH I A N V lt tw sp sr X)) =
    some (168, [some (.ref 41), some (.ref 12)], [], sl, (CH (up1 I 41 (up1 (up1 (up1 (up1 (up1 (up1 (I 41) 8 (I 12 8)) 9 (I 12 9)) 10 (I 12 10)) 11 (I 12 11)) 12 (I 12 12)) 13 (I 12 13))) (up1 (up1 (up1 (up1 (up1 (up1 (up1 A 43 (va_cpy (A 14) (A 43) 0 0 6)) 44 (va_cpy (A 15) (A 44) 0 0 6)) 45 (va_cpy (A 16) (A 45) 0 0 6)) 46 (va_cpy (A 17) (A 46) 0 0 12)) 47 (va_cpy (A 18) (A 47) 0 0 12)) 48 (va_cpy (A 19) (A 48) 0 0 12)) 49 (va_cpy (A 20) (A 49) 0 0 12)) (up1 N 42 (va_cpy (N 13) (N 42) 0 0 6)) V lt tw sp sr X)) :=
  (R_gob [] 400 _ _ _).trans rfl
set_option maxRecDepth 100000 in
theorem k44_r59_r12_0 (d sl : Nat) (I : Nat → Nat → Int32) (A : Nat → Nat → Int32) (N : Nat → Nat → Int64) (V : Nat → Nat → Option Nat) (lt : Int64) (tw : Option Nat) (sp sr : Nat) (X : List AC)  :
  R d 44 (0, [some (.ref 59), some (.ref 12)], [], sl, (CH I A N V lt tw sp sr X)) =
    some (168, [some (.ref 59), some (.ref 12)], [], sl, (CH (up1 I 59 (up1 (up1 (up1 (up1 (up1 (up1 (I 59) 8 (I 12 8)) 9 (I 12 9)) 10 (I 12 10)) 11 (I 12 11)) 12 (I 12 12)) 13 (I 12 13))) (up1 (up1 (up1 (up1 (up1 (up1 (up1 A 61 (va_cpy (A 14) (A 61) 0 0 6)) 62 (va_cpy (A 15) (A 62) 0 0 6)) 63 (va_cpy (A 16) (A 63) 0 0 6)) 64 (va_cpy (A 17) (A 64) 0 0 12)) 65 (va_cpy (A 18) (A 65) 0 0 12)) 66 (va_cpy (A 19) (A 66) 0 0 12)) 67 (va_cpy (A 20) (A 67) 0 0 12)) (up1 N 60 (va_cpy (N 13) (N 60) 0 0 6)) V lt tw sp sr X)) :=
  (R_gob [] 400 _ _ _).trans rfl
set_option maxRecDepth 100000 in
theorem k44_r68_r12_0 (d sl : Nat) (I : Nat → Nat → Int32) (A : Nat → Nat → Int32) (N : Nat → Nat → Int64) (V : Nat → Nat → Option Nat) (lt : Int64) (tw : Option Nat) (sp sr : Nat) (X : List AC)  :
  R d 44 (0, [some (.ref 68), some (.ref 12)], [], sl, (CH I A N V lt tw sp sr X)) =
    some (168, [some (.ref 68), some (.ref 12)], [], sl, (CH (up1 I 68 (up1 (up1 (up1 (up1 (up1 (up1 (I 68) 8 (I 12 8)) 9 (I 12 9)) 10 (I 12 10)) 11 (I 12 11)) 12 (I 12 12)) 13 (I 12 13))) (up1 (up1 (up1 (up1 (up1 (up1 (up1 A 70 (va_cpy (A 14) (A 70) 0 0 6)) 71 (va_cpy (A 15) (A 71) 0 0 6)) 72 (va_cpy (A 16) (A 72) 0 0 6)) 73 (va_cpy (A 17) (A 73) 0 0 12)) 74 (va_cpy (A 18) (A 74) 0 0 12)) 75 (va_cpy (A 19) (A 75) 0 0 12)) 76 (va_cpy (A 20) (A 76) 0 0 12)) (up1 N 69 (va_cpy (N 13) (N 69) 0 0 6)) V lt tw sp sr X)) :=
  (R_gob [] 400 _ _ _).trans rfl
set_option maxRecDepth 100000 in
theorem k44_r32_r12_0 (d sl : Nat) (I : Nat → Nat → Int32) (A : Nat → Nat → Int32) (N : Nat → Nat → Int64) (V : Nat → Nat → Option Nat) (lt : Int64) (tw : Option Nat) (sp sr : Nat) (X : List AC)  :
  R d 44 (0, [some (.ref 32), some (.ref 12)], [], sl, (CH I A N V lt tw sp sr X)) =
    some (168, [some (.ref 32), some (.ref 12)], [], sl, (CH (up1 I 32 (up1 (up1 (up1 (up1 (up1 (up1 (I 32) 8 (I 12 8)) 9 (I 12 9)) 10 (I 12 10)) 11 (I 12 11)) 12 (I 12 12)) 13 (I 12 13))) (up1 (up1 (up1 (up1 (up1 (up1 (up1 A 34 (va_cpy (A 14) (A 34) 0 0 6)) 35 (va_cpy (A 15) (A 35) 0 0 6)) 36 (va_cpy (A 16) (A 36) 0 0 6)) 37 (va_cpy (A 17) (A 37) 0 0 12)) 38 (va_cpy (A 18) (A 38) 0 0 12)) 39 (va_cpy (A 19) (A 39) 0 0 12)) 40 (va_cpy (A 20) (A 40) 0 0 12)) (up1 N 33 (va_cpy (N 13) (N 33) 0 0 6)) V lt tw sp sr X)) :=
  (R_gob [] 400 _ _ _).trans rfl
set_option maxRecDepth 100000 in
theorem k79_r3_r146_0 (d sl : Nat) (I : Nat → Nat → Int32) (A : Nat → Nat → Int32) (N : Nat → Nat → Int64) (V : Nat → Nat → Option Nat) (lt : Int64) (tw : Option Nat) (sp sr : Nat) (a1 : Int32) (x0_0 : Int32) :
  R (d + 1) 79 (0, [some (.ref 3), some (.int a1), some (.ref 146), none, none, none], [], sl, (CH I A N V lt tw sp sr [.inr (0, [.int x0_0])])) =
    bC (C d 7 [.ref 146, .int (nI 6)] sl (CH I A N V lt tw sp sr [.inr (0, [.int x0_0])])) (fun vs sl h => R (d + 1) 79 (6, [some (.ref 3), some (.int a1), some (.ref 146), none, none, none], vs ++ [], sl, h)) :=
  (R_gob [6, 19, 27, 46, 75, 86, 91, 116, 120] 400 _ _ _).trans rfl
set_option maxRecDepth 100000 in
theorem k79_r3_r146_6 (d sl : Nat) (I : Nat → Nat → Int32) (A : Nat → Nat → Int32) (N : Nat → Nat → Int64) (V : Nat → Nat → Option Nat) (lt : Int64) (tw : Option Nat) (sp sr : Nat) (a1 : Int32) (b0 : Int32) (x0_0 : Int32) :
  R (d + 1) 79 (6, [some (.ref 3), some (.int a1), some (.ref 146), none, none, none], [.int b0], sl, (CH I A N V lt tw sp sr [.inr (0, [.int x0_0])])) =
    cond (!decide (b0 = (nI 0))) (cond (decide (b0 = (nI 1))) (cond (decide ((I 3 9) ≤ (nI 0))) (cond (!decide (b0 = (nI 3))) (some (121, [some (.ref 3), some (.int a1), some (.ref 146), some (.int b0), none, none], [], sl, (CH I A N V lt tw sp sr [.inr (0, [.int x0_0])]))) (cond (decide ((I 3 9) ≤ (nI 0))) (some (121, [some (.ref 3), some (.int a1), some (.ref 146), some (.int b0), none, none], [], sl, (CH I A N V lt tw sp sr [.inr (0, [.int x0_0])]))) (bC (C d 7 [.ref 146, .int (I 3 9)] sl (CH I A N V lt tw sp sr [.inr (0, [.int x0_0])])) (fun vs sl h => R (d + 1) 79 (116, [some (.ref 3), some (.int a1), some (.ref 146), some (.int b0), none, none], vs ++ [.ref 3], sl, h))))) (bC (C d 7 [.ref 146, .int (I 3 9)] sl (CH I A N V lt tw sp sr [.inr (0, [.int x0_0])])) (fun vs sl h => R (d + 1) 79 (75, [some (.ref 3), some (.int a1), some (.ref 146), some (.int b0), none, none], vs ++ [], sl, h)))) (cond (!decide (b0 = (nI 2))) (cond (!decide (b0 = (nI 3))) (some (121, [some (.ref 3), some (.int a1), some (.ref 146), some (.int b0), none, none], [], sl, (CH I A N V lt tw sp sr [.inr (0, [.int x0_0])]))) (cond (decide ((I 3 9) ≤ (nI 0))) (some (121, [some (.ref 3), some (.int a1), some (.ref 146), some (.int b0), none, none], [], sl, (CH I A N V lt tw sp sr [.inr (0, [.int x0_0])]))) (bC (C d 7 [.ref 146, .int (I 3 9)] sl (CH I A N V lt tw sp sr [.inr (0, [.int x0_0])])) (fun vs sl h => R (d + 1) 79 (116, [some (.ref 3), some (.int a1), some (.ref 146), some (.int b0), none, none], vs ++ [.ref 3], sl, h))))) (cond (decide ((I 3 9) ≤ (nI 0))) (cond (!decide (b0 = (nI 3))) (some (121, [some (.ref 3), some (.int a1), some (.ref 146), some (.int b0), none, none], [], sl, (CH I A N V lt tw sp sr [.inr (0, [.int x0_0])]))) (cond (decide ((I 3 9) ≤ (nI 0))) (some (121, [some (.ref 3), some (.int a1), some (.ref 146), some (.int b0), none, none], [], sl, (CH I A N V lt tw sp sr [.inr (0, [.int x0_0])]))) (bC (C d 7 [.ref 146, .int (I 3 9)] sl (CH I A N V lt tw sp sr [.inr (0, [.int x0_0])])) (fun vs sl h => R (d + 1) 79 (116, [some (.ref 3), some (.int a1), some (.ref 146), some (.int b0), none, none], vs ++ [.ref 3], sl, h))))) (bC (C d 7 [.ref 146, .int (I 3 9)] sl (CH I A N V lt tw sp sr [.inr (0, [.int x0_0])])) (fun vs sl h => R (d + 1) 79 (75, [some (.ref 3), some (.int a1), some (.ref 146), some (.int b0), none, none], vs ++ [], sl, h)))))) (bC (C d 7 [.ref 146, .int (I 3 8)] sl (CH I A N V lt tw sp sr [.inr (0, [.int x0_0])])) (fun vs sl h => R (d + 1) 79 (19, [some (.ref 3), some (.int a1), some (.ref 146), some (.int b0), none, none], vs ++ [], sl, h))) :=
  (R_gob [6, 19, 27, 46, 75, 86, 91, 116, 120] 400 _ _ _).trans rfl
set_option maxRecDepth 100000 in
theorem k79_r3_r146_116 (d sl : Nat) (I : Nat → Nat → Int32) (A : Nat → Nat → Int32) (N : Nat → Nat → Int64) (V : Nat → Nat → Option Nat) (lt : Int64) (tw : Option Nat) (sp sr : Nat) (a1 : Int32) (a3 : Int32) (b0 : Int32) (x0_0 : Int32) :
  R (d + 1) 79 (116, [some (.ref 3), some (.int a1), some (.ref 146), some (.int a3), none, none], [.int b0, .ref 3], sl, (CH I A N V lt tw sp sr [.inr (0, [.int x0_0])])) =
    bC (C d 72 [.ref 3, .int b0, .int a1] sl (CH I A N V lt tw sp sr [.inr (0, [.int x0_0])])) (fun vs sl h => R (d + 1) 79 (120, [some (.ref 3), some (.int a1), some (.ref 146), some (.int a3), none, none], vs ++ [], sl, h)) :=
  (R_gob [6, 19, 27, 46, 75, 86, 91, 116, 120] 400 _ _ _).trans rfl
set_option maxRecDepth 100000 in
theorem k79_r3_r146_75 (d sl : Nat) (I : Nat → Nat → Int32) (A : Nat → Nat → Int32) (N : Nat → Nat → Int64) (V : Nat → Nat → Option Nat) (lt : Int64) (tw : Option Nat) (sp sr : Nat) (a1 : Int32) (a3 : Int32) (b0 : Int32) (x0_0 : Int32) :
  R (d + 1) 79 (75, [some (.ref 3), some (.int a1), some (.ref 146), some (.int a3), none, none], [.int b0], sl, (CH I A N V lt tw sp sr [.inr (0, [.int x0_0])])) =
    bC (C d 7 [.ref 146, .int (nI 20)] sl (CH I A N V lt tw sp sr [.inr (0, [.int x0_0])])) (fun vs sl h => R (d + 1) 79 (86, [some (.ref 3), some (.int a1), some (.ref 146), some (.int a3), some (.int b0), none], vs ++ [.int b0, .ref 3], sl, h)) :=
  (R_gob [6, 19, 27, 46, 75, 86, 91, 116, 120] 400 _ _ _).trans rfl
set_option maxRecDepth 100000 in
theorem k79_r3_r146_19 (d sl : Nat) (I : Nat → Nat → Int32) (A : Nat → Nat → Int32) (N : Nat → Nat → Int64) (V : Nat → Nat → Option Nat) (lt : Int64) (tw : Option Nat) (sp sr : Nat) (a1 : Int32) (a3 : Int32) (b0 : Int32) (x0_0 : Int32) :
  R (d + 1) 79 (19, [some (.ref 3), some (.int a1), some (.ref 146), some (.int a3), none, none], [.int b0], sl, (CH I A N V lt tw sp sr [.inr (0, [.int x0_0])])) =
    bC (C d 7 [.ref 146, .int (nI 20)] sl (CH I A N V lt tw sp sr [.inr (0, [.int x0_0])])) (fun vs sl h => R (d + 1) 79 (27, [some (.ref 3), some (.int a1), some (.ref 146), some (.int a3), some (.int b0), none], vs ++ [], sl, h)) :=
  (R_gob [6, 19, 27, 46, 75, 86, 91, 116, 120] 400 _ _ _).trans rfl
set_option maxRecDepth 100000 in
theorem k79_r3_r146_120 (d sl : Nat) (I : Nat → Nat → Int32) (A : Nat → Nat → Int32) (N : Nat → Nat → Int64) (V : Nat → Nat → Option Nat) (lt : Int64) (tw : Option Nat) (sp sr : Nat) (a1 : Int32) (a3 : Int32) (b0 : Int32) (x0_0 : Int32) :
  R (d + 1) 79 (120, [some (.ref 3), some (.int a1), some (.ref 146), some (.int a3), none, none], [.int b0], sl, (CH I A N V lt tw sp sr [.inr (0, [.int x0_0])])) =
    some (121, [some (.ref 3), some (.int a1), some (.ref 146), some (.int a3), none, none], [], sl, (CH I A N V lt tw sp sr [.inr (0, [.int x0_0])])) :=
  (R_gob [6, 19, 27, 46, 75, 86, 91, 116, 120] 400 _ _ _).trans rfl
set_option maxRecDepth 100000 in
theorem k79_r3_r146_86 (d sl : Nat) (I : Nat → Nat → Int32) (A : Nat → Nat → Int32) (N : Nat → Nat → Int64) (V : Nat → Nat → Option Nat) (lt : Int64) (tw : Option Nat) (sp sr : Nat) (a1 : Int32) (a3 : Int32) (a4 : Int32) (b0 : Int32) (b1 : Int32) (x0_0 : Int32) :
  R (d + 1) 79 (86, [some (.ref 3), some (.int a1), some (.ref 146), some (.int a3), some (.int a4), none], [.int b0, .int b1, .ref 3], sl, (CH I A N V lt tw sp sr [.inr (0, [.int x0_0])])) =
    bC (C d 70 [.ref 3, .int b1, .int (b0 + (nI 1))] sl (CH I A N V lt tw sp sr [.inr (0, [.int x0_0])])) (fun vs sl h => R (d + 1) 79 (91, [some (.ref 3), some (.int a1), some (.ref 146), some (.int a3), some (.int a4), none], vs ++ [], sl, h)) :=
  (R_gob [6, 19, 27, 46, 75, 86, 91, 116, 120] 400 _ _ _).trans rfl
set_option maxRecDepth 100000 in
theorem k79_r3_r146_27 (d sl : Nat) (I : Nat → Nat → Int32) (A : Nat → Nat → Int32) (N : Nat → Nat → Int64) (V : Nat → Nat → Option Nat) (lt : Int64) (tw : Option Nat) (sp sr : Nat) (a1 : Int32) (a3 : Int32) (a4 : Int32) (b0 : Int32) (x0_0 : Int32) :
  R (d + 1) 79 (27, [some (.ref 3), some (.int a1), some (.ref 146), some (.int a3), some (.int a4), none], [.int b0], sl, (CH I A N V lt tw sp sr [.inr (0, [.int x0_0])])) =
    cond (decide (a4 = a1)) (some (121, [some (.ref 3), some (.int a1), some (.ref 146), some (.int a3), some (.int a4), some (.int (b0 + (nI 1)))], [], sl, (CH I A N V lt tw sp sr [.inr (0, [.int x0_0])]))) (bC (C d 71 [.ref 3, .int a1, .int a4, .int (b0 + (nI 1))] sl (CH I A N V lt tw sp sr [.inr (0, [.int x0_0])])) (fun vs sl h => R (d + 1) 79 (46, [some (.ref 3), some (.int a1), some (.ref 146), some (.int a3), some (.int a4), some (.int (b0 + (nI 1)))], vs ++ [], sl, h))) :=
  (R_gob [6, 19, 27, 46, 75, 86, 91, 116, 120] 400 _ _ _).trans rfl
set_option maxRecDepth 100000 in
theorem k79_r3_r146_91 (d sl : Nat) (I : Nat → Nat → Int32) (A : Nat → Nat → Int32) (N : Nat → Nat → Int64) (V : Nat → Nat → Option Nat) (lt : Int64) (tw : Option Nat) (sp sr : Nat) (a1 : Int32) (a3 : Int32) (a4 : Int32) (b0 : Int32) (x0_0 : Int32) :
  R (d + 1) 79 (91, [some (.ref 3), some (.int a1), some (.ref 146), some (.int a3), some (.int a4), none], [.int b0], sl, (CH I A N V lt tw sp sr [.inr (0, [.int x0_0])])) =
    some (121, [some (.ref 3), some (.int a1), some (.ref 146), some (.int a3), some (.int a4), none], [], sl, (CH I A N V lt tw sp sr [.inr (0, [.int x0_0])])) :=
  (R_gob [6, 19, 27, 46, 75, 86, 91, 116, 120] 400 _ _ _).trans rfl
set_option maxRecDepth 100000 in
theorem k79_r3_r146_46 (d sl : Nat) (I : Nat → Nat → Int32) (A : Nat → Nat → Int32) (N : Nat → Nat → Int64) (V : Nat → Nat → Option Nat) (lt : Int64) (tw : Option Nat) (sp sr : Nat) (a1 : Int32) (a3 : Int32) (a4 : Int32) (a5 : Int32) (b0 : Int32) (x0_0 : Int32) :
  R (d + 1) 79 (46, [some (.ref 3), some (.int a1), some (.ref 146), some (.int a3), some (.int a4), some (.int a5)], [.int b0], sl, (CH I A N V lt tw sp sr [.inr (0, [.int x0_0])])) =
    some (121, [some (.ref 3), some (.int a1), some (.ref 146), some (.int a3), some (.int a4), some (.int a5)], [], sl, (CH I A N V lt tw sp sr [.inr (0, [.int x0_0])])) :=
  (R_gob [6, 19, 27, 46, 75, 86, 91, 116, 120] 400 _ _ _).trans rfl
set_option maxRecDepth 100000 in
theorem k57_r12_0 (d sl : Nat) (I : Nat → Nat → Int32) (A : Nat → Nat → Int32) (N : Nat → Nat → Int64) (V : Nat → Nat → Option Nat) (lt : Int64) (tw : Option Nat) (sp sr : Nat) (X : List AC) (a1 : Int32) :
  R d 57 (0, [some (.ref 12), some (.int a1), none, none], [], sl, (CH I A N V lt tw sp sr X)) =
    R d 57 (4, [some (.ref 12), some (.int a1), some (.int (nI 0)), some (.int (nI 0))], [], sl, (CH I A N V lt tw sp sr X)) :=
  (R_gob [4] 400 _ _ _).trans rfl
set_option maxRecDepth 100000 in
theorem k57_r12_4 (d sl : Nat) (I : Nat → Nat → Int32) (A : Nat → Nat → Int32) (N : Nat → Nat → Int64) (V : Nat → Nat → Option Nat) (lt : Int64) (tw : Option Nat) (sp sr : Nat) (X : List AC) (a1 : Int32) (a2 : Int32) (a3 : Int32) :
  R d 57 (4, [some (.ref 12), some (.int a1), some (.int a2), some (.int a3)], [], sl, (CH I A N V lt tw sp sr X)) =
    cond (decide ((I 12 9) ≤ a3)) (some (38, [some (.ref 12), some (.int a1), some (.int a2), some (.int a3)], [.int a2], sl, (CH I A N V lt tw sp sr X))) (cond (x_in a3 12) (cond (!decide (((A 17) a3.toNatClampNeg) = a1)) (R d 57 (4, [some (.ref 12), some (.int a1), some (.int a2), some (.int (a3 + (nI 1)))], [], sl, (CH I A N V lt tw sp sr X))) (cond (x_in a3 12) (R d 57 (4, [some (.ref 12), some (.int a1), some (.int (a2 + ((A 19) a3.toNatClampNeg))), some (.int (a3 + (nI 1)))], [], sl, (CH I A N V lt tw sp sr X))) none)) none) :=
  (R_gob [4] 400 _ _ _).trans rfl
set_option maxRecDepth 100000 in
theorem k79_r12_r146_0 (d sl : Nat) (I : Nat → Nat → Int32) (A : Nat → Nat → Int32) (N : Nat → Nat → Int64) (V : Nat → Nat → Option Nat) (lt : Int64) (tw : Option Nat) (sp sr : Nat) (a1 : Int32) (x0_0 : Int32) :
  R (d + 1) 79 (0, [some (.ref 12), some (.int a1), some (.ref 146), none, none, none], [], sl, (CH I A N V lt tw sp sr [.inr (0, [.int x0_0])])) =
    bC (C d 7 [.ref 146, .int (nI 6)] sl (CH I A N V lt tw sp sr [.inr (0, [.int x0_0])])) (fun vs sl h => R (d + 1) 79 (6, [some (.ref 12), some (.int a1), some (.ref 146), none, none, none], vs ++ [], sl, h)) :=
  (R_gob [6, 19, 27, 46, 75, 86, 91, 116, 120] 400 _ _ _).trans rfl
set_option maxRecDepth 100000 in
theorem k79_r12_r146_6 (d sl : Nat) (I : Nat → Nat → Int32) (A : Nat → Nat → Int32) (N : Nat → Nat → Int64) (V : Nat → Nat → Option Nat) (lt : Int64) (tw : Option Nat) (sp sr : Nat) (a1 : Int32) (b0 : Int32) (x0_0 : Int32) :
  R (d + 1) 79 (6, [some (.ref 12), some (.int a1), some (.ref 146), none, none, none], [.int b0], sl, (CH I A N V lt tw sp sr [.inr (0, [.int x0_0])])) =
    cond (!decide (b0 = (nI 0))) (cond (decide (b0 = (nI 1))) (cond (decide ((I 12 9) ≤ (nI 0))) (cond (!decide (b0 = (nI 3))) (some (121, [some (.ref 12), some (.int a1), some (.ref 146), some (.int b0), none, none], [], sl, (CH I A N V lt tw sp sr [.inr (0, [.int x0_0])]))) (cond (decide ((I 12 9) ≤ (nI 0))) (some (121, [some (.ref 12), some (.int a1), some (.ref 146), some (.int b0), none, none], [], sl, (CH I A N V lt tw sp sr [.inr (0, [.int x0_0])]))) (bC (C d 7 [.ref 146, .int (I 12 9)] sl (CH I A N V lt tw sp sr [.inr (0, [.int x0_0])])) (fun vs sl h => R (d + 1) 79 (116, [some (.ref 12), some (.int a1), some (.ref 146), some (.int b0), none, none], vs ++ [.ref 12], sl, h))))) (bC (C d 7 [.ref 146, .int (I 12 9)] sl (CH I A N V lt tw sp sr [.inr (0, [.int x0_0])])) (fun vs sl h => R (d + 1) 79 (75, [some (.ref 12), some (.int a1), some (.ref 146), some (.int b0), none, none], vs ++ [], sl, h)))) (cond (!decide (b0 = (nI 2))) (cond (!decide (b0 = (nI 3))) (some (121, [some (.ref 12), some (.int a1), some (.ref 146), some (.int b0), none, none], [], sl, (CH I A N V lt tw sp sr [.inr (0, [.int x0_0])]))) (cond (decide ((I 12 9) ≤ (nI 0))) (some (121, [some (.ref 12), some (.int a1), some (.ref 146), some (.int b0), none, none], [], sl, (CH I A N V lt tw sp sr [.inr (0, [.int x0_0])]))) (bC (C d 7 [.ref 146, .int (I 12 9)] sl (CH I A N V lt tw sp sr [.inr (0, [.int x0_0])])) (fun vs sl h => R (d + 1) 79 (116, [some (.ref 12), some (.int a1), some (.ref 146), some (.int b0), none, none], vs ++ [.ref 12], sl, h))))) (cond (decide ((I 12 9) ≤ (nI 0))) (cond (!decide (b0 = (nI 3))) (some (121, [some (.ref 12), some (.int a1), some (.ref 146), some (.int b0), none, none], [], sl, (CH I A N V lt tw sp sr [.inr (0, [.int x0_0])]))) (cond (decide ((I 12 9) ≤ (nI 0))) (some (121, [some (.ref 12), some (.int a1), some (.ref 146), some (.int b0), none, none], [], sl, (CH I A N V lt tw sp sr [.inr (0, [.int x0_0])]))) (bC (C d 7 [.ref 146, .int (I 12 9)] sl (CH I A N V lt tw sp sr [.inr (0, [.int x0_0])])) (fun vs sl h => R (d + 1) 79 (116, [some (.ref 12), some (.int a1), some (.ref 146), some (.int b0), none, none], vs ++ [.ref 12], sl, h))))) (bC (C d 7 [.ref 146, .int (I 12 9)] sl (CH I A N V lt tw sp sr [.inr (0, [.int x0_0])])) (fun vs sl h => R (d + 1) 79 (75, [some (.ref 12), some (.int a1), some (.ref 146), some (.int b0), none, none], vs ++ [], sl, h)))))) (bC (C d 7 [.ref 146, .int (I 12 8)] sl (CH I A N V lt tw sp sr [.inr (0, [.int x0_0])])) (fun vs sl h => R (d + 1) 79 (19, [some (.ref 12), some (.int a1), some (.ref 146), some (.int b0), none, none], vs ++ [], sl, h))) :=
  (R_gob [6, 19, 27, 46, 75, 86, 91, 116, 120] 400 _ _ _).trans rfl
set_option maxRecDepth 100000 in
theorem k79_r12_r146_116 (d sl : Nat) (I : Nat → Nat → Int32) (A : Nat → Nat → Int32) (N : Nat → Nat → Int64) (V : Nat → Nat → Option Nat) (lt : Int64) (tw : Option Nat) (sp sr : Nat) (a1 : Int32) (a3 : Int32) (b0 : Int32) (x0_0 : Int32) :
  R (d + 1) 79 (116, [some (.ref 12), some (.int a1), some (.ref 146), some (.int a3), none, none], [.int b0, .ref 12], sl, (CH I A N V lt tw sp sr [.inr (0, [.int x0_0])])) =
    bC (C d 72 [.ref 12, .int b0, .int a1] sl (CH I A N V lt tw sp sr [.inr (0, [.int x0_0])])) (fun vs sl h => R (d + 1) 79 (120, [some (.ref 12), some (.int a1), some (.ref 146), some (.int a3), none, none], vs ++ [], sl, h)) :=
  (R_gob [6, 19, 27, 46, 75, 86, 91, 116, 120] 400 _ _ _).trans rfl
set_option maxRecDepth 100000 in
theorem k79_r12_r146_75 (d sl : Nat) (I : Nat → Nat → Int32) (A : Nat → Nat → Int32) (N : Nat → Nat → Int64) (V : Nat → Nat → Option Nat) (lt : Int64) (tw : Option Nat) (sp sr : Nat) (a1 : Int32) (a3 : Int32) (b0 : Int32) (x0_0 : Int32) :
  R (d + 1) 79 (75, [some (.ref 12), some (.int a1), some (.ref 146), some (.int a3), none, none], [.int b0], sl, (CH I A N V lt tw sp sr [.inr (0, [.int x0_0])])) =
    bC (C d 7 [.ref 146, .int (nI 20)] sl (CH I A N V lt tw sp sr [.inr (0, [.int x0_0])])) (fun vs sl h => R (d + 1) 79 (86, [some (.ref 12), some (.int a1), some (.ref 146), some (.int a3), some (.int b0), none], vs ++ [.int b0, .ref 12], sl, h)) :=
  (R_gob [6, 19, 27, 46, 75, 86, 91, 116, 120] 400 _ _ _).trans rfl
set_option maxRecDepth 100000 in
theorem k79_r12_r146_19 (d sl : Nat) (I : Nat → Nat → Int32) (A : Nat → Nat → Int32) (N : Nat → Nat → Int64) (V : Nat → Nat → Option Nat) (lt : Int64) (tw : Option Nat) (sp sr : Nat) (a1 : Int32) (a3 : Int32) (b0 : Int32) (x0_0 : Int32) :
  R (d + 1) 79 (19, [some (.ref 12), some (.int a1), some (.ref 146), some (.int a3), none, none], [.int b0], sl, (CH I A N V lt tw sp sr [.inr (0, [.int x0_0])])) =
    bC (C d 7 [.ref 146, .int (nI 20)] sl (CH I A N V lt tw sp sr [.inr (0, [.int x0_0])])) (fun vs sl h => R (d + 1) 79 (27, [some (.ref 12), some (.int a1), some (.ref 146), some (.int a3), some (.int b0), none], vs ++ [], sl, h)) :=
  (R_gob [6, 19, 27, 46, 75, 86, 91, 116, 120] 400 _ _ _).trans rfl
set_option maxRecDepth 100000 in
theorem k79_r12_r146_120 (d sl : Nat) (I : Nat → Nat → Int32) (A : Nat → Nat → Int32) (N : Nat → Nat → Int64) (V : Nat → Nat → Option Nat) (lt : Int64) (tw : Option Nat) (sp sr : Nat) (a1 : Int32) (a3 : Int32) (b0 : Int32) (x0_0 : Int32) :
  R (d + 1) 79 (120, [some (.ref 12), some (.int a1), some (.ref 146), some (.int a3), none, none], [.int b0], sl, (CH I A N V lt tw sp sr [.inr (0, [.int x0_0])])) =
    some (121, [some (.ref 12), some (.int a1), some (.ref 146), some (.int a3), none, none], [], sl, (CH I A N V lt tw sp sr [.inr (0, [.int x0_0])])) :=
  (R_gob [6, 19, 27, 46, 75, 86, 91, 116, 120] 400 _ _ _).trans rfl
set_option maxRecDepth 100000 in
theorem k79_r12_r146_86 (d sl : Nat) (I : Nat → Nat → Int32) (A : Nat → Nat → Int32) (N : Nat → Nat → Int64) (V : Nat → Nat → Option Nat) (lt : Int64) (tw : Option Nat) (sp sr : Nat) (a1 : Int32) (a3 : Int32) (a4 : Int32) (b0 : Int32) (b1 : Int32) (x0_0 : Int32) :
  R (d + 1) 79 (86, [some (.ref 12), some (.int a1), some (.ref 146), some (.int a3), some (.int a4), none], [.int b0, .int b1, .ref 12], sl, (CH I A N V lt tw sp sr [.inr (0, [.int x0_0])])) =
    bC (C d 70 [.ref 12, .int b1, .int (b0 + (nI 1))] sl (CH I A N V lt tw sp sr [.inr (0, [.int x0_0])])) (fun vs sl h => R (d + 1) 79 (91, [some (.ref 12), some (.int a1), some (.ref 146), some (.int a3), some (.int a4), none], vs ++ [], sl, h)) :=
  (R_gob [6, 19, 27, 46, 75, 86, 91, 116, 120] 400 _ _ _).trans rfl
set_option maxRecDepth 100000 in
theorem k79_r12_r146_27 (d sl : Nat) (I : Nat → Nat → Int32) (A : Nat → Nat → Int32) (N : Nat → Nat → Int64) (V : Nat → Nat → Option Nat) (lt : Int64) (tw : Option Nat) (sp sr : Nat) (a1 : Int32) (a3 : Int32) (a4 : Int32) (b0 : Int32) (x0_0 : Int32) :
  R (d + 1) 79 (27, [some (.ref 12), some (.int a1), some (.ref 146), some (.int a3), some (.int a4), none], [.int b0], sl, (CH I A N V lt tw sp sr [.inr (0, [.int x0_0])])) =
    cond (decide (a4 = a1)) (some (121, [some (.ref 12), some (.int a1), some (.ref 146), some (.int a3), some (.int a4), some (.int (b0 + (nI 1)))], [], sl, (CH I A N V lt tw sp sr [.inr (0, [.int x0_0])]))) (bC (C d 71 [.ref 12, .int a1, .int a4, .int (b0 + (nI 1))] sl (CH I A N V lt tw sp sr [.inr (0, [.int x0_0])])) (fun vs sl h => R (d + 1) 79 (46, [some (.ref 12), some (.int a1), some (.ref 146), some (.int a3), some (.int a4), some (.int (b0 + (nI 1)))], vs ++ [], sl, h))) :=
  (R_gob [6, 19, 27, 46, 75, 86, 91, 116, 120] 400 _ _ _).trans rfl
set_option maxRecDepth 100000 in
theorem k79_r12_r146_91 (d sl : Nat) (I : Nat → Nat → Int32) (A : Nat → Nat → Int32) (N : Nat → Nat → Int64) (V : Nat → Nat → Option Nat) (lt : Int64) (tw : Option Nat) (sp sr : Nat) (a1 : Int32) (a3 : Int32) (a4 : Int32) (b0 : Int32) (x0_0 : Int32) :
  R (d + 1) 79 (91, [some (.ref 12), some (.int a1), some (.ref 146), some (.int a3), some (.int a4), none], [.int b0], sl, (CH I A N V lt tw sp sr [.inr (0, [.int x0_0])])) =
    some (121, [some (.ref 12), some (.int a1), some (.ref 146), some (.int a3), some (.int a4), none], [], sl, (CH I A N V lt tw sp sr [.inr (0, [.int x0_0])])) :=
  (R_gob [6, 19, 27, 46, 75, 86, 91, 116, 120] 400 _ _ _).trans rfl
set_option maxRecDepth 100000 in
theorem k79_r12_r146_46 (d sl : Nat) (I : Nat → Nat → Int32) (A : Nat → Nat → Int32) (N : Nat → Nat → Int64) (V : Nat → Nat → Option Nat) (lt : Int64) (tw : Option Nat) (sp sr : Nat) (a1 : Int32) (a3 : Int32) (a4 : Int32) (a5 : Int32) (b0 : Int32) (x0_0 : Int32) :
  R (d + 1) 79 (46, [some (.ref 12), some (.int a1), some (.ref 146), some (.int a3), some (.int a4), some (.int a5)], [.int b0], sl, (CH I A N V lt tw sp sr [.inr (0, [.int x0_0])])) =
    some (121, [some (.ref 12), some (.int a1), some (.ref 146), some (.int a3), some (.int a4), some (.int a5)], [], sl, (CH I A N V lt tw sp sr [.inr (0, [.int x0_0])])) :=
  (R_gob [6, 19, 27, 46, 75, 86, 91, 116, 120] 400 _ _ _).trans rfl
set_option maxRecDepth 100000 in
theorem k76_r12_0 (d sl : Nat) (I : Nat → Nat → Int32) (A : Nat → Nat → Int32) (N : Nat → Nat → Int64) (V : Nat → Nat → Option Nat) (lt : Int64) (tw : Option Nat) (sp sr : Nat) (X : List AC)  :
  R d 76 (0, [some (.ref 12)], [], sl, (CH I A N V lt tw sp sr X)) =
    some (12, [some (.ref 12)], [.int (x_max (nI 0) ((nI 400) - (I 12 12)))], sl, (CH I A N V lt tw sp sr X)) :=
  (R_gob [] 400 _ _ _).trans rfl
set_option maxRecDepth 100000 in
theorem k52_r3_0 (d sl : Nat) (I : Nat → Nat → Int32) (A : Nat → Nat → Int32) (N : Nat → Nat → Int64) (V : Nat → Nat → Option Nat) (lt : Int64) (tw : Option Nat) (sp sr : Nat) (X : List AC) (a1 : Int32) (a2 : Int32) :
  R (d + 1) 52 (0, [some (.ref 3), some (.int a1), some (.int a2)], [], sl, (CH I A N V lt tw sp sr X)) =
    cond (x_in a2 12) (bC (C d 51 [.ref 3, .int ((A 8) a2.toNatClampNeg), .int a1] sl (CH I A N V lt tw sp sr X)) (fun vs sl h => R (d + 1) 52 (11, [some (.ref 3), some (.int a1), some (.int a2)], vs ++ [], sl, h))) none :=
  (R_gob [11] 400 _ _ _).trans rfl
set_option maxRecDepth 100000 in
theorem k52_r3_11 (d sl : Nat) (I : Nat → Nat → Int32) (A : Nat → Nat → Int32) (N : Nat → Nat → Int64) (V : Nat → Nat → Option Nat) (lt : Int64) (tw : Option Nat) (sp sr : Nat) (X : List AC) (a1 : Int32) (a2 : Int32) (b0 : Int32) :
  R (d + 1) 52 (11, [some (.ref 3), some (.int a1), some (.int a2)], [.int b0], sl, (CH I A N V lt tw sp sr X)) =
    cond (decide (b0 = (nI 0))) (some (54, [some (.ref 3), some (.int a1), some (.int a2)], [.int (nI 0)], sl, (CH I A N V lt tw sp sr X))) (cond (x_in a1 12) (cond (x_in a2 12) (cond (decide (((A 11) a2.toNatClampNeg) < ((A 11) a1.toNatClampNeg))) (some (54, [some (.ref 3), some (.int a1), some (.int a2)], [.int (nI 1)], sl, (CH I A N V lt tw sp sr X))) (cond (x_in a1 12) (cond (x_in a2 12) (cond (!decide (((A 11) a1.toNatClampNeg) = ((A 11) a2.toNatClampNeg))) (some (54, [some (.ref 3), some (.int a1), some (.int a2)], [.int (nI 0)], sl, (CH I A N V lt tw sp sr X))) (cond (decide (a2 ≤ a1)) (some (54, [some (.ref 3), some (.int a1), some (.int a2)], [.int (nI 0)], sl, (CH I A N V lt tw sp sr X))) (some (54, [some (.ref 3), some (.int a1), some (.int a2)], [.int (nI 1)], sl, (CH I A N V lt tw sp sr X))))) none) none)) none) none) :=
  (R_gob [11] 400 _ _ _).trans rfl
set_option maxRecDepth 100000 in
theorem k69_r3_0 (d sl : Nat) (I : Nat → Nat → Int32) (A : Nat → Nat → Int32) (N : Nat → Nat → Int64) (V : Nat → Nat → Option Nat) (lt : Int64) (tw : Option Nat) (sp sr : Nat) (X : List AC) (a1 : Int32) (a2 : Int32) :
  R (d + 1) 69 (0, [some (.ref 3), some (.int a1), some (.int a2), none, none, none], [], sl, (CH I A N V lt tw sp sr X)) =
    R (d + 1) 69 (5, [some (.ref 3), some (.int a1), some (.int a2), some (.int (-1 : Int32)), some (.int (nI 0)), none], [], sl, (CH I A N V lt tw sp sr X)) :=
  (R_gob [5, 21] 400 _ _ _).trans rfl
set_option maxRecDepth 100000 in
theorem k69_r3_5 (d sl : Nat) (I : Nat → Nat → Int32) (A : Nat → Nat → Int32) (N : Nat → Nat → Int64) (V : Nat → Nat → Option Nat) (lt : Int64) (tw : Option Nat) (sp sr : Nat) (X : List AC) (a1 : Int32) (a2 : Int32) (a3 : Int32) (a4 : Int32) :
  R (d + 1) 69 (5, [some (.ref 3), some (.int a1), some (.int a2), some (.int a3), some (.int a4), none], [], sl, (CH I A N V lt tw sp sr X)) =
    cond (decide ((I 3 9) ≤ a4)) (some (76, [some (.ref 3), some (.int a1), some (.int a2), some (.int a3), some (.int a4), none], [.int a3], sl, (CH I A N V lt tw sp sr X))) (bC (C d 51 [.ref 3, .int a1, .int a4] sl (CH I A N V lt tw sp sr X)) (fun vs sl h => R (d + 1) 69 (21, [some (.ref 3), some (.int a1), some (.int a2), some (.int a3), some (.int a4), none], vs ++ [], sl, h))) :=
  (R_gob [5, 21] 400 _ _ _).trans rfl
set_option maxRecDepth 100000 in
theorem k69_r3_21 (d sl : Nat) (I : Nat → Nat → Int32) (A : Nat → Nat → Int32) (N : Nat → Nat → Int64) (V : Nat → Nat → Option Nat) (lt : Int64) (tw : Option Nat) (sp sr : Nat) (X : List AC) (a1 : Int32) (a2 : Int32) (a3 : Int32) (a4 : Int32) (b0 : Int32) :
  R (d + 1) 69 (21, [some (.ref 3), some (.int a1), some (.int a2), some (.int a3), some (.int a4), none], [.int b0], sl, (CH I A N V lt tw sp sr X)) =
    cond (decide (b0 = (nI 0))) (cond (decide ((nI 0) = (nI 0))) (R (d + 1) 69 (5, [some (.ref 3), some (.int a1), some (.int a2), some (.int a3), some (.int (a4 + (nI 1))), some (.int (nI 0))], [], sl, (CH I A N V lt tw sp sr X))) (cond (decide (a3 = (-1 : Int32))) (R (d + 1) 69 (5, [some (.ref 3), some (.int a1), some (.int a2), some (.int a4), some (.int (a4 + (nI 1))), some (.int (nI 0))], [], sl, (CH I A N V lt tw sp sr X))) (cond (x_in a4 12) (cond (x_in a3 12) (cond (decide (((A 10) a3.toNatClampNeg) ≤ ((A 10) a4.toNatClampNeg))) (R (d + 1) 69 (5, [some (.ref 3), some (.int a1), some (.int a2), some (.int a3), some (.int (a4 + (nI 1))), some (.int (nI 0))], [], sl, (CH I A N V lt tw sp sr X))) (R (d + 1) 69 (5, [some (.ref 3), some (.int a1), some (.int a2), some (.int a4), some (.int (a4 + (nI 1))), some (.int (nI 0))], [], sl, (CH I A N V lt tw sp sr X)))) none) none))) (cond (!decide (((a2 >>> (a4 &&& nI 31)) &&& (nI 1)) = (nI 0))) (cond (decide ((nI 0) = (nI 0))) (R (d + 1) 69 (5, [some (.ref 3), some (.int a1), some (.int a2), some (.int a3), some (.int (a4 + (nI 1))), some (.int (nI 0))], [], sl, (CH I A N V lt tw sp sr X))) (cond (decide (a3 = (-1 : Int32))) (R (d + 1) 69 (5, [some (.ref 3), some (.int a1), some (.int a2), some (.int a4), some (.int (a4 + (nI 1))), some (.int (nI 0))], [], sl, (CH I A N V lt tw sp sr X))) (cond (x_in a4 12) (cond (x_in a3 12) (cond (decide (((A 10) a3.toNatClampNeg) ≤ ((A 10) a4.toNatClampNeg))) (R (d + 1) 69 (5, [some (.ref 3), some (.int a1), some (.int a2), some (.int a3), some (.int (a4 + (nI 1))), some (.int (nI 0))], [], sl, (CH I A N V lt tw sp sr X))) (R (d + 1) 69 (5, [some (.ref 3), some (.int a1), some (.int a2), some (.int a4), some (.int (a4 + (nI 1))), some (.int (nI 0))], [], sl, (CH I A N V lt tw sp sr X)))) none) none))) (cond (decide ((nI 1) = (nI 0))) (R (d + 1) 69 (5, [some (.ref 3), some (.int a1), some (.int a2), some (.int a3), some (.int (a4 + (nI 1))), some (.int (nI 1))], [], sl, (CH I A N V lt tw sp sr X))) (cond (decide (a3 = (-1 : Int32))) (R (d + 1) 69 (5, [some (.ref 3), some (.int a1), some (.int a2), some (.int a4), some (.int (a4 + (nI 1))), some (.int (nI 1))], [], sl, (CH I A N V lt tw sp sr X))) (cond (x_in a4 12) (cond (x_in a3 12) (cond (decide (((A 10) a3.toNatClampNeg) ≤ ((A 10) a4.toNatClampNeg))) (R (d + 1) 69 (5, [some (.ref 3), some (.int a1), some (.int a2), some (.int a3), some (.int (a4 + (nI 1))), some (.int (nI 1))], [], sl, (CH I A N V lt tw sp sr X))) (R (d + 1) 69 (5, [some (.ref 3), some (.int a1), some (.int a2), some (.int a4), some (.int (a4 + (nI 1))), some (.int (nI 1))], [], sl, (CH I A N V lt tw sp sr X)))) none) none)))) :=
  (R_gob [5, 21] 400 _ _ _).trans rfl
set_option maxRecDepth 100000 in
theorem k69_r3_5_1 (d sl : Nat) (I : Nat → Nat → Int32) (A : Nat → Nat → Int32) (N : Nat → Nat → Int64) (V : Nat → Nat → Option Nat) (lt : Int64) (tw : Option Nat) (sp sr : Nat) (X : List AC) (a1 : Int32) (a2 : Int32) (a3 : Int32) (a4 : Int32) (a5 : Int32) :
  R (d + 1) 69 (5, [some (.ref 3), some (.int a1), some (.int a2), some (.int a3), some (.int a4), some (.int a5)], [], sl, (CH I A N V lt tw sp sr X)) =
    cond (decide ((I 3 9) ≤ a4)) (some (76, [some (.ref 3), some (.int a1), some (.int a2), some (.int a3), some (.int a4), some (.int a5)], [.int a3], sl, (CH I A N V lt tw sp sr X))) (bC (C d 51 [.ref 3, .int a1, .int a4] sl (CH I A N V lt tw sp sr X)) (fun vs sl h => R (d + 1) 69 (21, [some (.ref 3), some (.int a1), some (.int a2), some (.int a3), some (.int a4), some (.int a5)], vs ++ [], sl, h))) :=
  (R_gob [5, 21] 400 _ _ _).trans rfl
set_option maxRecDepth 100000 in
theorem k69_r3_21_1 (d sl : Nat) (I : Nat → Nat → Int32) (A : Nat → Nat → Int32) (N : Nat → Nat → Int64) (V : Nat → Nat → Option Nat) (lt : Int64) (tw : Option Nat) (sp sr : Nat) (X : List AC) (a1 : Int32) (a2 : Int32) (a3 : Int32) (a4 : Int32) (a5 : Int32) (b0 : Int32) :
  R (d + 1) 69 (21, [some (.ref 3), some (.int a1), some (.int a2), some (.int a3), some (.int a4), some (.int a5)], [.int b0], sl, (CH I A N V lt tw sp sr X)) =
    cond (decide (b0 = (nI 0))) (cond (decide ((nI 0) = (nI 0))) (R (d + 1) 69 (5, [some (.ref 3), some (.int a1), some (.int a2), some (.int a3), some (.int (a4 + (nI 1))), some (.int (nI 0))], [], sl, (CH I A N V lt tw sp sr X))) (cond (decide (a3 = (-1 : Int32))) (R (d + 1) 69 (5, [some (.ref 3), some (.int a1), some (.int a2), some (.int a4), some (.int (a4 + (nI 1))), some (.int (nI 0))], [], sl, (CH I A N V lt tw sp sr X))) (cond (x_in a4 12) (cond (x_in a3 12) (cond (decide (((A 10) a3.toNatClampNeg) ≤ ((A 10) a4.toNatClampNeg))) (R (d + 1) 69 (5, [some (.ref 3), some (.int a1), some (.int a2), some (.int a3), some (.int (a4 + (nI 1))), some (.int (nI 0))], [], sl, (CH I A N V lt tw sp sr X))) (R (d + 1) 69 (5, [some (.ref 3), some (.int a1), some (.int a2), some (.int a4), some (.int (a4 + (nI 1))), some (.int (nI 0))], [], sl, (CH I A N V lt tw sp sr X)))) none) none))) (cond (!decide (((a2 >>> (a4 &&& nI 31)) &&& (nI 1)) = (nI 0))) (cond (decide ((nI 0) = (nI 0))) (R (d + 1) 69 (5, [some (.ref 3), some (.int a1), some (.int a2), some (.int a3), some (.int (a4 + (nI 1))), some (.int (nI 0))], [], sl, (CH I A N V lt tw sp sr X))) (cond (decide (a3 = (-1 : Int32))) (R (d + 1) 69 (5, [some (.ref 3), some (.int a1), some (.int a2), some (.int a4), some (.int (a4 + (nI 1))), some (.int (nI 0))], [], sl, (CH I A N V lt tw sp sr X))) (cond (x_in a4 12) (cond (x_in a3 12) (cond (decide (((A 10) a3.toNatClampNeg) ≤ ((A 10) a4.toNatClampNeg))) (R (d + 1) 69 (5, [some (.ref 3), some (.int a1), some (.int a2), some (.int a3), some (.int (a4 + (nI 1))), some (.int (nI 0))], [], sl, (CH I A N V lt tw sp sr X))) (R (d + 1) 69 (5, [some (.ref 3), some (.int a1), some (.int a2), some (.int a4), some (.int (a4 + (nI 1))), some (.int (nI 0))], [], sl, (CH I A N V lt tw sp sr X)))) none) none))) (cond (decide ((nI 1) = (nI 0))) (R (d + 1) 69 (5, [some (.ref 3), some (.int a1), some (.int a2), some (.int a3), some (.int (a4 + (nI 1))), some (.int (nI 1))], [], sl, (CH I A N V lt tw sp sr X))) (cond (decide (a3 = (-1 : Int32))) (R (d + 1) 69 (5, [some (.ref 3), some (.int a1), some (.int a2), some (.int a4), some (.int (a4 + (nI 1))), some (.int (nI 1))], [], sl, (CH I A N V lt tw sp sr X))) (cond (x_in a4 12) (cond (x_in a3 12) (cond (decide (((A 10) a3.toNatClampNeg) ≤ ((A 10) a4.toNatClampNeg))) (R (d + 1) 69 (5, [some (.ref 3), some (.int a1), some (.int a2), some (.int a3), some (.int (a4 + (nI 1))), some (.int (nI 1))], [], sl, (CH I A N V lt tw sp sr X))) (R (d + 1) 69 (5, [some (.ref 3), some (.int a1), some (.int a2), some (.int a4), some (.int (a4 + (nI 1))), some (.int (nI 1))], [], sl, (CH I A N V lt tw sp sr X)))) none) none)))) :=
  (R_gob [5, 21] 400 _ _ _).trans rfl
set_option maxRecDepth 100000 in
theorem k111_r95_r3_0 (d sl : Nat) (I : Nat → Nat → Int32) (A : Nat → Nat → Int32) (N : Nat → Nat → Int64) (V : Nat → Nat → Option Nat) (lt : Int64) (tw : Option Nat) (sp sr : Nat) (X : List AC) (a2 : Int32) (a3 : Int32) :
  R d 111 (0, [some (.ref 95), some (.ref 3), some (.int a2), some (.int a3), none], [], sl, (CH I A N V lt tw sp sr X)) =
    R d 111 (3, [some (.ref 95), some (.ref 3), some (.int a2), some (.int a3), some (.int (nI 0))], [], sl, (CH I A N V lt tw sp sr X)) :=
  (R_gob [3] 400 _ _ _).trans rfl
set_option maxRecDepth 100000 in
theorem k111_r95_r3_3 (d sl : Nat) (I : Nat → Nat → Int32) (A : Nat → Nat → Int32) (N : Nat → Nat → Int64) (V : Nat → Nat → Option Nat) (lt : Int64) (tw : Option Nat) (sp sr : Nat) (X : List AC) (a2 : Int32) (a3 : Int32) (a4 : Int32) :
  R d 111 (3, [some (.ref 95), some (.ref 3), some (.int a2), some (.int a3), some (.int a4)], [], sl, (CH I A N V lt tw sp sr X)) =
    cond (decide ((I 3 8) ≤ a4)) (some (48, [some (.ref 95), some (.ref 3), some (.int a2), some (.int a3), some (.int a4)], [.int a2], sl, (CH I A N V lt tw sp sr X))) (cond (x_in a2 6) (cond (!decide (((((A 96) a2.toNatClampNeg) >>> (a4 &&& nI 31)) &&& (nI 1)) = (nI 1))) (R d 111 (3, [some (.ref 95), some (.ref 3), some (.int a2), some (.int a3), some (.int (a4 + (nI 1)))], [], sl, (CH I A N V lt tw sp sr X))) (cond (x_in a4 6) (cond (!decide (((A 97) a4.toNatClampNeg) = a3)) (R d 111 (3, [some (.ref 95), some (.ref 3), some (.int a2), some (.int a3), some (.int (a4 + (nI 1)))], [], sl, (CH I A N V lt tw sp sr X))) (some (40, [some (.ref 95), some (.ref 3), some (.int a2), some (.int a3), some (.int a4)], [.int a4], sl, (CH I A N V lt tw sp sr X)))) none)) none) :=
  (R_gob [3] 400 _ _ _).trans rfl
set_option maxRecDepth 100000 in
theorem k113_r95_0 (d sl : Nat) (I : Nat → Nat → Int32) (A : Nat → Nat → Int32) (N : Nat → Nat → Int64) (V : Nat → Nat → Option Nat) (lt : Int64) (tw : Option Nat) (sp sr : Nat) (X : List AC) (a1 : Int32) :
  R d 113 (0, [some (.ref 95), some (.int a1), none, none], [], sl, (CH I A N V lt tw sp sr X)) =
    R d 113 (4, [some (.ref 95), some (.int a1), some (.int (nI 0)), some (.int (nI 0))], [], sl, (CH I A N V lt tw sp sr X)) :=
  (R_gob [4] 400 _ _ _).trans rfl
set_option maxRecDepth 100000 in
theorem k113_r95_4 (d sl : Nat) (I : Nat → Nat → Int32) (A : Nat → Nat → Int32) (N : Nat → Nat → Int64) (V : Nat → Nat → Option Nat) (lt : Int64) (tw : Option Nat) (sp sr : Nat) (X : List AC) (a1 : Int32) (a2 : Int32) (a3 : Int32) :
  R d 113 (4, [some (.ref 95), some (.int a1), some (.int a2), some (.int a3)], [], sl, (CH I A N V lt tw sp sr X)) =
    cond (decide ((nI 6) ≤ a3)) (some (41, [some (.ref 95), some (.int a1), some (.int a2), some (.int a3)], [.int a2], sl, (CH I A N V lt tw sp sr X))) (cond (!decide (((a1 >>> (a3 &&& nI 31)) &&& (nI 1)) = (nI 1))) (R d 113 (4, [some (.ref 95), some (.int a1), some (.int a2), some (.int (a3 + (nI 1)))], [], sl, (CH I A N V lt tw sp sr X))) (cond (x_in (a1 - ((nI 1) <<< (a3 &&& nI 31))) 64) (R d 113 (4, [some (.ref 95), some (.int a1), some (.int (x_max a2 ((A 100) (a1 - ((nI 1) <<< (a3 &&& nI 31))).toNatClampNeg))), some (.int (a3 + (nI 1)))], [], sl, (CH I A N V lt tw sp sr X))) none)) :=
  (R_gob [4] 400 _ _ _).trans rfl
set_option maxRecDepth 100000 in
theorem k151_0 (d sl : Nat) (I : Nat → Nat → Int32) (A : Nat → Nat → Int32) (N : Nat → Nat → Int64) (V : Nat → Nat → Option Nat) (lt : Int64) (tw : Option Nat) (sp sr : Nat) (X : List AC) (a1 : Int32) (a2 : Int32) :
  R (d + 1) 151 (0, [some (.ref 0), some (.int a1), some (.int a2), none, none, none, none, none], [], sl, (CH I A N V lt tw sp sr X)) =
    R (d + 1) 151 (5, [some (.ref 0), some (.int a1), some (.int a2), some (.int (nI 0)), some (.int (nI 0)), none, none, none], [], sl, (CH I A N V lt tw sp sr X)) :=
  (R_gob [5, 42, 58, 70] 400 _ _ _).trans rfl
set_option maxRecDepth 100000 in
theorem k151_5 (d sl : Nat) (I : Nat → Nat → Int32) (A : Nat → Nat → Int32) (N : Nat → Nat → Int64) (V : Nat → Nat → Option Nat) (lt : Int64) (tw : Option Nat) (sp sr : Nat) (X : List AC) (a1 : Int32) (a2 : Int32) (a3 : Int32) (a4 : Int32) :
  R (d + 1) 151 (5, [some (.ref 0), some (.int a1), some (.int a2), some (.int a3), some (.int a4), none, none, none], [], sl, (CH I A N V lt tw sp sr X)) =
    cond (decide ((I 3 9) ≤ a4)) (R (d + 1) 151 (58, [some (.ref 0), some (.int a1), some (.int a2), some (.int a3), some (.int (nI 0)), some (.int (nI 0)), none, none], [], sl, (CH I A N V lt tw sp sr X))) (cond (!decide (((a1 >>> (a4 &&& nI 31)) &&& (nI 1)) = (nI 1))) (R (d + 1) 151 (5, [some (.ref 0), some (.int a1), some (.int a2), some (.int a3), some (.int (a4 + (nI 1))), none, none, none], [], sl, (CH I A N V lt tw sp sr X))) (bC (C d 56 [.ref 3, .int a4, .int a2] sl (CH I A N V lt tw sp sr X)) (fun vs sl h => R (d + 1) 151 (42, [some (.ref 0), some (.int a1), some (.int a2), some (.int a3), some (.int a4), none, none, none], vs ++ [.int a3, .ref 119], sl, h)))) :=
  (R_gob [5, 42, 58, 70] 400 _ _ _).trans rfl
set_option maxRecDepth 100000 in
theorem k151_58 (d sl : Nat) (I : Nat → Nat → Int32) (A : Nat → Nat → Int32) (N : Nat → Nat → Int64) (V : Nat → Nat → Option Nat) (lt : Int64) (tw : Option Nat) (sp sr : Nat) (X : List AC) (a1 : Int32) (a2 : Int32) (a3 : Int32) (a4 : Int32) (a5 : Int32) :
  R (d + 1) 151 (58, [some (.ref 0), some (.int a1), some (.int a2), some (.int a3), some (.int a4), some (.int a5), none, none], [], sl, (CH I A N V lt tw sp sr X)) =
    cond (decide (a3 ≤ a5)) (some (119, [some (.ref 0), some (.int a1), some (.int a2), some (.int a3), some (.int a4), some (.int a5), none, none], [.int a4], sl, (CH I A N V lt tw sp sr X))) (R (d + 1) 151 (70, [some (.ref 0), some (.int a1), some (.int a2), some (.int a3), some (.int a4), some (.int a5), some (.int (nI 0)), some (.int (nI 0))], [], sl, (CH I A N V lt tw sp sr X))) :=
  (R_gob [5, 42, 58, 70] 400 _ _ _).trans rfl
set_option maxRecDepth 100000 in
theorem k151_42 (d sl : Nat) (I : Nat → Nat → Int32) (A : Nat → Nat → Int32) (N : Nat → Nat → Int64) (V : Nat → Nat → Option Nat) (lt : Int64) (tw : Option Nat) (sp sr : Nat) (X : List AC) (a1 : Int32) (a2 : Int32) (a3 : Int32) (a4 : Int32) (b0 : Int32) (b1 : Int32) :
  R (d + 1) 151 (42, [some (.ref 0), some (.int a1), some (.int a2), some (.int a3), some (.int a4), none, none, none], [.int b0, .int b1, .ref 119], sl, (CH I A N V lt tw sp sr X)) =
    cond (x_in b1 12) (R (d + 1) 151 (5, [some (.ref 0), some (.int a1), some (.int a2), some (.int (a3 + (nI 1))), some (.int (a4 + (nI 1))), none, none, none], [], sl, (CH I (up1 A 119 (upd (A 119) b1.toNatClampNeg b0)) N V lt tw sp sr X))) none :=
  (R_gob [5, 42, 58, 70] 400 _ _ _).trans rfl
set_option maxRecDepth 100000 in
theorem k151_70 (d sl : Nat) (I : Nat → Nat → Int32) (A : Nat → Nat → Int32) (N : Nat → Nat → Int64) (V : Nat → Nat → Option Nat) (lt : Int64) (tw : Option Nat) (sp sr : Nat) (X : List AC) (a1 : Int32) (a2 : Int32) (a3 : Int32) (a4 : Int32) (a5 : Int32) (a6 : Int32) (a7 : Int32) :
  R (d + 1) 151 (70, [some (.ref 0), some (.int a1), some (.int a2), some (.int a3), some (.int a4), some (.int a5), some (.int a6), some (.int a7)], [], sl, (CH I A N V lt tw sp sr X)) =
    cond (decide (a3 ≤ a7)) (R (d + 1) 151 (58, [some (.ref 0), some (.int a1), some (.int a2), some (.int a3), some (.int (x_max a4 a6)), some (.int (a5 + (nI 1))), some (.int a6), some (.int a7)], [], sl, (CH I A N V lt tw sp sr X))) (cond (x_in a7 12) (cond (x_in a5 12) (cond (!decide (((A 119) a7.toNatClampNeg) = ((A 119) a5.toNatClampNeg))) (R (d + 1) 151 (70, [some (.ref 0), some (.int a1), some (.int a2), some (.int a3), some (.int a4), some (.int a5), some (.int a6), some (.int (a7 + (nI 1)))], [], sl, (CH I A N V lt tw sp sr X))) (R (d + 1) 151 (70, [some (.ref 0), some (.int a1), some (.int a2), some (.int a3), some (.int a4), some (.int a5), some (.int (a6 + (nI 1))), some (.int (a7 + (nI 1)))], [], sl, (CH I A N V lt tw sp sr X)))) none) none) :=
  (R_gob [5, 42, 58, 70] 400 _ _ _).trans rfl
set_option maxRecDepth 100000 in
theorem k151_58_1 (d sl : Nat) (I : Nat → Nat → Int32) (A : Nat → Nat → Int32) (N : Nat → Nat → Int64) (V : Nat → Nat → Option Nat) (lt : Int64) (tw : Option Nat) (sp sr : Nat) (X : List AC) (a1 : Int32) (a2 : Int32) (a3 : Int32) (a4 : Int32) (a5 : Int32) (a6 : Int32) (a7 : Int32) :
  R (d + 1) 151 (58, [some (.ref 0), some (.int a1), some (.int a2), some (.int a3), some (.int a4), some (.int a5), some (.int a6), some (.int a7)], [], sl, (CH I A N V lt tw sp sr X)) =
    cond (decide (a3 ≤ a5)) (some (119, [some (.ref 0), some (.int a1), some (.int a2), some (.int a3), some (.int a4), some (.int a5), some (.int a6), some (.int a7)], [.int a4], sl, (CH I A N V lt tw sp sr X))) (R (d + 1) 151 (70, [some (.ref 0), some (.int a1), some (.int a2), some (.int a3), some (.int a4), some (.int a5), some (.int (nI 0)), some (.int (nI 0))], [], sl, (CH I A N V lt tw sp sr X))) :=
  (R_gob [5, 42, 58, 70] 400 _ _ _).trans rfl
set_option maxRecDepth 100000 in
theorem k88_r1_0 (d sl : Nat) (I : Nat → Nat → Int32) (A : Nat → Nat → Int32) (N : Nat → Nat → Int64) (V : Nat → Nat → Option Nat) (lt : Int64) (tw : Option Nat) (sp sr : Nat) (X : List AC) (a1 : Int32) :
  R d 88 (0, [some (.ref 1), some (.int a1)], [], sl, (CH I A N V lt tw sp sr X)) =
    cond (decide (a1 < (nI 0))) (some (26, [some (.ref 1), some (.int a1)], [.int (-1 : Int32)], sl, (CH I A N V lt tw sp sr X))) (cond (decide ((I 1 1) ≤ a1)) (some (26, [some (.ref 1), some (.int a1)], [.int (-1 : Int32)], sl, (CH I A N V lt tw sp sr X))) (cond (x_in a1 940) (some (26, [some (.ref 1), some (.int a1)], [.int (((A 2) a1.toNatClampNeg) &&& (nI 255))], sl, (CH I A N V lt tw sp sr X))) none)) :=
  (R_gob [] 400 _ _ _).trans rfl
set_option maxRecDepth 100000 in
theorem k149_0 (d sl : Nat) (I : Nat → Nat → Int32) (A : Nat → Nat → Int32) (N : Nat → Nat → Int64) (V : Nat → Nat → Option Nat) (lt : Int64) (tw : Option Nat) (sp sr : Nat) (X : List AC) (a1 : Int32) (a2 : Int32) :
  R (d + 1) 149 (0, [some (.ref 0), some (.int a1), some (.int a2), none, none], [], sl, (CH I A N V lt tw sp sr X)) =
    R (d + 1) 149 (5, [some (.ref 0), some (.int a1), some (.int a2), some (.int (nI 0)), some (.int (nI 0))], [], sl, (CH I A N V lt tw sp sr X)) :=
  (R_gob [5, 27] 400 _ _ _).trans rfl
set_option maxRecDepth 100000 in
theorem k149_5 (d sl : Nat) (I : Nat → Nat → Int32) (A : Nat → Nat → Int32) (N : Nat → Nat → Int64) (V : Nat → Nat → Option Nat) (lt : Int64) (tw : Option Nat) (sp sr : Nat) (X : List AC) (a1 : Int32) (a2 : Int32) (a3 : Int32) (a4 : Int32) :
  R (d + 1) 149 (5, [some (.ref 0), some (.int a1), some (.int a2), some (.int a3), some (.int a4)], [], sl, (CH I A N V lt tw sp sr X)) =
    cond (decide ((I 3 9) ≤ a4)) (some (45, [some (.ref 0), some (.int a1), some (.int a2), some (.int a3), some (.int a4)], [.int a3], sl, (CH I A N V lt tw sp sr X))) (bC (C d 56 [.ref 3, .int a4, .int a1] sl (CH I A N V lt tw sp sr X)) (fun vs sl h => R (d + 1) 149 (27, [some (.ref 0), some (.int a1), some (.int a2), some (.int a3), some (.int a4)], vs ++ [], sl, h))) :=
  (R_gob [5, 27] 400 _ _ _).trans rfl
set_option maxRecDepth 100000 in
theorem k149_27 (d sl : Nat) (I : Nat → Nat → Int32) (A : Nat → Nat → Int32) (N : Nat → Nat → Int64) (V : Nat → Nat → Option Nat) (lt : Int64) (tw : Option Nat) (sp sr : Nat) (X : List AC) (a1 : Int32) (a2 : Int32) (a3 : Int32) (a4 : Int32) (b0 : Int32) :
  R (d + 1) 149 (27, [some (.ref 0), some (.int a1), some (.int a2), some (.int a3), some (.int a4)], [.int b0], sl, (CH I A N V lt tw sp sr X)) =
    cond (!decide (b0 = a2)) (R (d + 1) 149 (5, [some (.ref 0), some (.int a1), some (.int a2), some (.int a3), some (.int (a4 + (nI 1)))], [], sl, (CH I A N V lt tw sp sr X))) (R (d + 1) 149 (5, [some (.ref 0), some (.int a1), some (.int a2), some (.int (a3 ||| ((nI 1) <<< (a4 &&& nI 31)))), some (.int (a4 + (nI 1)))], [], sl, (CH I A N V lt tw sp sr X))) :=
  (R_gob [5, 27] 400 _ _ _).trans rfl
set_option maxRecDepth 100000 in
theorem k25_r106_0 (d sl : Nat) (I : Nat → Nat → Int32) (A : Nat → Nat → Int32) (N : Nat → Nat → Int64) (V : Nat → Nat → Option Nat) (lt : Int64) (tw : Option Nat) (sp sr : Nat) (X : List AC) (a1 : Int32) :
  R (d + 1) 25 (0, [some (.ref 106), some (.int a1), none], [], sl, (CH I A N V lt tw sp sr X)) =
    R (d + 1) 25 (4, [some (.ref 106), some (.int a1), some (.int (nI 1000))], [], sl, (CH I A N V lt tw sp sr X)) :=
  (R_gob [4, 31] 400 _ _ _).trans rfl
set_option maxRecDepth 100000 in
theorem k25_r106_4 (d sl : Nat) (I : Nat → Nat → Int32) (A : Nat → Nat → Int32) (N : Nat → Nat → Int64) (V : Nat → Nat → Option Nat) (lt : Int64) (tw : Option Nat) (sp sr : Nat) (X : List AC) (a1 : Int32) (a2 : Int32) :
  R (d + 1) 25 (4, [some (.ref 106), some (.int a1), some (.int a2)], [], sl, (CH I A N V lt tw sp sr X)) =
    cond (decide (a2 ≤ (nI 0))) (some (39, [some (.ref 106), some (.int a1), some (.int a2)], [], sl, (CH I A N V lt tw sp sr X))) (cond (decide (a2 ≤ a1)) (cond (!decide (a2 = (nI 0))) (bC (C d 22 [.ref 106, .int ((nI 48) + ((a1 / a2) - (a1 / a2) / (nI 10) * (nI 10)))] sl (CH I A N V lt tw sp sr X)) (fun vs sl h => R (d + 1) 25 (31, [some (.ref 106), some (.int a1), some (.int a2)], vs ++ [], sl, h))) none) (cond (!decide (a2 = (nI 1))) (R (d + 1) 25 (31, [some (.ref 106), some (.int a1), some (.int a2)], [], sl, (CH I A N V lt tw sp sr X))) (cond (!decide (a2 = (nI 0))) (bC (C d 22 [.ref 106, .int ((nI 48) + ((a1 / a2) - (a1 / a2) / (nI 10) * (nI 10)))] sl (CH I A N V lt tw sp sr X)) (fun vs sl h => R (d + 1) 25 (31, [some (.ref 106), some (.int a1), some (.int a2)], vs ++ [], sl, h))) none))) :=
  (R_gob [4, 31] 400 _ _ _).trans rfl
set_option maxRecDepth 100000 in
theorem k25_r106_31 (d sl : Nat) (I : Nat → Nat → Int32) (A : Nat → Nat → Int32) (N : Nat → Nat → Int64) (V : Nat → Nat → Option Nat) (lt : Int64) (tw : Option Nat) (sp sr : Nat) (X : List AC) (a1 : Int32) (a2 : Int32) :
  R (d + 1) 25 (31, [some (.ref 106), some (.int a1), some (.int a2)], [], sl, (CH I A N V lt tw sp sr X)) =
    R (d + 1) 25 (4, [some (.ref 106), some (.int a1), some (.int (a2 / (nI 10)))], [], sl, (CH I A N V lt tw sp sr X)) :=
  (R_gob [4, 31] 400 _ _ _).trans rfl
set_option maxRecDepth 100000 in
theorem k23_r106_r1000201_0 (d sl : Nat) (I : Nat → Nat → Int32) (A : Nat → Nat → Int32) (N : Nat → Nat → Int64) (V : Nat → Nat → Option Nat) (lt : Int64) (tw : Option Nat) (sp sr : Nat) (X : List AC)  :
  R (d + 1) 23 (0, [some (.ref 106), some (.ref 1000201), none], [], sl, (CH I A N V lt tw sp sr X)) =
    R (d + 1) 23 (2, [some (.ref 106), some (.ref 1000201), some (.int (nI 0))], [], sl, (CH I A N V lt tw sp sr X)) :=
  (R_gob [2, 19] 400 _ _ _).trans rfl
set_option maxRecDepth 100000 in
theorem k23_r106_r1000201_2 (d sl : Nat) (I : Nat → Nat → Int32) (A : Nat → Nat → Int32) (N : Nat → Nat → Int64) (V : Nat → Nat → Option Nat) (lt : Int64) (tw : Option Nat) (sp sr : Nat) (X : List AC) (a2 : Int32) :
  R (d + 1) 23 (2, [some (.ref 106), some (.ref 1000201), some (.int a2)], [], sl, (CH I A N V lt tw sp sr X)) =
    cond (decide ((nI (x_str (1000201 - 1000200)).length) ≤ a2)) (some (25, [some (.ref 106), some (.ref 1000201), some (.int a2)], [], sl, (CH I A N V lt tw sp sr X))) (cond (x_in a2 (x_str (1000201 - 1000200)).length) (bC (C d 22 [.ref 106, .int ((x_str (1000201 - 1000200)).getD a2.toNatClampNeg 0)] sl (CH I A N V lt tw sp sr X)) (fun vs sl h => R (d + 1) 23 (19, [some (.ref 106), some (.ref 1000201), some (.int a2)], vs ++ [], sl, h))) none) :=
  (R_gob [2, 19] 400 _ _ _).trans rfl
set_option maxRecDepth 100000 in
theorem k23_r106_r1000201_19 (d sl : Nat) (I : Nat → Nat → Int32) (A : Nat → Nat → Int32) (N : Nat → Nat → Int64) (V : Nat → Nat → Option Nat) (lt : Int64) (tw : Option Nat) (sp sr : Nat) (X : List AC) (a2 : Int32) :
  R (d + 1) 23 (19, [some (.ref 106), some (.ref 1000201), some (.int a2)], [], sl, (CH I A N V lt tw sp sr X)) =
    R (d + 1) 23 (2, [some (.ref 106), some (.ref 1000201), some (.int (a2 + (nI 1)))], [], sl, (CH I A N V lt tw sp sr X)) :=
  (R_gob [2, 19] 400 _ _ _).trans rfl
set_option maxRecDepth 100000 in
theorem k24_r106_0 (d sl : Nat) (I : Nat → Nat → Int32) (A : Nat → Nat → Int32) (N : Nat → Nat → Int64) (V : Nat → Nat → Option Nat) (lt : Int64) (tw : Option Nat) (sp sr : Nat) (X : List AC) (a1 : Int64) :
  R (d + 1) 24 (0, [some (.ref 106), some (.long a1), none, none, none], [], sl, (CH I A N V lt tw sp sr X)) =
    R (d + 1) 24 (3, [some (.ref 106), some (.long a1), none, some (.int (nI 48)), none], [], sl, (CH I A N V lt tw sp sr X)) :=
  (R_gob [3, 28] 400 _ _ _).trans rfl
set_option maxRecDepth 100000 in
theorem k24_r106_3 (d sl : Nat) (I : Nat → Nat → Int32) (A : Nat → Nat → Int32) (N : Nat → Nat → Int64) (V : Nat → Nat → Option Nat) (lt : Int64) (tw : Option Nat) (sp sr : Nat) (X : List AC) (a1 : Int64) (a3 : Int32) :
  R (d + 1) 24 (3, [some (.ref 106), some (.long a1), none, some (.int a3), none], [], sl, (CH I A N V lt tw sp sr X)) =
    cond (decide (a3 < (nI 0))) (some (34, [some (.ref 106), some (.long a1), none, some (.int a3), none], [], sl, (CH I A N V lt tw sp sr X))) (cond (decide ((((a1.toUInt64 >>> (a3.toInt64.toUInt64 &&& Int64.toUInt64 63)).toInt64) &&& (nI 255).toInt64).toInt32 = (nI 0))) (R (d + 1) 24 (28, [some (.ref 106), some (.long a1), none, some (.int a3), some (.int (((a1.toUInt64 >>> (a3.toInt64.toUInt64 &&& Int64.toUInt64 63)).toInt64) &&& (nI 255).toInt64).toInt32)], [], sl, (CH I A N V lt tw sp sr X))) (bC (C d 22 [.ref 106, .int (((a1.toUInt64 >>> (a3.toInt64.toUInt64 &&& Int64.toUInt64 63)).toInt64) &&& (nI 255).toInt64).toInt32] sl (CH I A N V lt tw sp sr X)) (fun vs sl h => R (d + 1) 24 (28, [some (.ref 106), some (.long a1), none, some (.int a3), some (.int (((a1.toUInt64 >>> (a3.toInt64.toUInt64 &&& Int64.toUInt64 63)).toInt64) &&& (nI 255).toInt64).toInt32)], vs ++ [], sl, h)))) :=
  (R_gob [3, 28] 400 _ _ _).trans rfl
set_option maxRecDepth 100000 in
theorem k24_r106_28 (d sl : Nat) (I : Nat → Nat → Int32) (A : Nat → Nat → Int32) (N : Nat → Nat → Int64) (V : Nat → Nat → Option Nat) (lt : Int64) (tw : Option Nat) (sp sr : Nat) (X : List AC) (a1 : Int64) (a3 : Int32) (a4 : Int32) :
  R (d + 1) 24 (28, [some (.ref 106), some (.long a1), none, some (.int a3), some (.int a4)], [], sl, (CH I A N V lt tw sp sr X)) =
    R (d + 1) 24 (3, [some (.ref 106), some (.long a1), none, some (.int (a3 + (-8 : Int32))), some (.int a4)], [], sl, (CH I A N V lt tw sp sr X)) :=
  (R_gob [3, 28] 400 _ _ _).trans rfl
set_option maxRecDepth 100000 in
theorem k24_r106_3_1 (d sl : Nat) (I : Nat → Nat → Int32) (A : Nat → Nat → Int32) (N : Nat → Nat → Int64) (V : Nat → Nat → Option Nat) (lt : Int64) (tw : Option Nat) (sp sr : Nat) (X : List AC) (a1 : Int64) (a3 : Int32) (a4 : Int32) :
  R (d + 1) 24 (3, [some (.ref 106), some (.long a1), none, some (.int a3), some (.int a4)], [], sl, (CH I A N V lt tw sp sr X)) =
    cond (decide (a3 < (nI 0))) (some (34, [some (.ref 106), some (.long a1), none, some (.int a3), some (.int a4)], [], sl, (CH I A N V lt tw sp sr X))) (cond (decide ((((a1.toUInt64 >>> (a3.toInt64.toUInt64 &&& Int64.toUInt64 63)).toInt64) &&& (nI 255).toInt64).toInt32 = (nI 0))) (R (d + 1) 24 (28, [some (.ref 106), some (.long a1), none, some (.int a3), some (.int (((a1.toUInt64 >>> (a3.toInt64.toUInt64 &&& Int64.toUInt64 63)).toInt64) &&& (nI 255).toInt64).toInt32)], [], sl, (CH I A N V lt tw sp sr X))) (bC (C d 22 [.ref 106, .int (((a1.toUInt64 >>> (a3.toInt64.toUInt64 &&& Int64.toUInt64 63)).toInt64) &&& (nI 255).toInt64).toInt32] sl (CH I A N V lt tw sp sr X)) (fun vs sl h => R (d + 1) 24 (28, [some (.ref 106), some (.long a1), none, some (.int a3), some (.int (((a1.toUInt64 >>> (a3.toInt64.toUInt64 &&& Int64.toUInt64 63)).toInt64) &&& (nI 255).toInt64).toInt32)], vs ++ [], sl, h)))) :=
  (R_gob [3, 28] 400 _ _ _).trans rfl
set_option maxRecDepth 100000 in
theorem k23_r106_r1000202_0 (d sl : Nat) (I : Nat → Nat → Int32) (A : Nat → Nat → Int32) (N : Nat → Nat → Int64) (V : Nat → Nat → Option Nat) (lt : Int64) (tw : Option Nat) (sp sr : Nat) (X : List AC)  :
  R (d + 1) 23 (0, [some (.ref 106), some (.ref 1000202), none], [], sl, (CH I A N V lt tw sp sr X)) =
    R (d + 1) 23 (2, [some (.ref 106), some (.ref 1000202), some (.int (nI 0))], [], sl, (CH I A N V lt tw sp sr X)) :=
  (R_gob [2, 19] 400 _ _ _).trans rfl
set_option maxRecDepth 100000 in
theorem k23_r106_r1000202_2 (d sl : Nat) (I : Nat → Nat → Int32) (A : Nat → Nat → Int32) (N : Nat → Nat → Int64) (V : Nat → Nat → Option Nat) (lt : Int64) (tw : Option Nat) (sp sr : Nat) (X : List AC) (a2 : Int32) :
  R (d + 1) 23 (2, [some (.ref 106), some (.ref 1000202), some (.int a2)], [], sl, (CH I A N V lt tw sp sr X)) =
    cond (decide ((nI (x_str (1000202 - 1000200)).length) ≤ a2)) (some (25, [some (.ref 106), some (.ref 1000202), some (.int a2)], [], sl, (CH I A N V lt tw sp sr X))) (cond (x_in a2 (x_str (1000202 - 1000200)).length) (bC (C d 22 [.ref 106, .int ((x_str (1000202 - 1000200)).getD a2.toNatClampNeg 0)] sl (CH I A N V lt tw sp sr X)) (fun vs sl h => R (d + 1) 23 (19, [some (.ref 106), some (.ref 1000202), some (.int a2)], vs ++ [], sl, h))) none) :=
  (R_gob [2, 19] 400 _ _ _).trans rfl
set_option maxRecDepth 100000 in
theorem k23_r106_r1000202_19 (d sl : Nat) (I : Nat → Nat → Int32) (A : Nat → Nat → Int32) (N : Nat → Nat → Int64) (V : Nat → Nat → Option Nat) (lt : Int64) (tw : Option Nat) (sp sr : Nat) (X : List AC) (a2 : Int32) :
  R (d + 1) 23 (19, [some (.ref 106), some (.ref 1000202), some (.int a2)], [], sl, (CH I A N V lt tw sp sr X)) =
    R (d + 1) 23 (2, [some (.ref 106), some (.ref 1000202), some (.int (a2 + (nI 1)))], [], sl, (CH I A N V lt tw sp sr X)) :=
  (R_gob [2, 19] 400 _ _ _).trans rfl
set_option maxRecDepth 100000 in
theorem k23_r106_r1000200_0 (d sl : Nat) (I : Nat → Nat → Int32) (A : Nat → Nat → Int32) (N : Nat → Nat → Int64) (V : Nat → Nat → Option Nat) (lt : Int64) (tw : Option Nat) (sp sr : Nat) (X : List AC)  :
  R (d + 1) 23 (0, [some (.ref 106), some (.ref 1000200), none], [], sl, (CH I A N V lt tw sp sr X)) =
    R (d + 1) 23 (2, [some (.ref 106), some (.ref 1000200), some (.int (nI 0))], [], sl, (CH I A N V lt tw sp sr X)) :=
  (R_gob [2, 19] 400 _ _ _).trans rfl
set_option maxRecDepth 100000 in
theorem k23_r106_r1000200_2 (d sl : Nat) (I : Nat → Nat → Int32) (A : Nat → Nat → Int32) (N : Nat → Nat → Int64) (V : Nat → Nat → Option Nat) (lt : Int64) (tw : Option Nat) (sp sr : Nat) (X : List AC) (a2 : Int32) :
  R (d + 1) 23 (2, [some (.ref 106), some (.ref 1000200), some (.int a2)], [], sl, (CH I A N V lt tw sp sr X)) =
    cond (decide ((nI (x_str (1000200 - 1000200)).length) ≤ a2)) (some (25, [some (.ref 106), some (.ref 1000200), some (.int a2)], [], sl, (CH I A N V lt tw sp sr X))) (cond (x_in a2 (x_str (1000200 - 1000200)).length) (bC (C d 22 [.ref 106, .int ((x_str (1000200 - 1000200)).getD a2.toNatClampNeg 0)] sl (CH I A N V lt tw sp sr X)) (fun vs sl h => R (d + 1) 23 (19, [some (.ref 106), some (.ref 1000200), some (.int a2)], vs ++ [], sl, h))) none) :=
  (R_gob [2, 19] 400 _ _ _).trans rfl
set_option maxRecDepth 100000 in
theorem k23_r106_r1000200_19 (d sl : Nat) (I : Nat → Nat → Int32) (A : Nat → Nat → Int32) (N : Nat → Nat → Int64) (V : Nat → Nat → Option Nat) (lt : Int64) (tw : Option Nat) (sp sr : Nat) (X : List AC) (a2 : Int32) :
  R (d + 1) 23 (19, [some (.ref 106), some (.ref 1000200), some (.int a2)], [], sl, (CH I A N V lt tw sp sr X)) =
    R (d + 1) 23 (2, [some (.ref 106), some (.ref 1000200), some (.int (a2 + (nI 1)))], [], sl, (CH I A N V lt tw sp sr X)) :=
  (R_gob [2, 19] 400 _ _ _).trans rfl
set_option maxRecDepth 100000 in
theorem k23_r106_r1000203_0 (d sl : Nat) (I : Nat → Nat → Int32) (A : Nat → Nat → Int32) (N : Nat → Nat → Int64) (V : Nat → Nat → Option Nat) (lt : Int64) (tw : Option Nat) (sp sr : Nat) (X : List AC)  :
  R (d + 1) 23 (0, [some (.ref 106), some (.ref 1000203), none], [], sl, (CH I A N V lt tw sp sr X)) =
    R (d + 1) 23 (2, [some (.ref 106), some (.ref 1000203), some (.int (nI 0))], [], sl, (CH I A N V lt tw sp sr X)) :=
  (R_gob [2, 19] 400 _ _ _).trans rfl
set_option maxRecDepth 100000 in
theorem k23_r106_r1000203_2 (d sl : Nat) (I : Nat → Nat → Int32) (A : Nat → Nat → Int32) (N : Nat → Nat → Int64) (V : Nat → Nat → Option Nat) (lt : Int64) (tw : Option Nat) (sp sr : Nat) (X : List AC) (a2 : Int32) :
  R (d + 1) 23 (2, [some (.ref 106), some (.ref 1000203), some (.int a2)], [], sl, (CH I A N V lt tw sp sr X)) =
    cond (decide ((nI (x_str (1000203 - 1000200)).length) ≤ a2)) (some (25, [some (.ref 106), some (.ref 1000203), some (.int a2)], [], sl, (CH I A N V lt tw sp sr X))) (cond (x_in a2 (x_str (1000203 - 1000200)).length) (bC (C d 22 [.ref 106, .int ((x_str (1000203 - 1000200)).getD a2.toNatClampNeg 0)] sl (CH I A N V lt tw sp sr X)) (fun vs sl h => R (d + 1) 23 (19, [some (.ref 106), some (.ref 1000203), some (.int a2)], vs ++ [], sl, h))) none) :=
  (R_gob [2, 19] 400 _ _ _).trans rfl
set_option maxRecDepth 100000 in
theorem k23_r106_r1000203_19 (d sl : Nat) (I : Nat → Nat → Int32) (A : Nat → Nat → Int32) (N : Nat → Nat → Int64) (V : Nat → Nat → Option Nat) (lt : Int64) (tw : Option Nat) (sp sr : Nat) (X : List AC) (a2 : Int32) :
  R (d + 1) 23 (19, [some (.ref 106), some (.ref 1000203), some (.int a2)], [], sl, (CH I A N V lt tw sp sr X)) =
    R (d + 1) 23 (2, [some (.ref 106), some (.ref 1000203), some (.int (a2 + (nI 1)))], [], sl, (CH I A N V lt tw sp sr X)) :=
  (R_gob [2, 19] 400 _ _ _).trans rfl
set_option maxRecDepth 100000 in
theorem k16_r101_r12_0 (d sl : Nat) (I : Nat → Nat → Int32) (A : Nat → Nat → Int32) (N : Nat → Nat → Int64) (V : Nat → Nat → Option Nat) (lt : Int64) (tw : Option Nat) (sp sr : Nat) (X : List AC) (a2 : Int32) :
  R (d + 1) 16 (0, [some (.ref 101), some (.ref 12), some (.int a2), none, none], [], sl, (CH I A N V lt tw sp sr X)) =
    cond (x_in a2 40) (cond (!decide (((A 102) a2.toNatClampNeg) = (nI 10))) (cond (!decide (((A 102) a2.toNatClampNeg) = (nI 50))) (cond (x_in a2 40) (cond (x_in a2 40) (bC (C d 18 [.ref 12, .int ((A 102) a2.toNatClampNeg), .int ((A 103) a2.toNatClampNeg), .int ((A 104) a2.toNatClampNeg)] sl (CH I A N V lt tw sp sr X)) (fun vs sl h => R (d + 1) 16 (81, [some (.ref 101), some (.ref 12), some (.int a2), some (.int ((A 102) a2.toNatClampNeg)), some (.int (nI 0))], vs ++ [], sl, h))) none) none) (cond (x_in a2 40) (bC (C d 17 [.ref 12, .int ((A 103) a2.toNatClampNeg)] sl (CH I A N V lt tw sp sr X)) (fun vs sl h => R (d + 1) 16 (59, [some (.ref 101), some (.ref 12), some (.int a2), some (.int ((A 102) a2.toNatClampNeg)), some (.int (nI 0))], vs ++ [], sl, h))) none)) (cond (x_in a2 40) (cond (x_in a2 40) (cond (x_in a2 40) (bC (C d 71 [.ref 12, .int ((A 103) a2.toNatClampNeg), .int ((A 104) a2.toNatClampNeg), .int ((A 105) a2.toNatClampNeg)] sl (CH I A N V lt tw sp sr X)) (fun vs sl h => R (d + 1) 16 (38, [some (.ref 101), some (.ref 12), some (.int a2), some (.int ((A 102) a2.toNatClampNeg)), some (.int (nI 0))], vs ++ [], sl, h))) none) none) none)) none :=
  (R_gob [38, 59, 81] 400 _ _ _).trans rfl
set_option maxRecDepth 100000 in
theorem k16_r101_r12_81 (d sl : Nat) (I : Nat → Nat → Int32) (A : Nat → Nat → Int32) (N : Nat → Nat → Int64) (V : Nat → Nat → Option Nat) (lt : Int64) (tw : Option Nat) (sp sr : Nat) (X : List AC) (a2 : Int32) (a3 : Int32) (a4 : Int32) (b0 : Int32) :
  R (d + 1) 16 (81, [some (.ref 101), some (.ref 12), some (.int a2), some (.int a3), some (.int a4)], [.int b0], sl, (CH I A N V lt tw sp sr X)) =
    cond (!decide (b0 = (nI 0))) (some (96, [some (.ref 101), some (.ref 12), some (.int a2), some (.int a3), some (.int b0)], [.int (a3 + b0)], sl, (CH I A N V lt tw sp sr X))) (some (96, [some (.ref 101), some (.ref 12), some (.int a2), some (.int a3), some (.int b0)], [.int (nI 0)], sl, (CH I A N V lt tw sp sr X))) :=
  (R_gob [38, 59, 81] 400 _ _ _).trans rfl
set_option maxRecDepth 100000 in
theorem k16_r101_r12_59 (d sl : Nat) (I : Nat → Nat → Int32) (A : Nat → Nat → Int32) (N : Nat → Nat → Int64) (V : Nat → Nat → Option Nat) (lt : Int64) (tw : Option Nat) (sp sr : Nat) (X : List AC) (a2 : Int32) (a3 : Int32) (a4 : Int32) (b0 : Int32) :
  R (d + 1) 16 (59, [some (.ref 101), some (.ref 12), some (.int a2), some (.int a3), some (.int a4)], [.int b0], sl, (CH I A N V lt tw sp sr X)) =
    cond (!decide (b0 = (nI 0))) (some (96, [some (.ref 101), some (.ref 12), some (.int a2), some (.int a3), some (.int b0)], [.int (a3 + b0)], sl, (CH I A N V lt tw sp sr X))) (some (96, [some (.ref 101), some (.ref 12), some (.int a2), some (.int a3), some (.int b0)], [.int (nI 0)], sl, (CH I A N V lt tw sp sr X))) :=
  (R_gob [38, 59, 81] 400 _ _ _).trans rfl
set_option maxRecDepth 100000 in
theorem k16_r101_r12_38 (d sl : Nat) (I : Nat → Nat → Int32) (A : Nat → Nat → Int32) (N : Nat → Nat → Int64) (V : Nat → Nat → Option Nat) (lt : Int64) (tw : Option Nat) (sp sr : Nat) (X : List AC) (a2 : Int32) (a3 : Int32) (a4 : Int32) (b0 : Int32) :
  R (d + 1) 16 (38, [some (.ref 101), some (.ref 12), some (.int a2), some (.int a3), some (.int a4)], [.int b0], sl, (CH I A N V lt tw sp sr X)) =
    cond (!decide (b0 = (nI 0))) (some (96, [some (.ref 101), some (.ref 12), some (.int a2), some (.int a3), some (.int b0)], [.int (a3 + b0)], sl, (CH I A N V lt tw sp sr X))) (some (96, [some (.ref 101), some (.ref 12), some (.int a2), some (.int a3), some (.int b0)], [.int (nI 0)], sl, (CH I A N V lt tw sp sr X))) :=
  (R_gob [38, 59, 81] 400 _ _ _).trans rfl
set_option maxRecDepth 100000 in
theorem k66_r12_0 (d sl : Nat) (I : Nat → Nat → Int32) (A : Nat → Nat → Int32) (N : Nat → Nat → Int64) (V : Nat → Nat → Option Nat) (lt : Int64) (tw : Option Nat) (sp sr : Nat) (X : List AC)  :
  R d 66 (0, [some (.ref 12), none, none], [], sl, (CH I A N V lt tw sp sr X)) =
    R d 66 (4, [some (.ref 12), some (.int (nI 0)), some (.int (nI 0))], [], sl, (CH I A N V lt tw sp sr X)) :=
  (R_gob [4] 400 _ _ _).trans rfl
set_option maxRecDepth 100000 in
theorem k66_r12_4 (d sl : Nat) (I : Nat → Nat → Int32) (A : Nat → Nat → Int32) (N : Nat → Nat → Int64) (V : Nat → Nat → Option Nat) (lt : Int64) (tw : Option Nat) (sp sr : Nat) (X : List AC) (a1 : Int32) (a2 : Int32) :
  R d 66 (4, [some (.ref 12), some (.int a1), some (.int a2)], [], sl, (CH I A N V lt tw sp sr X)) =
    cond (decide ((I 12 9) ≤ a2)) (some (28, [some (.ref 12), some (.int a1), some (.int a2)], [.int a1], sl, (CH I A N V lt tw sp sr X))) (cond (x_in a2 12) (R d 66 (4, [some (.ref 12), some (.int (a1 + ((A 19) a2.toNatClampNeg))), some (.int (a2 + (nI 1)))], [], sl, (CH I A N V lt tw sp sr X))) none) :=
  (R_gob [4] 400 _ _ _).trans rfl
set_option maxRecDepth 100000 in
theorem k10_r101_r1_r3_0 (d sl : Nat) (I : Nat → Nat → Int32) (A : Nat → Nat → Int32) (N : Nat → Nat → Int64) (V : Nat → Nat → Option Nat) (lt : Int64) (tw : Option Nat) (sp sr : Nat) (X : List AC)  :
  R (d + 1) 10 (0, [some (.ref 101), some (.ref 1), some (.ref 3), none, none, none], [], sl, (CH I A N V lt tw sp sr X)) =
    bC (C d 95 [.ref 1] sl (CH I A N V lt tw sp sr X)) (fun vs sl h => R (d + 1) 10 (4, [some (.ref 101), some (.ref 1), some (.ref 3), none, none, none], vs ++ [], sl, h)) :=
  (R_gob [4, 19, 30, 45, 54, 69, 82, 87, 100, 110, 129, 146] 400 _ _ _).trans rfl
set_option maxRecDepth 100000 in
theorem k10_r101_r1_r3_4 (d sl : Nat) (I : Nat → Nat → Int32) (A : Nat → Nat → Int32) (N : Nat → Nat → Int64) (V : Nat → Nat → Option Nat) (lt : Int64) (sp sr : Nat) (X : List AC) (b0 : Int32) :
  R (d + 1) 10 (4, [some (.ref 101), some (.ref 1), some (.ref 3), none, none, none], [.int b0], sl, (CH I A N V lt none sp sr X)) =
    cond (decide (b0 = (nI 0))) (bC (C d 11 [.null] sl (CH I A N V lt none sp sr X)) (fun vs sl h => R (d + 1) 10 (19, [some (.ref 101), some (.ref 1), some (.ref 3), none, none, none], vs ++ [], sl, h))) (R (d + 1) 10 (19, [some (.ref 101), some (.ref 1), some (.ref 3), none, none, none], [.int (nI 10)], sl, (CH I A N V lt none sp sr X))) :=
  (R_gob [4, 19, 30, 45, 54, 69, 82, 87, 100, 110, 129, 146] 400 _ _ _).trans rfl
set_option maxRecDepth 100000 in
theorem k10_r101_r1_r3_4_1 (d sl : Nat) (I : Nat → Nat → Int32) (A : Nat → Nat → Int32) (N : Nat → Nat → Int64) (V : Nat → Nat → Option Nat) (lt : Int64) (tw : Nat) (sp sr : Nat) (X : List AC) (b0 : Int32) :
  R (d + 1) 10 (4, [some (.ref 101), some (.ref 1), some (.ref 3), none, none, none], [.int b0], sl, (CH I A N V lt (some tw) sp sr X)) =
    cond (decide (b0 = (nI 0))) (bC (C d 11 [.ref tw] sl (CH I A N V lt (some tw) sp sr X)) (fun vs sl h => R (d + 1) 10 (19, [some (.ref 101), some (.ref 1), some (.ref 3), none, none, none], vs ++ [], sl, h))) (R (d + 1) 10 (19, [some (.ref 101), some (.ref 1), some (.ref 3), none, none, none], [.int (nI 10)], sl, (CH I A N V lt (some tw) sp sr X))) :=
  (R_gob [4, 19, 30, 45, 54, 69, 82, 87, 100, 110, 129, 146] 400 _ _ _).trans rfl
set_option maxRecDepth 100000 in
theorem k10_r101_r1_r3_19 (d sl : Nat) (I : Nat → Nat → Int32) (A : Nat → Nat → Int32) (N : Nat → Nat → Int64) (V : Nat → Nat → Option Nat) (lt : Int64) (tw : Option Nat) (sp sr : Nat) (X : List AC) (b0 : Int32) :
  R (d + 1) 10 (19, [some (.ref 101), some (.ref 1), some (.ref 3), none, none, none], [.int b0], sl, (CH I A N V lt tw sp sr X)) =
    cond (!decide (b0 = (-1 : Int32))) (cond (!decide (b0 = (nI 10))) (cond (decide ((I 101 4) < (nI 40))) (cond (!decide (b0 = (nI 10))) (bC (C d 90 [.ref 1] sl (CH I A N V lt tw sp sr X)) (fun vs sl h => R (d + 1) 10 (87, [some (.ref 101), some (.ref 1), some (.ref 3), some (.int b0), none, none], vs ++ [], sl, h))) (bC (C d 13 [.ref 101, .ref 1, .ref 3] sl (CH I A N V lt tw sp sr X)) (fun vs sl h => R (d + 1) 10 (82, [some (.ref 101), some (.ref 1), some (.ref 3), some (.int b0), none, none], vs ++ [], sl, h)))) (bC (C d 97 [.ref 1, .int (nI 4)] sl (CH I A N V lt tw sp sr X)) (fun vs sl h => R (d + 1) 10 (69, [some (.ref 101), some (.ref 1), some (.ref 3), some (.int b0), none, none], vs ++ [], sl, h)))) (bC (C d 47 [.ref 3, .long lt] sl (CH I A N V lt tw sp sr X)) (fun vs sl h => R (d + 1) 10 (45, [some (.ref 101), some (.ref 1), some (.ref 3), some (.int b0), none, none], vs ++ [], sl, h)))) (bC (C d 97 [.ref 1, .int (nI 1)] sl (CH I A N V lt tw sp sr X)) (fun vs sl h => R (d + 1) 10 (30, [some (.ref 101), some (.ref 1), some (.ref 3), some (.int b0), none, none], vs ++ [], sl, h))) :=
  (R_gob [4, 19, 30, 45, 54, 69, 82, 87, 100, 110, 129, 146] 400 _ _ _).trans rfl
set_option maxRecDepth 100000 in
theorem k10_r101_r1_r3_87 (d sl : Nat) (I : Nat → Nat → Int32) (A : Nat → Nat → Int32) (N : Nat → Nat → Int64) (V : Nat → Nat → Option Nat) (lt : Int64) (tw : Option Nat) (sp sr : Nat) (X : List AC) (a3 : Int32) :
  R (d + 1) 10 (87, [some (.ref 101), some (.ref 1), some (.ref 3), some (.int a3), none, none], [], sl, (CH I A N V lt tw sp sr X)) =
    cond (!decide (a3 = (nI 50))) (bC (C d 102 [.ref 1, .int (nI 0), .int (nI 11)] sl (CH I A N V lt tw sp sr X)) (fun vs sl h => R (d + 1) 10 (110, [some (.ref 101), some (.ref 1), some (.ref 3), some (.int a3), none, none], vs ++ [], sl, h))) (bC (C d 102 [.ref 1, .int (nI 1), .int (nI 60)] sl (CH I A N V lt tw sp sr X)) (fun vs sl h => R (d + 1) 10 (100, [some (.ref 101), some (.ref 1), some (.ref 3), some (.int a3), none, none], vs ++ [], sl, h))) :=
  (R_gob [4, 19, 30, 45, 54, 69, 82, 87, 100, 110, 129, 146] 400 _ _ _).trans rfl
set_option maxRecDepth 100000 in
theorem k10_r101_r1_r3_82 (d sl : Nat) (I : Nat → Nat → Int32) (A : Nat → Nat → Int32) (N : Nat → Nat → Int64) (V : Nat → Nat → Option Nat) (lt : Int64) (tw : Option Nat) (sp sr : Nat) (X : List AC) (a3 : Int32) (b0 : Int32) :
  R (d + 1) 10 (82, [some (.ref 101), some (.ref 1), some (.ref 3), some (.int a3), none, none], [.int b0], sl, (CH I A N V lt tw sp sr X)) =
    some (82, [some (.ref 101), some (.ref 1), some (.ref 3), some (.int a3), none, none], [.int b0], sl, (CH I A N V lt tw sp sr X)) :=
  (R_gob [4, 19, 30, 45, 54, 69, 82, 87, 100, 110, 129, 146] 400 _ _ _).trans rfl
set_option maxRecDepth 100000 in
theorem k10_r101_r1_r3_69 (d sl : Nat) (I : Nat → Nat → Int32) (A : Nat → Nat → Int32) (N : Nat → Nat → Int64) (V : Nat → Nat → Option Nat) (lt : Int64) (tw : Option Nat) (sp sr : Nat) (X : List AC) (a3 : Int32) (b0 : Int32) :
  R (d + 1) 10 (69, [some (.ref 101), some (.ref 1), some (.ref 3), some (.int a3), none, none], [.int b0], sl, (CH I A N V lt tw sp sr X)) =
    some (69, [some (.ref 101), some (.ref 1), some (.ref 3), some (.int a3), none, none], [.int b0], sl, (CH I A N V lt tw sp sr X)) :=
  (R_gob [4, 19, 30, 45, 54, 69, 82, 87, 100, 110, 129, 146] 400 _ _ _).trans rfl
set_option maxRecDepth 100000 in
theorem k10_r101_r1_r3_45 (d sl : Nat) (I : Nat → Nat → Int32) (A : Nat → Nat → Int32) (N : Nat → Nat → Int64) (V : Nat → Nat → Option Nat) (lt : Int64) (tw : Option Nat) (sp sr : Nat) (X : List AC) (a3 : Int32) (b0 : Int32) :
  R (d + 1) 10 (45, [some (.ref 101), some (.ref 1), some (.ref 3), some (.int a3), none, none], [.int b0], sl, (CH I A N V lt tw sp sr X)) =
    cond (!decide (b0 = (-1 : Int32))) (cond (decide ((I 101 4) < (nI 40))) (cond (!decide (a3 = (nI 10))) (bC (C d 90 [.ref 1] sl (CH I A N V lt tw sp sr X)) (fun vs sl h => R (d + 1) 10 (87, [some (.ref 101), some (.ref 1), some (.ref 3), some (.int a3), none, none], vs ++ [], sl, h))) (bC (C d 13 [.ref 101, .ref 1, .ref 3] sl (CH I A N V lt tw sp sr X)) (fun vs sl h => R (d + 1) 10 (82, [some (.ref 101), some (.ref 1), some (.ref 3), some (.int a3), none, none], vs ++ [], sl, h)))) (bC (C d 97 [.ref 1, .int (nI 4)] sl (CH I A N V lt tw sp sr X)) (fun vs sl h => R (d + 1) 10 (69, [some (.ref 101), some (.ref 1), some (.ref 3), some (.int a3), none, none], vs ++ [], sl, h)))) (bC (C d 97 [.ref 1, .int (nI 3)] sl (CH I A N V lt tw sp sr X)) (fun vs sl h => R (d + 1) 10 (54, [some (.ref 101), some (.ref 1), some (.ref 3), some (.int a3), none, none], vs ++ [], sl, h))) :=
  (R_gob [4, 19, 30, 45, 54, 69, 82, 87, 100, 110, 129, 146] 400 _ _ _).trans rfl
set_option maxRecDepth 100000 in
theorem k10_r101_r1_r3_30 (d sl : Nat) (I : Nat → Nat → Int32) (A : Nat → Nat → Int32) (N : Nat → Nat → Int64) (V : Nat → Nat → Option Nat) (lt : Int64) (tw : Option Nat) (sp sr : Nat) (X : List AC) (a3 : Int32) (b0 : Int32) :
  R (d + 1) 10 (30, [some (.ref 101), some (.ref 1), some (.ref 3), some (.int a3), none, none], [.int b0], sl, (CH I A N V lt tw sp sr X)) =
    some (30, [some (.ref 101), some (.ref 1), some (.ref 3), some (.int a3), none, none], [.int b0], sl, (CH I A N V lt tw sp sr X)) :=
  (R_gob [4, 19, 30, 45, 54, 69, 82, 87, 100, 110, 129, 146] 400 _ _ _).trans rfl
set_option maxRecDepth 100000 in
theorem k10_r101_r1_r3_110 (d sl : Nat) (I : Nat → Nat → Int32) (A : Nat → Nat → Int32) (N : Nat → Nat → Int64) (V : Nat → Nat → Option Nat) (lt : Int64) (tw : Option Nat) (sp sr : Nat) (X : List AC) (a3 : Int32) (b0 : Int32) :
  R (d + 1) 10 (110, [some (.ref 101), some (.ref 1), some (.ref 3), some (.int a3), none, none], [.int b0], sl, (CH I A N V lt tw sp sr X)) =
    cond (decide (b0 = (nI 0))) (some (133, [some (.ref 101), some (.ref 1), some (.ref 3), some (.int a3), some (.int b0), some (.int (I 1 9))], [.int (nI 0)], sl, (CH I A N V lt tw sp sr X))) (bC (C d 12 [.ref 1, .ref 3, .int a3] sl (CH I A N V lt tw sp sr X)) (fun vs sl h => R (d + 1) 10 (129, [some (.ref 101), some (.ref 1), some (.ref 3), some (.int a3), some (.int b0), some (.int (I 1 9))], vs ++ [], sl, h))) :=
  (R_gob [4, 19, 30, 45, 54, 69, 82, 87, 100, 110, 129, 146] 400 _ _ _).trans rfl
set_option maxRecDepth 100000 in
theorem k10_r101_r1_r3_100 (d sl : Nat) (I : Nat → Nat → Int32) (A : Nat → Nat → Int32) (N : Nat → Nat → Int64) (V : Nat → Nat → Option Nat) (lt : Int64) (tw : Option Nat) (sp sr : Nat) (X : List AC) (a3 : Int32) (b0 : Int32) :
  R (d + 1) 10 (100, [some (.ref 101), some (.ref 1), some (.ref 3), some (.int a3), none, none], [.int b0], sl, (CH I A N V lt tw sp sr X)) =
    R (d + 1) 10 (110, [some (.ref 101), some (.ref 1), some (.ref 3), some (.int a3), none, none], [.int b0], sl, (CH I A N V lt tw sp sr X)) :=
  (R_gob [4, 19, 30, 45, 54, 69, 82, 87, 100, 110, 129, 146] 400 _ _ _).trans rfl
set_option maxRecDepth 100000 in
theorem k10_r101_r1_r3_54 (d sl : Nat) (I : Nat → Nat → Int32) (A : Nat → Nat → Int32) (N : Nat → Nat → Int64) (V : Nat → Nat → Option Nat) (lt : Int64) (tw : Option Nat) (sp sr : Nat) (X : List AC) (a3 : Int32) (b0 : Int32) :
  R (d + 1) 10 (54, [some (.ref 101), some (.ref 1), some (.ref 3), some (.int a3), none, none], [.int b0], sl, (CH I A N V lt tw sp sr X)) =
    some (54, [some (.ref 101), some (.ref 1), some (.ref 3), some (.int a3), none, none], [.int b0], sl, (CH I A N V lt tw sp sr X)) :=
  (R_gob [4, 19, 30, 45, 54, 69, 82, 87, 100, 110, 129, 146] 400 _ _ _).trans rfl
set_option maxRecDepth 100000 in
theorem k10_r101_r1_r3_129 (d sl : Nat) (I : Nat → Nat → Int32) (A : Nat → Nat → Int32) (N : Nat → Nat → Int64) (V : Nat → Nat → Option Nat) (lt : Int64) (tw : Option Nat) (sp sr : Nat) (X : List AC) (a3 : Int32) (a4 : Int32) (a5 : Int32) (b0 : Int32) :
  R (d + 1) 10 (129, [some (.ref 101), some (.ref 1), some (.ref 3), some (.int a3), some (.int a4), some (.int a5)], [.int b0], sl, (CH I A N V lt tw sp sr X)) =
    cond (!decide (b0 = (nI 0))) (bC (C d 14 [.ref 101, .int a3, .int a5, .int (I 1 9), .int (nI 0)] sl (CH I A N V lt tw sp sr X)) (fun vs sl h => R (d + 1) 10 (146, [some (.ref 101), some (.ref 1), some (.ref 3), some (.int a3), some (.int a4), some (.int a5)], vs ++ [], sl, h))) (some (133, [some (.ref 101), some (.ref 1), some (.ref 3), some (.int a3), some (.int a4), some (.int a5)], [.int (nI 0)], sl, (CH I A N V lt tw sp sr X))) :=
  (R_gob [4, 19, 30, 45, 54, 69, 82, 87, 100, 110, 129, 146] 400 _ _ _).trans rfl
set_option maxRecDepth 100000 in
theorem k10_r101_r1_r3_146 (d sl : Nat) (I : Nat → Nat → Int32) (A : Nat → Nat → Int32) (N : Nat → Nat → Int64) (V : Nat → Nat → Option Nat) (lt : Int64) (tw : Option Nat) (sp sr : Nat) (X : List AC) (a3 : Int32) (a4 : Int32) (a5 : Int32) :
  R (d + 1) 10 (146, [some (.ref 101), some (.ref 1), some (.ref 3), some (.int a3), some (.int a4), some (.int a5)], [], sl, (CH I A N V lt tw sp sr X)) =
    some (147, [some (.ref 101), some (.ref 1), some (.ref 3), some (.int a3), some (.int a4), some (.int a5)], [.int (nI 1)], sl, (CH I A N V lt tw sp sr X)) :=
  (R_gob [4, 19, 30, 45, 54, 69, 82, 87, 100, 110, 129, 146] 400 _ _ _).trans rfl
set_option maxRecDepth 100000 in
theorem k97_r1_0 (d sl : Nat) (I : Nat → Nat → Int32) (A : Nat → Nat → Int32) (N : Nat → Nat → Int64) (V : Nat → Nat → Option Nat) (lt : Int64) (tw : Option Nat) (sp sr : Nat) (X : List AC) (a1 : Int32) :
  R d 97 (0, [some (.ref 1), some (.int a1)], [], sl, (CH I A N V lt tw sp sr X)) =
    some (14, [some (.ref 1), some (.int a1)], [.int (nI 0)], sl, (CH (up1 I 1 (up1 (up1 (I 1) 10 a1) 11 (I 1 5))) A N V lt tw sp sr X)) :=
  (R_gob [] 400 _ _ _).trans rfl
set_option maxRecDepth 100000 in
theorem k38_r146_v0_0 (d sl : Nat) (I : Nat → Nat → Int32) (A : Nat → Nat → Int32) (N : Nat → Nat → Int64) (V : Nat → Nat → Option Nat) (lt : Int64) (tw : Option Nat) (a1 : Int32) (x0_3 : Int32) :
  R (d + 1) 38 (0, [some (.ref 146), some (.int a1), none], [], sl, (CH I A N V lt tw 108 112 [.inr (5, [.ref 1, .ref 3, .ref 112, .int x0_3])])) =
    bC (C d 39 [.ref 146, .int a1] sl (CH I A N V lt tw 108 112 [.inr (5, [.ref 1, .ref 3, .ref 112, .int x0_3])])) (fun vs sl h => R (d + 1) 38 (5, [some (.ref 146), some (.int a1), none], vs ++ [], sl, h)) :=
  (R_gob [5, 12, 38, 43, 60] 400 _ _ _).trans rfl
set_option maxRecDepth 100000 in
theorem k38_r146_v0_5 (d sl : Nat) (I : Nat → Nat → Int32) (A : Nat → Nat → Int32) (N : Nat → Nat → Int64) (V : Nat → Nat → Option Nat) (lt : Int64) (tw : Option Nat) (a1 : Int32) (b0 : Int32) (x0_3 : Int32) :
  R (d + 1) 38 (5, [some (.ref 146), some (.int a1), none], [.int b0], sl, (CH I A N V lt tw 108 112 [.inr (5, [.ref 1, .ref 3, .ref 112, .int x0_3])])) =
    cond (!decide (b0 = (nI 0))) (R (d + 1) 38 (12, [some (.ref 146), some (.int a1), some (.int (nI 0))], [], sl, (CH I A N V lt tw 108 112 [.inr (5, [.ref 1, .ref 3, .ref 112, .int x0_3])]))) (some (9, [some (.ref 146), some (.int a1), none], [.int (nI 0)], sl, (CH I A N V lt tw 108 112 [.inr (5, [.ref 1, .ref 3, .ref 112, .int x0_3])]))) :=
  (R_gob [5, 12, 38, 43, 60] 400 _ _ _).trans rfl
set_option maxRecDepth 100000 in
theorem k38_r146_v0_12 (d sl : Nat) (I : Nat → Nat → Int32) (A : Nat → Nat → Int32) (N : Nat → Nat → Int64) (V : Nat → Nat → Option Nat) (lt : Int64) (a1 : Int32) (a2 : Int32) (x0_3 : Int32) :
  R (d + 1) 38 (12, [some (.ref 146), some (.int a1), some (.int a2)], [], sl, (CH I A N V lt none 108 112 [.inr (5, [.ref 1, .ref 3, .ref 112, .int x0_3])])) =
    cond (decide ((nI 20) ≤ a2)) (some (67, [some (.ref 146), some (.int a1), some (.int a2)], [.int (nI 1)], sl, (CH I A N V lt none 108 112 [.inr (5, [.ref 1, .ref 3, .ref 112, .int x0_3])]))) (some (67, [some (.ref 146), some (.int a1), some (.int a2)], [.int (nI 1)], sl, (CH I A N V lt none 108 112 [.inr (5, [.ref 1, .ref 3, .ref 112, .int x0_3])]))) :=
  (R_gob [5, 12, 38, 43, 60] 400 _ _ _).trans rfl
set_option maxRecDepth 100000 in
theorem k38_r146_v0_12_1 (d sl : Nat) (I : Nat → Nat → Int32) (A : Nat → Nat → Int32) (N : Nat → Nat → Int64) (V : Nat → Nat → Option Nat) (lt : Int64) (tw : Nat) (a1 : Int32) (a2 : Int32) (x0_3 : Int32) :
  R (d + 1) 38 (12, [some (.ref 146), some (.int a1), some (.int a2)], [], sl, (CH I A N V lt (some tw) 108 112 [.inr (5, [.ref 1, .ref 3, .ref 112, .int x0_3])])) =
    cond (decide ((nI 20) ≤ a2)) (some (67, [some (.ref 146), some (.int a1), some (.int a2)], [.int (nI 1)], sl, (CH I A N V lt (some tw) 108 112 [.inr (5, [.ref 1, .ref 3, .ref 112, .int x0_3])]))) (R (d + 1) 38 (28, [some (.ref 146), some (.int a1), some (.int a2)], [.ref 1000010, .ref tw], sl, (CH I A N V lt (some tw) 108 112 [.inr (5, [.ref 1, .ref 3, .ref 112, .int x0_3])]))) :=
  (R_gob [5, 12, 28, 38, 43, 60] 400 _ _ _).trans rfl
set_option maxRecDepth 100000 in
theorem k38_r146_v0_28 (d sl : Nat) (I : Nat → Nat → Int32) (A : Nat → Nat → Int32) (N : Nat → Nat → Int64) (V : Nat → Nat → Option Nat) (lt : Int64) (tw : Option Nat) (a1 : Int32) (a2 : Int32) (b1 : Nat) (x0_3 : Int32) (h_b1 : x_isw b1 = true) :
  R (d + 1) 38 (28, [some (.ref 146), some (.int a1), some (.int a2)], [.ref 1000010, .ref b1], sl, (CH I A N V lt tw 108 112 [.inr (5, [.ref 1, .ref 3, .ref 112, .int x0_3])])) =
    cond (!(Nat.beq b1 1000010)) (R (d + 1) 38 (66, [some (.ref 146), some (.int a1), some (.int a2)], [], sl, (CH I A N V lt tw 108 112 [.inr (5, [.ref 1, .ref 3, .ref 112, .int x0_3])]))) (R (d + 1) 38 (31, [some (.ref 146), some (.int a1), some (.int a2)], [], sl, (CH I A N V lt tw 108 112 [.inr (5, [.ref 1, .ref 3, .ref 112, .int x0_3])]))) :=
  R_acne (show xk 38 28 = (.if_acmp .ne 38, 31, [66], 0) by decide +kernel) h_b1 (by decide)
set_option maxRecDepth 100000 in
theorem k38_r146_v0_66 (d sl : Nat) (I : Nat → Nat → Int32) (A : Nat → Nat → Int32) (N : Nat → Nat → Int64) (V : Nat → Nat → Option Nat) (lt : Int64) (tw : Option Nat) (a1 : Int32) (a2 : Int32) (x0_3 : Int32) :
  R (d + 1) 38 (66, [some (.ref 146), some (.int a1), some (.int a2)], [], sl, (CH I A N V lt tw 108 112 [.inr (5, [.ref 1, .ref 3, .ref 112, .int x0_3])])) =
    some (67, [some (.ref 146), some (.int a1), some (.int a2)], [.int (nI 1)], sl, (CH I A N V lt tw 108 112 [.inr (5, [.ref 1, .ref 3, .ref 112, .int x0_3])])) :=
  (R_gob [5, 12, 28, 31, 38, 43, 60, 66] 400 _ _ _).trans rfl
set_option maxRecDepth 100000 in
theorem k38_r146_v0_31 (d sl : Nat) (I : Nat → Nat → Int32) (A : Nat → Nat → Int32) (N : Nat → Nat → Int64) (V : Nat → Nat → Option Nat) (lt : Int64) (tw : Option Nat) (a1 : Int32) (a2 : Int32) (x0_3 : Int32) :
  R (d + 1) 38 (31, [some (.ref 146), some (.int a1), some (.int a2)], [], sl, (CH I A N V lt tw 108 112 [.inr (5, [.ref 1, .ref 3, .ref 112, .int x0_3])])) =
    bC (C d 90 [.ref 1] sl (CH I A N V lt tw 108 112 [.inr (5, [.ref 1, .ref 3, .ref 112, .int x0_3])])) (fun vs sl h => R (d + 1) 38 (38, [some (.ref 146), some (.int a1), some (.int a2)], vs ++ [], sl, h)) :=
  (R_gob [5, 12, 28, 31, 38, 43, 60, 66] 400 _ _ _).trans rfl
set_option maxRecDepth 100000 in
theorem k38_r146_v0_38 (d sl : Nat) (I : Nat → Nat → Int32) (A : Nat → Nat → Int32) (N : Nat → Nat → Int64) (V : Nat → Nat → Option Nat) (lt : Int64) (tw : Option Nat) (a1 : Int32) (a2 : Int32) (x0_3 : Int32) :
  R (d + 1) 38 (38, [some (.ref 146), some (.int a1), some (.int a2)], [], sl, (CH I A N V lt tw 108 112 [.inr (5, [.ref 1, .ref 3, .ref 112, .int x0_3])])) =
    bC (C d 39 [.ref 146, .int a1] sl (CH I A N V lt tw 108 112 [.inr (5, [.ref 1, .ref 3, .ref 112, .int x0_3])])) (fun vs sl h => R (d + 1) 38 (43, [some (.ref 146), some (.int a1), some (.int a2)], vs ++ [], sl, h)) :=
  (R_gob [5, 12, 28, 31, 38, 43, 60, 66] 400 _ _ _).trans rfl
set_option maxRecDepth 100000 in
theorem k38_r146_v0_43 (d sl : Nat) (I : Nat → Nat → Int32) (A : Nat → Nat → Int32) (N : Nat → Nat → Int64) (V : Nat → Nat → Option Nat) (lt : Int64) (tw : Option Nat) (a1 : Int32) (a2 : Int32) (b0 : Int32) (x0_3 : Int32) :
  R (d + 1) 38 (43, [some (.ref 146), some (.int a1), some (.int a2)], [.int b0], sl, (CH I A N V lt tw 108 112 [.inr (5, [.ref 1, .ref 3, .ref 112, .int x0_3])])) =
    cond (!decide (b0 = (nI 0))) (bC (C d 31 [.ref 112, .ref 1000010, .int (nI 0), .int (nI 0)] sl (CH I A N V lt tw 108 112 [.inr (5, [.ref 1, .ref 3, .ref 112, .int x0_3])])) (fun vs sl h => R (d + 1) 38 (60, [some (.ref 146), some (.int a1), some (.int a2)], vs ++ [], sl, h))) (some (47, [some (.ref 146), some (.int a1), some (.int a2)], [.int (nI 0)], sl, (CH I A N V lt tw 108 112 [.inr (5, [.ref 1, .ref 3, .ref 112, .int x0_3])]))) :=
  (R_gob [5, 12, 28, 31, 38, 43, 60, 66] 400 _ _ _).trans rfl
set_option maxRecDepth 100000 in
theorem k38_r146_v0_60 (d sl : Nat) (I : Nat → Nat → Int32) (A : Nat → Nat → Int32) (N : Nat → Nat → Int64) (V : Nat → Nat → Option Nat) (lt : Int64) (tw : Option Nat) (a1 : Int32) (a2 : Int32) (x0_3 : Int32) :
  R (d + 1) 38 (60, [some (.ref 146), some (.int a1), some (.int a2)], [], sl, (CH I A N V lt tw 108 112 [.inr (5, [.ref 1, .ref 3, .ref 112, .int x0_3])])) =
    R (d + 1) 38 (12, [some (.ref 146), some (.int a1), some (.int (a2 + (nI 1)))], [], sl, (CH I A N V lt tw 108 112 [.inr (5, [.ref 1, .ref 3, .ref 112, .int x0_3])])) :=
  (R_gob [5, 12, 28, 31, 38, 43, 60, 66] 400 _ _ _).trans rfl
set_option maxRecDepth 100000 in
theorem k38_r146_v1_0 (d sl : Nat) (I : Nat → Nat → Int32) (A : Nat → Nat → Int32) (N : Nat → Nat → Int64) (V : Nat → Nat → Option Nat) (lt : Int64) (tw : Option Nat) (a1 : Int32) (x0_3 : Int32) :
  R (d + 1) 38 (0, [some (.ref 146), some (.int a1), none], [], sl, (CH I A N V lt tw 112 108 [.inr (5, [.ref 1, .ref 3, .ref 108, .int x0_3])])) =
    bC (C d 39 [.ref 146, .int a1] sl (CH I A N V lt tw 112 108 [.inr (5, [.ref 1, .ref 3, .ref 108, .int x0_3])])) (fun vs sl h => R (d + 1) 38 (5, [some (.ref 146), some (.int a1), none], vs ++ [], sl, h)) :=
  (R_gob [5, 12, 38, 43, 60] 400 _ _ _).trans rfl
set_option maxRecDepth 100000 in
theorem k38_r146_v1_5 (d sl : Nat) (I : Nat → Nat → Int32) (A : Nat → Nat → Int32) (N : Nat → Nat → Int64) (V : Nat → Nat → Option Nat) (lt : Int64) (tw : Option Nat) (a1 : Int32) (b0 : Int32) (x0_3 : Int32) :
  R (d + 1) 38 (5, [some (.ref 146), some (.int a1), none], [.int b0], sl, (CH I A N V lt tw 112 108 [.inr (5, [.ref 1, .ref 3, .ref 108, .int x0_3])])) =
    cond (!decide (b0 = (nI 0))) (R (d + 1) 38 (12, [some (.ref 146), some (.int a1), some (.int (nI 0))], [], sl, (CH I A N V lt tw 112 108 [.inr (5, [.ref 1, .ref 3, .ref 108, .int x0_3])]))) (some (9, [some (.ref 146), some (.int a1), none], [.int (nI 0)], sl, (CH I A N V lt tw 112 108 [.inr (5, [.ref 1, .ref 3, .ref 108, .int x0_3])]))) :=
  (R_gob [5, 12, 38, 43, 60] 400 _ _ _).trans rfl
set_option maxRecDepth 100000 in
theorem k38_r146_v1_12 (d sl : Nat) (I : Nat → Nat → Int32) (A : Nat → Nat → Int32) (N : Nat → Nat → Int64) (V : Nat → Nat → Option Nat) (lt : Int64) (a1 : Int32) (a2 : Int32) (x0_3 : Int32) :
  R (d + 1) 38 (12, [some (.ref 146), some (.int a1), some (.int a2)], [], sl, (CH I A N V lt none 112 108 [.inr (5, [.ref 1, .ref 3, .ref 108, .int x0_3])])) =
    cond (decide ((nI 20) ≤ a2)) (some (67, [some (.ref 146), some (.int a1), some (.int a2)], [.int (nI 1)], sl, (CH I A N V lt none 112 108 [.inr (5, [.ref 1, .ref 3, .ref 108, .int x0_3])]))) (some (67, [some (.ref 146), some (.int a1), some (.int a2)], [.int (nI 1)], sl, (CH I A N V lt none 112 108 [.inr (5, [.ref 1, .ref 3, .ref 108, .int x0_3])]))) :=
  (R_gob [5, 12, 38, 43, 60] 400 _ _ _).trans rfl
set_option maxRecDepth 100000 in
theorem k38_r146_v1_12_1 (d sl : Nat) (I : Nat → Nat → Int32) (A : Nat → Nat → Int32) (N : Nat → Nat → Int64) (V : Nat → Nat → Option Nat) (lt : Int64) (tw : Nat) (a1 : Int32) (a2 : Int32) (x0_3 : Int32) :
  R (d + 1) 38 (12, [some (.ref 146), some (.int a1), some (.int a2)], [], sl, (CH I A N V lt (some tw) 112 108 [.inr (5, [.ref 1, .ref 3, .ref 108, .int x0_3])])) =
    cond (decide ((nI 20) ≤ a2)) (some (67, [some (.ref 146), some (.int a1), some (.int a2)], [.int (nI 1)], sl, (CH I A N V lt (some tw) 112 108 [.inr (5, [.ref 1, .ref 3, .ref 108, .int x0_3])]))) (R (d + 1) 38 (28, [some (.ref 146), some (.int a1), some (.int a2)], [.ref 1000010, .ref tw], sl, (CH I A N V lt (some tw) 112 108 [.inr (5, [.ref 1, .ref 3, .ref 108, .int x0_3])]))) :=
  (R_gob [5, 12, 28, 38, 43, 60] 400 _ _ _).trans rfl
set_option maxRecDepth 100000 in
theorem k38_r146_v1_28 (d sl : Nat) (I : Nat → Nat → Int32) (A : Nat → Nat → Int32) (N : Nat → Nat → Int64) (V : Nat → Nat → Option Nat) (lt : Int64) (tw : Option Nat) (a1 : Int32) (a2 : Int32) (b1 : Nat) (x0_3 : Int32) (h_b1 : x_isw b1 = true) :
  R (d + 1) 38 (28, [some (.ref 146), some (.int a1), some (.int a2)], [.ref 1000010, .ref b1], sl, (CH I A N V lt tw 112 108 [.inr (5, [.ref 1, .ref 3, .ref 108, .int x0_3])])) =
    cond (!(Nat.beq b1 1000010)) (R (d + 1) 38 (66, [some (.ref 146), some (.int a1), some (.int a2)], [], sl, (CH I A N V lt tw 112 108 [.inr (5, [.ref 1, .ref 3, .ref 108, .int x0_3])]))) (R (d + 1) 38 (31, [some (.ref 146), some (.int a1), some (.int a2)], [], sl, (CH I A N V lt tw 112 108 [.inr (5, [.ref 1, .ref 3, .ref 108, .int x0_3])]))) :=
  R_acne (show xk 38 28 = (.if_acmp .ne 38, 31, [66], 0) by decide +kernel) h_b1 (by decide)
set_option maxRecDepth 100000 in
theorem k38_r146_v1_66 (d sl : Nat) (I : Nat → Nat → Int32) (A : Nat → Nat → Int32) (N : Nat → Nat → Int64) (V : Nat → Nat → Option Nat) (lt : Int64) (tw : Option Nat) (a1 : Int32) (a2 : Int32) (x0_3 : Int32) :
  R (d + 1) 38 (66, [some (.ref 146), some (.int a1), some (.int a2)], [], sl, (CH I A N V lt tw 112 108 [.inr (5, [.ref 1, .ref 3, .ref 108, .int x0_3])])) =
    some (67, [some (.ref 146), some (.int a1), some (.int a2)], [.int (nI 1)], sl, (CH I A N V lt tw 112 108 [.inr (5, [.ref 1, .ref 3, .ref 108, .int x0_3])])) :=
  (R_gob [5, 12, 28, 31, 38, 43, 60, 66] 400 _ _ _).trans rfl
set_option maxRecDepth 100000 in
theorem k38_r146_v1_31 (d sl : Nat) (I : Nat → Nat → Int32) (A : Nat → Nat → Int32) (N : Nat → Nat → Int64) (V : Nat → Nat → Option Nat) (lt : Int64) (tw : Option Nat) (a1 : Int32) (a2 : Int32) (x0_3 : Int32) :
  R (d + 1) 38 (31, [some (.ref 146), some (.int a1), some (.int a2)], [], sl, (CH I A N V lt tw 112 108 [.inr (5, [.ref 1, .ref 3, .ref 108, .int x0_3])])) =
    bC (C d 90 [.ref 1] sl (CH I A N V lt tw 112 108 [.inr (5, [.ref 1, .ref 3, .ref 108, .int x0_3])])) (fun vs sl h => R (d + 1) 38 (38, [some (.ref 146), some (.int a1), some (.int a2)], vs ++ [], sl, h)) :=
  (R_gob [5, 12, 28, 31, 38, 43, 60, 66] 400 _ _ _).trans rfl
set_option maxRecDepth 100000 in
theorem k38_r146_v1_38 (d sl : Nat) (I : Nat → Nat → Int32) (A : Nat → Nat → Int32) (N : Nat → Nat → Int64) (V : Nat → Nat → Option Nat) (lt : Int64) (tw : Option Nat) (a1 : Int32) (a2 : Int32) (x0_3 : Int32) :
  R (d + 1) 38 (38, [some (.ref 146), some (.int a1), some (.int a2)], [], sl, (CH I A N V lt tw 112 108 [.inr (5, [.ref 1, .ref 3, .ref 108, .int x0_3])])) =
    bC (C d 39 [.ref 146, .int a1] sl (CH I A N V lt tw 112 108 [.inr (5, [.ref 1, .ref 3, .ref 108, .int x0_3])])) (fun vs sl h => R (d + 1) 38 (43, [some (.ref 146), some (.int a1), some (.int a2)], vs ++ [], sl, h)) :=
  (R_gob [5, 12, 28, 31, 38, 43, 60, 66] 400 _ _ _).trans rfl
