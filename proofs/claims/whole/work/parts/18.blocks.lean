/-! BLOCKS: runs from place to place, calls kept apart -/
def bC (o : Option (List Value × Nat × List AC)) (k : List Value → Nat → List AC → Option XR) : Option XR :=
  match o with
  | none => none
  | some (vs, sl, h) => k vs sl h
noncomputable def stb (K : Nat → Nat → XR → Option XR) (d i : Nat) : XR → Option XR
  | (pc, ls, st, sl, h) => (match xk i pc with
    | (ins, nx, aux, v) => (match x_trm ins aux with
      | true => some (pc, ls, st, sl, h)
      | false => (match dec ins nx aux v pc ls st sl h with
        | none => none
        | some (.inl (b, x1, x2)) => cond b (K d i x1) (K d i x2)
        | some (.inr (j, as, rest)) => (match d with
          | 0 => none
          | d' + 1 => bC (C d' j as sl h) (fun vs sl2 h2 => K (d' + 1) i (nx, ls, vs ++ rest, sl2, h2))))))
theorem stb_R (d i : Nat) (x : XR) : R d i x = stb R d i x := by
  rw [R_eq, stc_R]
  obtain ⟨pc, ls, st, sl, hp⟩ := x
  unfold stc stb bC
  dsimp only
  cases x_trm (xk i pc).1 (xk i pc).2.2.1 with
  | true => rfl
  | false =>
    dsimp only
    cases dec (xk i pc).1 (xk i pc).2.1 (xk i pc).2.2.1 (xk i pc).2.2.2 pc ls st sl hp with
    | none => rfl
    | some o =>
      rcases o with ⟨b, x1, x2⟩ | ⟨j, as, rest⟩
      · rfl
      · cases d with
        | zero => rfl
        | succ d' =>
          dsimp only
          cases C d' j as sl hp with
          | none => rfl
          | some z => rfl
noncomputable def gob (cs : List Nat) : Nat → Nat → Nat → XR → Option XR
  | 0 => R
  | n + 1 => stb (fun d i x => cond (x_mem cs x.1) (R d i x) (gob cs n d i x))
theorem R_gob (cs : List Nat) (n : Nat) : ∀ d i x, R d i x = gob cs n d i x := by
  induction n with
  | zero => intro d i x; rfl
  | succ n ih =>
    intro d i x
    rw [stb_R]
    have : (fun d i x => cond (x_mem cs x.1) (R d i x) (gob cs n d i x)) = R := by
      funext d i x
      rw [← ih d i x]
      cases x_mem cs x.1 <;> rfl
    show stb R d i x = stb (fun d i x => cond (x_mem cs x.1) (R d i x) (gob cs n d i x)) d i x
    rw [this]
def RH (I : Nat → Int32) (w : Int64) (A : Nat → Nat → Int32) (N : Nat → Nat → Int64) : List AC := [.inr (11, [.int (I 0), .ref 1, .int (I 2), .int (I 3), .int (I 4), .int (I 5), .int (I 6), .int (I 7), .int (I 8), .int (I 9), .int (I 10), .int (I 11), .long w, .int (I 13), .ref 2, .ref 3, .ref 4, .ref 5, .ref 6, .ref 7, .ref 8, .ref 9, .ref 10, .int (I 23), .int (I 24), .ref 11, .ref 12, .int (I 27), .int (I 28), .ref 13, .ref 14, .int (I 31), .ref 15, .int (I 33), .int (I 34), .ref 16, .ref 17, .int (I 37), .int (I 38), .ref 18, .int (I 40), .int (I 41), .int (I 42), .int (I 43)]),
  .inl (0, 940, .inl (A 1)), .inl (0, 369, .inl (A 2)), .inl (0, 70, .inl (A 3)), .inl (0, 738, .inl (A 4)), .inl (0, 456, .inl (A 5)), .inl (0, 57, .inl (A 6)), .inl (1, 6, .inr (.inl (N 7))), .inl (1, 6, .inr (.inl (N 8))), .inl (1, 12, .inr (.inl (N 9))), .inl (3, 2, .inl (A 10)), .inl (0, 6, .inl (A 11)), .inl (0, 6, .inl (A 12)), .inl (0, 64, .inl (A 13)), .inl (0, 64, .inl (A 14)), .inl (0, 64, .inl (A 15)), .inl (0, 160, .inl (A 16)), .inl (0, 4, .inl (A 17)), .inl (0, 240, .inl (A 18))]
def CH (I : Nat → Nat → Int32) (A : Nat → Nat → Int32) (N : Nat → Nat → Int64) (V : Nat → Nat → Option Nat) (lt : Int64) (tw : Option Nat) (sp sr : Nat) (X : List AC) : List AC :=
  .inr (10, [.ref 1, .ref 3, .ref 12, .ref 21, .ref 95, .ref 101, .ref 106, .ref sp, .ref sr, .ref 116, .ref 117, .ref 118, .ref 119, .int (I 0 13), .int (I 0 14), .int (I 0 15)]) ::
  .inr (8, [.ref 2, .int (I 1 1), .int (I 1 2), .int (I 1 3), .int (I 1 4), .int (I 1 5), x_rf tw, .long lt, .int (I 1 8), .int (I 1 9), .int (I 1 10), .int (I 1 11)]) ::
  .inl (2, 940, .inl (A 2)) ::
  .inr (6, [.ref 4, .ref 5, .ref 6, .ref 7, .ref 8, .ref 9, .ref 10, .ref 11, .int (I 3 8), .int (I 3 9), .int (I 3 10), .int (I 3 11), .int (I 3 12), .int (I 3 13)]) ::
  .inl (1, 6, .inr (.inl (N 4))) ::
  .inl (0, 6, .inl (A 5)) ::
  .inl (0, 6, .inl (A 6)) ::
  .inl (0, 6, .inl (A 7)) ::
  .inl (0, 12, .inl (A 8)) ::
  .inl (0, 12, .inl (A 9)) ::
  .inl (0, 12, .inl (A 10)) ::
  .inl (0, 12, .inl (A 11)) ::
  .inr (6, [.ref 13, .ref 14, .ref 15, .ref 16, .ref 17, .ref 18, .ref 19, .ref 20, .int (I 12 8), .int (I 12 9), .int (I 12 10), .int (I 12 11), .int (I 12 12), .int (I 12 13)]) ::
  .inl (1, 6, .inr (.inl (N 13))) ::
  .inl (0, 6, .inl (A 14)) ::
  .inl (0, 6, .inl (A 15)) ::
  .inl (0, 6, .inl (A 16)) ::
  .inl (0, 12, .inl (A 17)) ::
  .inl (0, 12, .inl (A 18)) ::
  .inl (0, 12, .inl (A 19)) ::
  .inl (0, 12, .inl (A 20)) ::
  .inr (3, [.ref 22, .int (I 21 1), .int (I 21 2)]) ::
  .inl (4, 8, .inr (.inr (.inr (.inr (V 22))))) ::
  .inr (6, [.ref 24, .ref 25, .ref 26, .ref 27, .ref 28, .ref 29, .ref 30, .ref 31, .int (I 23 8), .int (I 23 9), .int (I 23 10), .int (I 23 11), .int (I 23 12), .int (I 23 13)]) ::
  .inl (1, 6, .inr (.inl (N 24))) ::
  .inl (0, 6, .inl (A 25)) ::
  .inl (0, 6, .inl (A 26)) ::
  .inl (0, 6, .inl (A 27)) ::
  .inl (0, 12, .inl (A 28)) ::
  .inl (0, 12, .inl (A 29)) ::
  .inl (0, 12, .inl (A 30)) ::
  .inl (0, 12, .inl (A 31)) ::
  .inr (6, [.ref 33, .ref 34, .ref 35, .ref 36, .ref 37, .ref 38, .ref 39, .ref 40, .int (I 32 8), .int (I 32 9), .int (I 32 10), .int (I 32 11), .int (I 32 12), .int (I 32 13)]) ::
  .inl (1, 6, .inr (.inl (N 33))) ::
  .inl (0, 6, .inl (A 34)) ::
  .inl (0, 6, .inl (A 35)) ::
  .inl (0, 6, .inl (A 36)) ::
  .inl (0, 12, .inl (A 37)) ::
  .inl (0, 12, .inl (A 38)) ::
  .inl (0, 12, .inl (A 39)) ::
  .inl (0, 12, .inl (A 40)) ::
  .inr (6, [.ref 42, .ref 43, .ref 44, .ref 45, .ref 46, .ref 47, .ref 48, .ref 49, .int (I 41 8), .int (I 41 9), .int (I 41 10), .int (I 41 11), .int (I 41 12), .int (I 41 13)]) ::
  .inl (1, 6, .inr (.inl (N 42))) ::
  .inl (0, 6, .inl (A 43)) ::
  .inl (0, 6, .inl (A 44)) ::
  .inl (0, 6, .inl (A 45)) ::
  .inl (0, 12, .inl (A 46)) ::
  .inl (0, 12, .inl (A 47)) ::
  .inl (0, 12, .inl (A 48)) ::
  .inl (0, 12, .inl (A 49)) ::
  .inr (6, [.ref 51, .ref 52, .ref 53, .ref 54, .ref 55, .ref 56, .ref 57, .ref 58, .int (I 50 8), .int (I 50 9), .int (I 50 10), .int (I 50 11), .int (I 50 12), .int (I 50 13)]) ::
  .inl (1, 6, .inr (.inl (N 51))) ::
  .inl (0, 6, .inl (A 52)) ::
  .inl (0, 6, .inl (A 53)) ::
  .inl (0, 6, .inl (A 54)) ::
  .inl (0, 12, .inl (A 55)) ::
  .inl (0, 12, .inl (A 56)) ::
  .inl (0, 12, .inl (A 57)) ::
  .inl (0, 12, .inl (A 58)) ::
  .inr (6, [.ref 60, .ref 61, .ref 62, .ref 63, .ref 64, .ref 65, .ref 66, .ref 67, .int (I 59 8), .int (I 59 9), .int (I 59 10), .int (I 59 11), .int (I 59 12), .int (I 59 13)]) ::
  .inl (1, 6, .inr (.inl (N 60))) ::
  .inl (0, 6, .inl (A 61)) ::
  .inl (0, 6, .inl (A 62)) ::
  .inl (0, 6, .inl (A 63)) ::
  .inl (0, 12, .inl (A 64)) ::
  .inl (0, 12, .inl (A 65)) ::
  .inl (0, 12, .inl (A 66)) ::
  .inl (0, 12, .inl (A 67)) ::
  .inr (6, [.ref 69, .ref 70, .ref 71, .ref 72, .ref 73, .ref 74, .ref 75, .ref 76, .int (I 68 8), .int (I 68 9), .int (I 68 10), .int (I 68 11), .int (I 68 12), .int (I 68 13)]) ::
  .inl (1, 6, .inr (.inl (N 69))) ::
  .inl (0, 6, .inl (A 70)) ::
  .inl (0, 6, .inl (A 71)) ::
  .inl (0, 6, .inl (A 72)) ::
  .inl (0, 12, .inl (A 73)) ::
  .inl (0, 12, .inl (A 74)) ::
  .inl (0, 12, .inl (A 75)) ::
  .inl (0, 12, .inl (A 76)) ::
  .inr (6, [.ref 78, .ref 79, .ref 80, .ref 81, .ref 82, .ref 83, .ref 84, .ref 85, .int (I 77 8), .int (I 77 9), .int (I 77 10), .int (I 77 11), .int (I 77 12), .int (I 77 13)]) ::
  .inl (1, 6, .inr (.inl (N 78))) ::
  .inl (0, 6, .inl (A 79)) ::
  .inl (0, 6, .inl (A 80)) ::
  .inl (0, 6, .inl (A 81)) ::
  .inl (0, 12, .inl (A 82)) ::
  .inl (0, 12, .inl (A 83)) ::
  .inl (0, 12, .inl (A 84)) ::
  .inl (0, 12, .inl (A 85)) ::
  .inr (6, [.ref 87, .ref 88, .ref 89, .ref 90, .ref 91, .ref 92, .ref 93, .ref 94, .int (I 86 8), .int (I 86 9), .int (I 86 10), .int (I 86 11), .int (I 86 12), .int (I 86 13)]) ::
  .inl (1, 6, .inr (.inl (N 87))) ::
  .inl (0, 6, .inl (A 88)) ::
  .inl (0, 6, .inl (A 89)) ::
  .inl (0, 6, .inl (A 90)) ::
  .inl (0, 12, .inl (A 91)) ::
  .inl (0, 12, .inl (A 92)) ::
  .inl (0, 12, .inl (A 93)) ::
  .inl (0, 12, .inl (A 94)) ::
  .inr (9, [.ref 96, .ref 97, .ref 98, .int (I 95 3), .ref 99, .ref 100]) ::
  .inl (0, 6, .inl (A 96)) ::
  .inl (0, 6, .inl (A 97)) ::
  .inl (0, 6, .inl (A 98)) ::
  .inl (0, 64, .inl (A 99)) ::
  .inl (0, 64, .inl (A 100)) ::
  .inr (1, [.ref 102, .ref 103, .ref 104, .ref 105, .int (I 101 4), .int (I 101 5), .int (I 101 6), .int (I 101 7), .int (I 101 8), .int (I 101 9)]) ::
  .inl (0, 40, .inl (A 102)) ::
  .inl (0, 40, .inl (A 103)) ::
  .inl (0, 40, .inl (A 104)) ::
  .inl (0, 40, .inl (A 105)) ::
  .inr (2, [.ref 107, .int (I 106 1)]) ::
  .inl (2, 32, .inl (A 107)) ::
  .inr (4, [.ref 109, .ref 110, .ref 111, .int (I 108 3)]) ::
  .inl (5, 40, .inr (.inr (.inr (.inr (V 109))))) ::
  .inl (0, 40, .inl (A 110)) ::
  .inl (0, 40, .inl (A 111)) ::
  .inr (4, [.ref 113, .ref 114, .ref 115, .int (I 112 3)]) ::
  .inl (5, 40, .inr (.inr (.inr (.inr (V 113))))) ::
  .inl (0, 40, .inl (A 114)) ::
  .inl (0, 40, .inl (A 115)) ::
  .inl (4, 2, .inr (.inr (.inr (.inr (V 116))))) ::
  .inl (6, 2, .inr (.inr (.inr (.inr (V 117))))) ::
  .inl (3, 2, .inl (A 118)) ::
  .inl (0, 12, .inl (A 119)) ::
  .inr (6, [.ref 121, .ref 122, .ref 123, .ref 124, .ref 125, .ref 126, .ref 127, .ref 128, .int (I 120 8), .int (I 120 9), .int (I 120 10), .int (I 120 11), .int (I 120 12), .int (I 120 13)]) ::
  .inl (1, 6, .inr (.inl (N 121))) ::
  .inl (0, 6, .inl (A 122)) ::
  .inl (0, 6, .inl (A 123)) ::
  .inl (0, 6, .inl (A 124)) ::
  .inl (0, 12, .inl (A 125)) ::
  .inl (0, 12, .inl (A 126)) ::
  .inl (0, 12, .inl (A 127)) ::
  .inl (0, 12, .inl (A 128)) ::
  .inr (4, [.ref 130, .ref 131, .ref 132, .int (I 129 3)]) ::
  .inl (5, 40, .inr (.inr (.inr (.inr (V 130))))) ::
  .inl (0, 40, .inl (A 131)) ::
  .inl (0, 40, .inl (A 132)) ::
  .inr (6, [.ref 134, .ref 135, .ref 136, .ref 137, .ref 138, .ref 139, .ref 140, .ref 141, .int (I 133 8), .int (I 133 9), .int (I 133 10), .int (I 133 11), .int (I 133 12), .int (I 133 13)]) ::
  .inl (1, 6, .inr (.inl (N 134))) ::
  .inl (0, 6, .inl (A 135)) ::
  .inl (0, 6, .inl (A 136)) ::
  .inl (0, 6, .inl (A 137)) ::
  .inl (0, 12, .inl (A 138)) ::
  .inl (0, 12, .inl (A 139)) ::
  .inl (0, 12, .inl (A 140)) ::
  .inl (0, 12, .inl (A 141)) ::
  .inr (4, [.ref 143, .ref 144, .ref 145, .int (I 142 3)]) ::
  .inl (5, 40, .inr (.inr (.inr (.inr (V 143))))) ::
  .inl (0, 40, .inl (A 144)) ::
  .inl (0, 40, .inl (A 145)) :: X
theorem R_tsw {d i pc : Nat} {ls : XL} {st : List Value} {sl : Nat} {h : List AC} {x : Int32} {df lo hi : Int} {offs : Array Int} {nx : Nat} {aux : List Nat} {v : Int32} (hk : xk i pc = (.tableswitch df lo hi offs, nx, aux, v)) : R d i (pc, ls, .int x :: st, sl, h) = R d i (x_tsw pc x df lo hi offs, ls, st, sl, h) := by
  rw [stb_R]
  unfold stb
  dsimp only
  rw [hk]
  rfl
theorem R_lsw {d i pc : Nat} {ls : XL} {st : List Value} {sl : Nat} {h : List AC} {x : Int32} {df : Int} {ps : List (Int × Int)} {nx : Nat} {aux : List Nat} {v : Int32} (hk : xk i pc = (.lookupswitch df ps.toArray, nx, aux, v)) : R d i (pc, ls, .int x :: st, sl, h) = R d i (((pc : Int) + Op.lookupswitch.offset ps df x.toInt).toNat, ls, st, sl, h) := by
  rw [stb_R]
  unfold stb
  dsimp only
  rw [hk]
  rfl
theorem x_tsw_out {pc : Nat} {x : Int32} {df lo hi : Int} {offs : Array Int} (hx : (decide (x.toInt < lo) || decide (hi < x.toInt)) = true) : x_tsw pc x df lo hi offs = ((pc : Int) + df).toNat := by
  unfold x_tsw
  rw [hx]
  rfl
theorem R_acne {d i pc : Nat} {ls : XL} {st : List Value} {sl : Nat} {h : List AC} {x y t : Nat} {q : Int} {nx : Nat} {v : Int32} (hk : xk i pc = (.if_acmp .ne q, nx, [t], v)) (hx : x_isw x = true) (hy : x_isw y = true) : R d i (pc, ls, .ref y :: .ref x :: st, sl, h) = cond (!(Nat.beq x y)) (R d i (t, ls, st, sl, h)) (R d i (nx, ls, st, sl, h)) := by
  rw [stb_R]
  unfold stb
  dsimp only
  rw [hk]
  dsimp only [x_trm, dec]
  rw [hx, hy]
  rfl
theorem R_aceq {d i pc : Nat} {ls : XL} {st : List Value} {sl : Nat} {h : List AC} {x y t : Nat} {q : Int} {nx : Nat} {v : Int32} (hk : xk i pc = (.if_acmp .eq q, nx, [t], v)) (hx : x_isw x = true) (hy : x_isw y = true) : R d i (pc, ls, .ref y :: .ref x :: st, sl, h) = cond (Nat.beq x y) (R d i (t, ls, st, sl, h)) (R d i (nx, ls, st, sl, h)) := by
  rw [stb_R]
  unfold stb
  dsimp only
  rw [hk]
  dsimp only [x_trm, dec]
  rw [hx, hy]
  rfl
theorem dec_let {pc : Nat} {ls : XL} {st : List Value} {sl : Nat} {h : List AC} {a q : Nat} {nx : Nat} {v : Int32} (ha : x_isw a = true) : dec (.getfield q) nx [99, 0] v pc ls (.ref a :: st) sl h = x_nx (nx, ls, .long (x_lets (a - 1000000)) :: st, sl, h) := by
  show cond (x_isw a) (x_nx (nx, ls, .long (x_lets (a - 1000000)) :: st, sl, h)) none = _
  rw [ha]
  rfl
theorem R_let {d i pc : Nat} {ls : XL} {st : List Value} {sl : Nat} {h : List AC} {a q : Nat} {nx : Nat} {v : Int32} (hk : xk i pc = (.getfield q, nx, [99, 0], v)) (ha : x_isw a = true) : R d i (pc, ls, .ref a :: st, sl, h) = R d i (nx, ls, .long (x_lets (a - 1000000)) :: st, sl, h) := by
  rw [stb_R]
  unfold stb
  dsimp only
  rw [hk]
  dsimp only [x_trm]
  rw [dec_let ha]
  rfl
theorem dec_ord {pc : Nat} {ls : XL} {st : List Value} {sl : Nat} {h : List AC} {a q k : Nat} {nx : Nat} {v : Int32} (ha : x_isw a = true) (hc : Nat.ble (x_cat st) 8 = true) : dec (.invokevirtual q) nx [1002, k] v pc ls (.ref a :: st) sl h = x_nx (nx, ls, .int (Int32.ofNat (a - 1000000)) :: st, sl, h) := by
  show cond (x_isw a && Nat.ble (x_cat st) 8) (x_nx (nx, ls, .int (Int32.ofNat (a - 1000000)) :: st, sl, h)) none = _
  rw [ha, hc]
  rfl
theorem R_ord {d i pc : Nat} {ls : XL} {st : List Value} {sl : Nat} {h : List AC} {a q k : Nat} {nx : Nat} {v : Int32} (hk : xk i pc = (.invokevirtual q, nx, [1002, k], v)) (ha : x_isw a = true) (hc : Nat.ble (x_cat st) 8 = true) : R d i (pc, ls, .ref a :: st, sl, h) = R d i (nx, ls, .int (Int32.ofNat (a - 1000000)) :: st, sl, h) := by
  rw [stb_R]
  unfold stb
  dsimp only
  rw [hk]
  dsimp only [x_trm]
  rw [dec_ord ha hc]
  rfl
