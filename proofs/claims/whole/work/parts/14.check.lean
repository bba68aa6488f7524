/-! EVERY INSTRUCTION OF THE TABLE IS THE PROGRAM'S, AND LINKED AS IT SAYS -/
def x_hs (L : List (List Nat)) (q : List Nat) : Bool := L.any (fun r => r == q)
theorem x_hs_mem {L : List (List Nat)} {q : List Nat} (h : x_hs L q = true) : q ∈ L := by
  simp only [x_hs, List.any_eq_true, beq_iff_eq] at h
  obtain ⟨r, hr, e⟩ := h
  rw [← e]; exact hr
def x_tg (pc : Nat) (o : Int) (aux : List Nat) : Bool :=
  match aux with
  | [t] => decide ((pc : Int) + o = (t : Int))
  | _ => true
theorem x_tg_of {pc : Nat} {o : Int} {aux : List Nat} (h : x_tg pc o aux = true) : ∀ t, aux = [t] → (pc : Int) + o = (t : Int) := fun t e => by
  subst e
  simpa [x_tg] using h
def x_sd (own : Nat) (ini : Bool) (pc : Nat) (ins : Instr) (len : Nat) (aux : List Nat) (v : Int32) : Bool :=
  match ins with
  | .iload _ => Nat.beq len 2
  | .lload _ => Nat.beq len 2
  | .aload _ => Nat.beq len 2
  | .istore _ => Nat.beq len 2
  | .lstore _ => Nat.beq len 2
  | .astore _ => Nat.beq len 2
  | .bipush n => Nat.beq len 2 && decide ((Int8.ofInt n).toInt32 = v)
  | .iconst n => Nat.beq len 1 && decide (Int32.ofInt n = v)
  | .sipush n => Nat.beq len 3 && decide ((Int16.ofInt n).toInt32 = v)
  | .iinc _ n => Nat.beq len 3 && decide (Int32.ofInt n = v)
  | .if_icmp _ q => Nat.beq len 3 && x_tg pc q aux
  | .ifCond _ q => Nat.beq len 3 && x_tg pc q aux
  | .goto q => Nat.beq len 3 && x_tg pc q aux
  | .if_acmp _ q => Nat.beq len 3 && x_tg pc q aux
  | .ifnonnull q => Nat.beq len 3 && x_tg pc q aux
  | .ldc q => Nat.beq len 2 && (match aux with | [] => x_hs x_lk0 [own, q, v.toNatClampNeg] && decide (Int32.ofNat v.toNatClampNeg = v) | [k] => !x_ist k || x_hs x_lt [own, q, k] | _ => true)
  | .ldc_w q => Nat.beq len 3 && (match aux with | [] => x_hs x_lk0 [own, q, v.toNatClampNeg] && decide (Int32.ofNat v.toNatClampNeg = v) | _ => true)
  | .ldc2_w q => Nat.beq len 3 && (x_hs x_lj [own, q, v.toNatClampNeg] && decide (Int64.ofNat v.toNatClampNeg = v.toInt64))
  | .getfield q => Nat.beq len 3 && (match aux with | [ci, k, _] => x_hs x_lg [own, q, ci, k] | [99, 0] => x_hs x_ll [own, q] | _ => true)
  | .putfield q => Nat.beq len 3 && (match aux with | [ci, k, t] => x_hs x_lp [own, q, ci, k, t] || (ini && x_hs x_lf [own, q, ci, k, t]) | _ => true)
  | .getstatic q => Nat.beq len 3 && (match aux with | [k] => x_hs x_ls [own, q, k] | _ => true)
  | .invokestatic q => Nat.beq len 3 && (match aux with | [1001, _] => x_hs x_lc [own, q] | [1005, _] => x_hs x_lx [own, q] | [1006, _] => x_hs x_li [own, q] | [j, k, c] => x_hs x_lm [own, q, 1, j, k, c] | _ => true)
  | .invokespecial q => Nat.beq len 3 && (match aux with | [1000, _] => x_hs x_lo [own, q] | [j, k, c] => x_hs x_lm [own, q, 2, j, k, c] | _ => true)
  | .invokevirtual q => Nat.beq len 3 && (match aux with | [1002, _] => x_hs [[7, 54]] [own, q] | [1003, _] => x_hs [[5, 62]] [own, q] | [1004, _] => x_hs [[5, 67]] [own, q] | [j, k, c] => x_hs x_lm [own, q, 0, j, k, c] | _ => true)
  | .new q => Nat.beq len 3 && (match aux with | [ci, k] => Nat.beq ci 99 || x_hs x_ln [own, q, ci, k] | _ => true)
  | .newarray a => Nat.beq len 2 && (match aux with | [t] => Nat.blt t 4 && decide (newarray.typeOf a = tyT t) | _ => true)
  | .anewarray q => Nat.beq len 3 && (match aux with | [t] => x_hs x_la [own, q, t] | _ => true)
  | .tableswitch df lo hi offs => decide ((offs.size : Int) = hi - lo + 1) && (decide (0 ≤ (pc : Int) + df) && offs.toList.all (fun q => decide (0 ≤ (pc : Int) + q)))
  | .lookupswitch df ps => ((ps.toList.zip (ps.toList.drop 1)).all (fun (a, next) => a.1 < next.1)) && (decide (0 ≤ (pc : Int) + df) && ps.toList.all (fun q => decide (0 ≤ (pc : Int) + q.2)))
  | _ => Nat.beq len 1
def x_ini (i : Nat) : Bool := x_mem [6, 8, 19, 26, 30, 36, 42, 80, 86, 105, 114, 184] i
def x_okB (i pc : Nat) : Bool :=
  match xk i pc with
  | (.nop, _, _, _) => true
  | (ins, nx, aux, v) => Nat.ble pc nx && (decide (decode (xb i) pc = .ok (ins, nx - pc)) && x_sd (xoi i) (x_ini i) pc ins (nx - pc) aux v)
theorem x_cls : ∀ i, i < 282 → (xy i).cls = x_cn (xoi i) := by
  have h : ((List.range 282).all fun i => decide ((xy i).cls = x_cn (xoi i))) = true := by decide +kernel
  intro i hi
  simpa using List.all_eq_true.mp h i (List.mem_range.mpr hi)
theorem x_ini_ok : ∀ i, i < 282 → x_ini i = true → (xy i).name = "<init>" := by
  have h : ((List.range 282).all fun i => !x_ini i || decide ((xy i).name = "<init>")) = true := by decide +kernel
  intro i hi h1
  have := List.all_eq_true.mp h i (List.mem_range.mpr hi)
  rw [h1] at this
  simpa using this
theorem xk_out {i pc : Nat} (h : xln i ≤ pc) : xk i pc = x_bad := by
  unfold xk
  rw [Nat.ble_eq_true_of_le h]
  rfl
theorem xk_bad (i : Nat) : xk i 65535 = x_bad := xk_out (Nat.le_trans (Nat.min_le_left _ _) (by decide))
set_option maxRecDepth 100000 in
theorem okh_0 : (((List.range 15).drop 0).all fun i => (List.range (xln i)).all fun pc => x_okB i pc) = true := by decide +kernel
set_option maxRecDepth 100000 in
theorem okh_1 : (((List.range 29).drop 15).all fun i => (List.range (xln i)).all fun pc => x_okB i pc) = true := by decide +kernel
set_option maxRecDepth 100000 in
theorem okh_2 : (((List.range 39).drop 29).all fun i => (List.range (xln i)).all fun pc => x_okB i pc) = true := by decide +kernel
set_option maxRecDepth 100000 in
theorem okh_3 : (((List.range 49).drop 39).all fun i => (List.range (xln i)).all fun pc => x_okB i pc) = true := by decide +kernel
set_option maxRecDepth 100000 in
theorem okh_4 : (((List.range 69).drop 49).all fun i => (List.range (xln i)).all fun pc => x_okB i pc) = true := by decide +kernel
set_option maxRecDepth 100000 in
theorem okh_5 : (((List.range 80).drop 69).all fun i => (List.range (xln i)).all fun pc => x_okB i pc) = true := by decide +kernel
set_option maxRecDepth 100000 in
theorem okh_6 : (((List.range 91).drop 80).all fun i => (List.range (xln i)).all fun pc => x_okB i pc) = true := by decide +kernel
set_option maxRecDepth 100000 in
theorem okh_7 : (((List.range 107).drop 91).all fun i => (List.range (xln i)).all fun pc => x_okB i pc) = true := by decide +kernel
set_option maxRecDepth 100000 in
theorem okh_8 : (((List.range 115).drop 107).all fun i => (List.range (xln i)).all fun pc => x_okB i pc) = true := by decide +kernel
set_option maxRecDepth 100000 in
theorem okh_9 : (((List.range 128).drop 115).all fun i => (List.range (xln i)).all fun pc => x_okB i pc) = true := by decide +kernel
set_option maxRecDepth 100000 in
theorem okh_10 : (((List.range 145).drop 128).all fun i => (List.range (xln i)).all fun pc => x_okB i pc) = true := by decide +kernel
set_option maxRecDepth 100000 in
theorem okh_11 : (((List.range 157).drop 145).all fun i => (List.range (xln i)).all fun pc => x_okB i pc) = true := by decide +kernel
set_option maxRecDepth 100000 in
theorem okh_12 : (((List.range 175).drop 157).all fun i => (List.range (xln i)).all fun pc => x_okB i pc) = true := by decide +kernel
set_option maxRecDepth 100000 in
theorem okh_13 : (((List.range 182).drop 175).all fun i => (List.range (xln i)).all fun pc => x_okB i pc) = true := by decide +kernel
set_option maxRecDepth 100000 in
theorem okh_14 : (((List.range 192).drop 182).all fun i => (List.range (xln i)).all fun pc => x_okB i pc) = true := by decide +kernel
set_option maxRecDepth 100000 in
theorem okh_15 : (((List.range 206).drop 192).all fun i => (List.range (xln i)).all fun pc => x_okB i pc) = true := by decide +kernel
set_option maxRecDepth 100000 in
theorem okh_16 : (((List.range 217).drop 206).all fun i => (List.range (xln i)).all fun pc => x_okB i pc) = true := by decide +kernel
set_option maxRecDepth 100000 in
theorem okh_17 : (((List.range 224).drop 217).all fun i => (List.range (xln i)).all fun pc => x_okB i pc) = true := by decide +kernel
set_option maxRecDepth 100000 in
theorem okh_18 : (((List.range 238).drop 224).all fun i => (List.range (xln i)).all fun pc => x_okB i pc) = true := by decide +kernel
set_option maxRecDepth 100000 in
theorem okh_19 : (((List.range 245).drop 238).all fun i => (List.range (xln i)).all fun pc => x_okB i pc) = true := by decide +kernel
set_option maxRecDepth 100000 in
theorem okh_20 : (((List.range 262).drop 245).all fun i => (List.range (xln i)).all fun pc => x_okB i pc) = true := by decide +kernel
set_option maxRecDepth 100000 in
theorem okh_21 : (((List.range 266).drop 262).all fun i => (List.range (xln i)).all fun pc => x_okB i pc) = true := by decide +kernel
set_option maxRecDepth 100000 in
theorem okh_22 : (((List.range 277).drop 266).all fun i => (List.range (xln i)).all fun pc => x_okB i pc) = true := by decide +kernel
set_option maxRecDepth 100000 in
theorem okh_23 : (((List.range 282).drop 277).all fun i => (List.range (xln i)).all fun pc => x_okB i pc) = true := by decide +kernel
