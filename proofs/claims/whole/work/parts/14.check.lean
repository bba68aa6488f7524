/-! EVERY INSTRUCTION OF THE TABLE IS THE PROGRAM'S, AND LINKED AS IT SAYS -/
def x_hs (L : List (List Nat)) (q : List Nat) : Bool := L.any (fun r => r == q)
theorem x_hs_mem {L : List (List Nat)} {q : List Nat} (h : x_hs L q = true) : q ∈ L := by
  simp only [x_hs, List.any_eq_true, beq_iff_eq] at h
  obtain ⟨r, hr, e⟩ := h
  rw [← e]; exact hr
def x_tg (pc : Nat) (o : Int) (aux : List Nat) : Bool :=
  match aux with
  | [t] => decide ((pc : Int) + o = (t : Int))
  | _ => true
theorem x_tg_of {pc : Nat} {o : Int} {aux : List Nat} (h : x_tg pc o aux = true) : ∀ t, aux = [t] → (pc : Int) + o = (t : Int) := fun t e => by
  subst e
  simpa [x_tg] using h
def x_sd (own : Nat) (ini : Bool) (pc : Nat) (ins : Instr) (len : Nat) (aux : List Nat) (v : Int32) : Bool :=
  match ins with
  | .iload _ => Nat.beq len 2
  | .lload _ => Nat.beq len 2
  | .aload _ => Nat.beq len 2
  | .istore _ => Nat.beq len 2
  | .lstore _ => Nat.beq len 2
  | .astore _ => Nat.beq len 2
  | .bipush n => Nat.beq len 2 && decide ((Int8.ofInt n).toInt32 = v)
  | .iconst n => Nat.beq len 1 && decide (Int32.ofInt n = v)
  | .sipush n => Nat.beq len 3 && decide ((Int16.ofInt n).toInt32 = v)
  | .iinc _ n => Nat.beq len 3 && decide (Int32.ofInt n = v)
  | .if_icmp _ q => Nat.beq len 3 && x_tg pc q aux
  | .ifCond _ q => Nat.beq len 3 && x_tg pc q aux
  | .goto q => Nat.beq len 3 && x_tg pc q aux
  | .if_acmp _ q => Nat.beq len 3 && x_tg pc q aux
  | .ifnonnull q => Nat.beq len 3 && x_tg pc q aux
  | .ldc q => Nat.beq len 2 && (match aux with | [] => x_hs x_lk0 [own, q, v.toNatClampNeg] && decide (Int32.ofNat v.toNatClampNeg = v) | [k] => !x_ist k || x_hs x_lt [own, q, k] | _ => true)
  | .ldc_w q => Nat.beq len 3 && (match aux with | [] => x_hs x_lk0 [own, q, v.toNatClampNeg] && decide (Int32.ofNat v.toNatClampNeg = v) | _ => true)
  | .ldc2_w q => Nat.beq len 3 && (x_hs x_lj [own, q, v.toNatClampNeg] && decide (Int64.ofNat v.toNatClampNeg = v.toInt64))
  | .getfield q => Nat.beq len 3 && (match aux with | [ci, k, _] => x_hs x_lg [own, q, ci, k] | [99, 0] => x_hs x_ll [own, q] | _ => true)
  | .putfield q => Nat.beq len 3 && (match aux with | [ci, k, t] => x_hs x_lp [own, q, ci, k, t] || (ini && x_hs x_lf [own, q, ci, k, t]) | _ => true)
  | .getstatic q => Nat.beq len 3 && (match aux with | [k] => x_hs x_ls [own, q, k] | _ => true)
  | .invokestatic q => Nat.beq len 3 && (match aux with | [1001, _] => x_hs x_lc [own, q] | [1005, _] => x_hs x_lx [own, q] | [1006, _] => x_hs x_li [own, q] | [j, k, c] => x_hs x_lm [own, q, 1, j, k, c] | _ => true)
  | .invokespecial q => Nat.beq len 3 && (match aux with | [1000, _] => x_hs x_lo [own, q] | [j, k, c] => x_hs x_lm [own, q, 2, j, k, c] | _ => true)
  | .invokevirtual q => Nat.beq len 3 && (match aux with | [1002, _] => x_hs [[7, 54]] [own, q] | [1003, _] => x_hs [[5, 62]] [own, q] | [1004, _] => x_hs [[5, 67]] [own, q] | [j, k, c] => x_hs x_lm [own, q, 0, j, k, c] | _ => true)
  | .new q => Nat.beq len 3 && (match aux with | [ci, k] => Nat.beq ci 99 || x_hs x_ln [own, q, ci, k] | _ => true)
  | .newarray a => Nat.beq len 2 && (match aux with | [t] => Nat.blt t 4 && decide (newarray.typeOf a = tyT t) | _ => true)
  | .anewarray q => Nat.beq len 3 && (match aux with | [t] => x_hs x_la [own, q, t] | _ => true)
  | .tableswitch df lo hi offs => decide ((offs.size : Int) = hi - lo + 1) && (decide (0 ≤ (pc : Int) + df) && offs.toList.all (fun q => decide (0 ≤ (pc : Int) + q)))
  | .lookupswitch df ps => ((ps.toList.zip (ps.toList.drop 1)).all (fun (a, next) => a.1 < next.1)) && (decide (0 ≤ (pc : Int) + df) && ps.toList.all (fun q => decide (0 ≤ (pc : Int) + q.2)))
  | _ => Nat.beq len 1
def x_ini (i : Nat) : Bool := x_mem [6, 8, 19, 26, 30, 36, 42, 80, 86, 105, 114, 184] i
def x_okB (i pc : Nat) : Bool :=
  match xk i pc with
  | (.nop, _, _, _) => true
  | (ins, nx, aux, v) => Nat.ble pc nx && (decide (decode (xb i) pc = .ok (ins, nx - pc)) && x_sd (xoi i) (x_ini i) pc ins (nx - pc) aux v)
theorem x_cls : ∀ i, i < 282 → (xy i).cls = x_cn (xoi i) := by
  have h : ((List.range 282).all fun i => decide ((xy i).cls = x_cn (xoi i))) = true := by decide +kernel
  intro i hi
  simpa using List.all_eq_true.mp h i (List.mem_range.mpr hi)
theorem x_ini_ok : ∀ i, i < 282 → x_ini i = true → (xy i).name = "<init>" := by
  have h : ((List.range 282).all fun i => !x_ini i || decide ((xy i).name = "<init>")) = true := by decide +kernel
  intro i hi h1
  have := List.all_eq_true.mp h i (List.mem_range.mpr hi)
  rw [h1] at this
  simpa using this
theorem xk_out {i pc : Nat} (h : xln i ≤ pc) : xk i pc = x_bad := by
  unfold xk
  rw [Nat.ble_eq_true_of_le h]
  rfl
theorem xk_bad (i : Nat) : xk i 65535 = x_bad := xk_out (Nat.le_trans (Nat.min_le_left _ _) (by decide))
set_option maxRecDepth 100000 in
theorem okc_0 : ∀ i, 0 ≤ i → i < 15 → ((List.range (xln i)).all fun pc => x_okB i pc) = true := by
  have h : (((List.range 15).drop 0).all fun i => (List.range (xln i)).all fun pc => x_okB i pc) = true := by decide +kernel
  intro i h1 h2
  exact List.all_eq_true.mp h i (List.mem_iff_getElem?.mpr ⟨i - 0, by rw [List.getElem?_drop, List.getElem?_range (by omega)]; congr 1; omega⟩)
set_option maxRecDepth 100000 in
theorem okc_1 : ∀ i, 15 ≤ i → i < 29 → ((List.range (xln i)).all fun pc => x_okB i pc) = true := by
  have h : (((List.range 29).drop 15).all fun i => (List.range (xln i)).all fun pc => x_okB i pc) = true := by decide +kernel
  intro i h1 h2
  exact List.all_eq_true.mp h i (List.mem_iff_getElem?.mpr ⟨i - 15, by rw [List.getElem?_drop, List.getElem?_range (by omega)]; congr 1; omega⟩)
set_option maxRecDepth 100000 in
theorem okc_2 : ∀ i, 29 ≤ i → i < 39 → ((List.range (xln i)).all fun pc => x_okB i pc) = true := by
  have h : (((List.range 39).drop 29).all fun i => (List.range (xln i)).all fun pc => x_okB i pc) = true := by decide +kernel
  intro i h1 h2
  exact List.all_eq_true.mp h i (List.mem_iff_getElem?.mpr ⟨i - 29, by rw [List.getElem?_drop, List.getElem?_range (by omega)]; congr 1; omega⟩)
set_option maxRecDepth 100000 in
theorem okc_3 : ∀ i, 39 ≤ i → i < 49 → ((List.range (xln i)).all fun pc => x_okB i pc) = true := by
  have h : (((List.range 49).drop 39).all fun i => (List.range (xln i)).all fun pc => x_okB i pc) = true := by decide +kernel
  intro i h1 h2
  exact List.all_eq_true.mp h i (List.mem_iff_getElem?.mpr ⟨i - 39, by rw [List.getElem?_drop, List.getElem?_range (by omega)]; congr 1; omega⟩)
set_option maxRecDepth 100000 in
theorem okc_4 : ∀ i, 49 ≤ i → i < 69 → ((List.range (xln i)).all fun pc => x_okB i pc) = true := by
  have h : (((List.range 69).drop 49).all fun i => (List.range (xln i)).all fun pc => x_okB i pc) = true := by decide +kernel
  intro i h1 h2
  exact List.all_eq_true.mp h i (List.mem_iff_getElem?.mpr ⟨i - 49, by rw [List.getElem?_drop, List.getElem?_range (by omega)]; congr 1; omega⟩)
set_option maxRecDepth 100000 in
theorem okc_5 : ∀ i, 69 ≤ i → i < 80 → ((List.range (xln i)).all fun pc => x_okB i pc) = true := by
  have h : (((List.range 80).drop 69).all fun i => (List.range (xln i)).all fun pc => x_okB i pc) = true := by decide +kernel
  intro i h1 h2
  exact List.all_eq_true.mp h i (List.mem_iff_getElem?.mpr ⟨i - 69, by rw [List.getElem?_drop, List.getElem?_range (by omega)]; congr 1; omega⟩)
set_option maxRecDepth 100000 in
theorem okc_6 : ∀ i, 80 ≤ i → i < 91 → ((List.range (xln i)).all fun pc => x_okB i pc) = true := by
  have h : (((List.range 91).drop 80).all fun i => (List.range (xln i)).all fun pc => x_okB i pc) = true := by decide +kernel
  intro i h1 h2
  exact List.all_eq_true.mp h i (List.mem_iff_getElem?.mpr ⟨i - 80, by rw [List.getElem?_drop, List.getElem?_range (by omega)]; congr 1; omega⟩)
set_option maxRecDepth 100000 in
theorem okc_7 : ∀ i, 91 ≤ i → i < 108 → ((List.range (xln i)).all fun pc => x_okB i pc) = true := by
  have h : (((List.range 108).drop 91).all fun i => (List.range (xln i)).all fun pc => x_okB i pc) = true := by decide +kernel
  intro i h1 h2
  exact List.all_eq_true.mp h i (List.mem_iff_getElem?.mpr ⟨i - 91, by rw [List.getElem?_drop, List.getElem?_range (by omega)]; congr 1; omega⟩)
set_option maxRecDepth 100000 in
theorem okc_8 : ∀ i, 108 ≤ i → i < 116 → ((List.range (xln i)).all fun pc => x_okB i pc) = true := by
  have h : (((List.range 116).drop 108).all fun i => (List.range (xln i)).all fun pc => x_okB i pc) = true := by decide +kernel
  intro i h1 h2
  exact List.all_eq_true.mp h i (List.mem_iff_getElem?.mpr ⟨i - 108, by rw [List.getElem?_drop, List.getElem?_range (by omega)]; congr 1; omega⟩)
set_option maxRecDepth 100000 in
theorem okc_9 : ∀ i, 116 ≤ i → i < 129 → ((List.range (xln i)).all fun pc => x_okB i pc) = true := by
  have h : (((List.range 129).drop 116).all fun i => (List.range (xln i)).all fun pc => x_okB i pc) = true := by decide +kernel
  intro i h1 h2
  exact List.all_eq_true.mp h i (List.mem_iff_getElem?.mpr ⟨i - 116, by rw [List.getElem?_drop, List.getElem?_range (by omega)]; congr 1; omega⟩)
set_option maxRecDepth 100000 in
theorem okc_10 : ∀ i, 129 ≤ i → i < 145 → ((List.range (xln i)).all fun pc => x_okB i pc) = true := by
  have h : (((List.range 145).drop 129).all fun i => (List.range (xln i)).all fun pc => x_okB i pc) = true := by decide +kernel
  intro i h1 h2
  exact List.all_eq_true.mp h i (List.mem_iff_getElem?.mpr ⟨i - 129, by rw [List.getElem?_drop, List.getElem?_range (by omega)]; congr 1; omega⟩)
set_option maxRecDepth 100000 in
theorem okc_11 : ∀ i, 145 ≤ i → i < 157 → ((List.range (xln i)).all fun pc => x_okB i pc) = true := by
  have h : (((List.range 157).drop 145).all fun i => (List.range (xln i)).all fun pc => x_okB i pc) = true := by decide +kernel
  intro i h1 h2
  exact List.all_eq_true.mp h i (List.mem_iff_getElem?.mpr ⟨i - 145, by rw [List.getElem?_drop, List.getElem?_range (by omega)]; congr 1; omega⟩)
set_option maxRecDepth 100000 in
theorem okc_12 : ∀ i, 157 ≤ i → i < 175 → ((List.range (xln i)).all fun pc => x_okB i pc) = true := by
  have h : (((List.range 175).drop 157).all fun i => (List.range (xln i)).all fun pc => x_okB i pc) = true := by decide +kernel
  intro i h1 h2
  exact List.all_eq_true.mp h i (List.mem_iff_getElem?.mpr ⟨i - 157, by rw [List.getElem?_drop, List.getElem?_range (by omega)]; congr 1; omega⟩)
set_option maxRecDepth 100000 in
theorem okc_13 : ∀ i, 175 ≤ i → i < 182 → ((List.range (xln i)).all fun pc => x_okB i pc) = true := by
  have h : (((List.range 182).drop 175).all fun i => (List.range (xln i)).all fun pc => x_okB i pc) = true := by decide +kernel
  intro i h1 h2
  exact List.all_eq_true.mp h i (List.mem_iff_getElem?.mpr ⟨i - 175, by rw [List.getElem?_drop, List.getElem?_range (by omega)]; congr 1; omega⟩)
set_option maxRecDepth 100000 in
theorem okc_14 : ∀ i, 182 ≤ i → i < 192 → ((List.range (xln i)).all fun pc => x_okB i pc) = true := by
  have h : (((List.range 192).drop 182).all fun i => (List.range (xln i)).all fun pc => x_okB i pc) = true := by decide +kernel
  intro i h1 h2
  exact List.all_eq_true.mp h i (List.mem_iff_getElem?.mpr ⟨i - 182, by rw [List.getElem?_drop, List.getElem?_range (by omega)]; congr 1; omega⟩)
set_option maxRecDepth 100000 in
theorem okc_15 : ∀ i, 192 ≤ i → i < 206 → ((List.range (xln i)).all fun pc => x_okB i pc) = true := by
  have h : (((List.range 206).drop 192).all fun i => (List.range (xln i)).all fun pc => x_okB i pc) = true := by decide +kernel
  intro i h1 h2
  exact List.all_eq_true.mp h i (List.mem_iff_getElem?.mpr ⟨i - 192, by rw [List.getElem?_drop, List.getElem?_range (by omega)]; congr 1; omega⟩)
set_option maxRecDepth 100000 in
theorem okc_16 : ∀ i, 206 ≤ i → i < 217 → ((List.range (xln i)).all fun pc => x_okB i pc) = true := by
  have h : (((List.range 217).drop 206).all fun i => (List.range (xln i)).all fun pc => x_okB i pc) = true := by decide +kernel
  intro i h1 h2
  exact List.all_eq_true.mp h i (List.mem_iff_getElem?.mpr ⟨i - 206, by rw [List.getElem?_drop, List.getElem?_range (by omega)]; congr 1; omega⟩)
set_option maxRecDepth 100000 in
theorem okc_17 : ∀ i, 217 ≤ i → i < 224 → ((List.range (xln i)).all fun pc => x_okB i pc) = true := by
  have h : (((List.range 224).drop 217).all fun i => (List.range (xln i)).all fun pc => x_okB i pc) = true := by decide +kernel
  intro i h1 h2
  exact List.all_eq_true.mp h i (List.mem_iff_getElem?.mpr ⟨i - 217, by rw [List.getElem?_drop, List.getElem?_range (by omega)]; congr 1; omega⟩)
set_option maxRecDepth 100000 in
theorem okc_18 : ∀ i, 224 ≤ i → i < 238 → ((List.range (xln i)).all fun pc => x_okB i pc) = true := by
  have h : (((List.range 238).drop 224).all fun i => (List.range (xln i)).all fun pc => x_okB i pc) = true := by decide +kernel
  intro i h1 h2
  exact List.all_eq_true.mp h i (List.mem_iff_getElem?.mpr ⟨i - 224, by rw [List.getElem?_drop, List.getElem?_range (by omega)]; congr 1; omega⟩)
set_option maxRecDepth 100000 in
theorem okc_19 : ∀ i, 238 ≤ i → i < 245 → ((List.range (xln i)).all fun pc => x_okB i pc) = true := by
  have h : (((List.range 245).drop 238).all fun i => (List.range (xln i)).all fun pc => x_okB i pc) = true := by decide +kernel
  intro i h1 h2
  exact List.all_eq_true.mp h i (List.mem_iff_getElem?.mpr ⟨i - 238, by rw [List.getElem?_drop, List.getElem?_range (by omega)]; congr 1; omega⟩)
set_option maxRecDepth 100000 in
theorem okc_20 : ∀ i, 245 ≤ i → i < 262 → ((List.range (xln i)).all fun pc => x_okB i pc) = true := by
  have h : (((List.range 262).drop 245).all fun i => (List.range (xln i)).all fun pc => x_okB i pc) = true := by decide +kernel
  intro i h1 h2
  exact List.all_eq_true.mp h i (List.mem_iff_getElem?.mpr ⟨i - 245, by rw [List.getElem?_drop, List.getElem?_range (by omega)]; congr 1; omega⟩)
set_option maxRecDepth 100000 in
theorem okc_21 : ∀ i, 262 ≤ i → i < 266 → ((List.range (xln i)).all fun pc => x_okB i pc) = true := by
  have h : (((List.range 266).drop 262).all fun i => (List.range (xln i)).all fun pc => x_okB i pc) = true := by decide +kernel
  intro i h1 h2
  exact List.all_eq_true.mp h i (List.mem_iff_getElem?.mpr ⟨i - 262, by rw [List.getElem?_drop, List.getElem?_range (by omega)]; congr 1; omega⟩)
set_option maxRecDepth 100000 in
theorem okc_22 : ∀ i, 266 ≤ i → i < 277 → ((List.range (xln i)).all fun pc => x_okB i pc) = true := by
  have h : (((List.range 277).drop 266).all fun i => (List.range (xln i)).all fun pc => x_okB i pc) = true := by decide +kernel
  intro i h1 h2
  exact List.all_eq_true.mp h i (List.mem_iff_getElem?.mpr ⟨i - 266, by rw [List.getElem?_drop, List.getElem?_range (by omega)]; congr 1; omega⟩)
set_option maxRecDepth 100000 in
theorem okc_23 : ∀ i, 277 ≤ i → i < 282 → ((List.range (xln i)).all fun pc => x_okB i pc) = true := by
  have h : (((List.range 282).drop 277).all fun i => (List.range (xln i)).all fun pc => x_okB i pc) = true := by decide +kernel
  intro i h1 h2
  exact List.all_eq_true.mp h i (List.mem_iff_getElem?.mpr ⟨i - 277, by rw [List.getElem?_drop, List.getElem?_range (by omega)]; congr 1; omega⟩)
theorem x_okA : ∀ i, i < 282 → ∀ pc, x_okB i pc = true := by
  intro i hi pc
  by_cases hp : xln i ≤ pc
  · unfold x_okB
    rw [xk_out hp]
    rfl
  · have key : ((List.range (xln i)).all fun pc => x_okB i pc) = true := by
      by_cases h0 : i < 15
      · exact okc_0 i (by omega) h0
      by_cases h1 : i < 29
      · exact okc_1 i (by omega) h1
      by_cases h2 : i < 39
      · exact okc_2 i (by omega) h2
      by_cases h3 : i < 49
      · exact okc_3 i (by omega) h3
      by_cases h4 : i < 69
      · exact okc_4 i (by omega) h4
      by_cases h5 : i < 80
      · exact okc_5 i (by omega) h5
      by_cases h6 : i < 91
      · exact okc_6 i (by omega) h6
      by_cases h7 : i < 108
      · exact okc_7 i (by omega) h7
      by_cases h8 : i < 116
      · exact okc_8 i (by omega) h8
      by_cases h9 : i < 129
      · exact okc_9 i (by omega) h9
      by_cases h10 : i < 145
      · exact okc_10 i (by omega) h10
      by_cases h11 : i < 157
      · exact okc_11 i (by omega) h11
      by_cases h12 : i < 175
      · exact okc_12 i (by omega) h12
      by_cases h13 : i < 182
      · exact okc_13 i (by omega) h13
      by_cases h14 : i < 192
      · exact okc_14 i (by omega) h14
      by_cases h15 : i < 206
      · exact okc_15 i (by omega) h15
      by_cases h16 : i < 217
      · exact okc_16 i (by omega) h16
      by_cases h17 : i < 224
      · exact okc_17 i (by omega) h17
      by_cases h18 : i < 238
      · exact okc_18 i (by omega) h18
      by_cases h19 : i < 245
      · exact okc_19 i (by omega) h19
      by_cases h20 : i < 262
      · exact okc_20 i (by omega) h20
      by_cases h21 : i < 266
      · exact okc_21 i (by omega) h21
      by_cases h22 : i < 277
      · exact okc_22 i (by omega) h22
      by_cases h23 : i < 282
      · exact okc_23 i (by omega) h23
      exact absurd hi (by omega)
    exact List.all_eq_true.mp key pc (List.mem_range.mpr (by omega))
