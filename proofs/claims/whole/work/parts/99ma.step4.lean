/-! RUNS, with room for the calls of the JDK -/
/-- the three calls of the JDK that are told apart: an ordinal, a text's length, a text's char -/
def x_Je (l : Launch) : Prop := ∀ {p : Program} {e : Env} {R9 : Room} {s : State} {m : MethodId} {args : Array Value} {below : List Frame} {meth : Method} {c : Code} {Q : State → Prop} {D : va_G} {ad0 adV : Nat → Nat} {A : Nat → Prop} {n0 s0 i d : Nat}, x_Cx i (d + 4) D ad0 adV A p R9 s m args meth c → i < 282 → ∀ {q0 r0 : Nat} {k : Nat} {v : Int32} {pc : Nat} {ls : XL} {st : List Value} {sl : Nat} {h : List AC} {b : Bool} {x1 x2 : XR}, decode (xb i) pc = .ok (.invokevirtual q0, 3) → dec (.invokevirtual q0) (pc + 3) [k, r0] v pc ls st sl h = some (.inl (b, x1, x2)) → ((k = 1002 ∧ [xoi i, q0] = [7, 54]) ∨ (k = 1003 ∧ [xoi i, q0] = [5, 62]) ∨ (k = 1004 ∧ [xoi i, q0] = [5, 67])) → h.length ≤ R9.cells + n0 → sl ≤ R9.slots + s0 →
  (b = true → x_At p l e R9 s m args below meth c Q D ad0 A n0 s0 (xmL i) x1) → (b = false → x2.1 ≠ 65535) → x_At p l e R9 s m args below meth c Q D ad0 A n0 s0 (xmL i) (pc, ls, st, sl, h)
section XMN
variable {p : Program} {l : Launch} {e : Env} {R9 : Room} {s : State} {m : MethodId} {args : Array Value} {below : List Frame} {meth : Method} {c : Code} {Q : State → Prop} {D : va_G} {ad0 adV : Nat → Nat} {A : Nat → Prop} {n0 s0 : Nat}
set_option maxHeartbeats 4000000 in
theorem x_stq (HJ : x_Je l) {i d : Nat} (hi : i < 282) (C : x_Cx i (d + 4) D ad0 adV A p R9 s m args meth c) {pc : Nat} {ls : XL} {st : List Value} {sl : Nat} {h : List AC} {b : Bool} {x1 x2 : XR} {ins : Instr} {nx : Nat} {aux : List Nat} {v : Int32} (hk : xk i pc = (ins, nx, aux, v)) (hd : dec ins nx aux v pc ls st sl h = some (.inl (b, x1, x2)))
    (hlt : h.length < 1000000) (hcb : b = true → x1.2.2.2.2.length ≤ R9.cells + n0) (hsb : b = true → x1.2.2.2.1 ≤ R9.slots + s0) (hbig : b = true → x1.2.2.2.1 ≤ 60000000) (hc0 : h.length ≤ R9.cells + n0) (hs0 : sl ≤ R9.slots + s0)
    (k1 : b = true → x_At p l e R9 s m args below meth c Q D ad0 A n0 s0 (xmL i) x1) (k2 : b = false → x2.1 ≠ 65535 ∧ x_At p l e R9 s m args below meth c Q D ad0 A n0 s0 (xmL i) x2) : x_At p l e R9 s m args below meth c Q D ad0 A n0 s0 (xmL i) (pc, ls, st, sl, h) := by
  have C' := C
  obtain ⟨hx, hb, hml, hown, hts, hSt, hA, hnm, hfr, hlo⟩ := C
  have hK := hSt.1
  have hcon := hSt.2.2.2
  have hok := x_okA i hi pc
  unfold x_okB at hok
  rw [hk] at hok
  have hcl := x_cls i hi
  have k2' : b = false → x2.1 ≠ 65535 := fun z => (k2 z).1
  rw [hcl] at hown
  have hkey : ins ≠ .nop → Nat.ble pc nx = true ∧ decode (xb i) pc = .ok (ins, nx - pc) ∧ x_sd (xoi i) (x_ini i) pc ins (nx - pc) aux v = true := by
    intro hn
    cases ins <;> first | exact absurd rfl hn | (simpa only [Bool.and_eq_true, decide_eq_true_eq] using hok)
  clear hok
  cases ins with
  | iadd =>
    obtain ⟨hle, hdg, hsd⟩ := hkey (by simp)
    simp only [x_sd, Bool.and_eq_true, decide_eq_true_eq] at hsd
    have hnx := x_dl hle hsd
    subst hnx
    rw [Nat.add_sub_cancel_left] at hdg
    exact s_iadd hx hb hdg hd k1 k2
  | isub =>
    obtain ⟨hle, hdg, hsd⟩ := hkey (by simp)
    simp only [x_sd, Bool.and_eq_true, decide_eq_true_eq] at hsd
    have hnx := x_dl hle hsd
    subst hnx
    rw [Nat.add_sub_cancel_left] at hdg
    exact s_isub hx hb hdg hd k1 k2
  | imul =>
    obtain ⟨hle, hdg, hsd⟩ := hkey (by simp)
    simp only [x_sd, Bool.and_eq_true, decide_eq_true_eq] at hsd
    have hnx := x_dl hle hsd
    subst hnx
    rw [Nat.add_sub_cancel_left] at hdg
    exact s_imul hx hb hdg hd k1 k2
  | iand =>
    obtain ⟨hle, hdg, hsd⟩ := hkey (by simp)
    simp only [x_sd, Bool.and_eq_true, decide_eq_true_eq] at hsd
    have hnx := x_dl hle hsd
    subst hnx
    rw [Nat.add_sub_cancel_left] at hdg
    exact s_iand hx hb hdg hd k1 k2
  | ior =>
    obtain ⟨hle, hdg, hsd⟩ := hkey (by simp)
    simp only [x_sd, Bool.and_eq_true, decide_eq_true_eq] at hsd
    have hnx := x_dl hle hsd
    subst hnx
    rw [Nat.add_sub_cancel_left] at hdg
    exact s_ior hx hb hdg hd k1 k2
  | ixor =>
    obtain ⟨hle, hdg, hsd⟩ := hkey (by simp)
    simp only [x_sd, Bool.and_eq_true, decide_eq_true_eq] at hsd
    have hnx := x_dl hle hsd
    subst hnx
    rw [Nat.add_sub_cancel_left] at hdg
    exact s_ixor hx hb hdg hd k1 k2
  | ishl =>
    obtain ⟨hle, hdg, hsd⟩ := hkey (by simp)
    simp only [x_sd, Bool.and_eq_true, decide_eq_true_eq] at hsd
    have hnx := x_dl hle hsd
    subst hnx
    rw [Nat.add_sub_cancel_left] at hdg
    exact s_ishl hx hb hdg hd k1 k2
  | ishr =>
    obtain ⟨hle, hdg, hsd⟩ := hkey (by simp)
    simp only [x_sd, Bool.and_eq_true, decide_eq_true_eq] at hsd
    have hnx := x_dl hle hsd
    subst hnx
    rw [Nat.add_sub_cancel_left] at hdg
    exact s_ishr hx hb hdg hd k1 k2
  | iushr =>
    obtain ⟨hle, hdg, hsd⟩ := hkey (by simp)
    simp only [x_sd, Bool.and_eq_true, decide_eq_true_eq] at hsd
    have hnx := x_dl hle hsd
    subst hnx
    rw [Nat.add_sub_cancel_left] at hdg
    exact s_iushr hx hb hdg hd k1 k2
  | ladd =>
    obtain ⟨hle, hdg, hsd⟩ := hkey (by simp)
    simp only [x_sd, Bool.and_eq_true, decide_eq_true_eq] at hsd
    have hnx := x_dl hle hsd
    subst hnx
    rw [Nat.add_sub_cancel_left] at hdg
    exact s_ladd hx hb hdg hd k1 k2
  | lsub =>
    obtain ⟨hle, hdg, hsd⟩ := hkey (by simp)
    simp only [x_sd, Bool.and_eq_true, decide_eq_true_eq] at hsd
    have hnx := x_dl hle hsd
    subst hnx
    rw [Nat.add_sub_cancel_left] at hdg
    exact s_lsub hx hb hdg hd k1 k2
  | lmul =>
    obtain ⟨hle, hdg, hsd⟩ := hkey (by simp)
    simp only [x_sd, Bool.and_eq_true, decide_eq_true_eq] at hsd
    have hnx := x_dl hle hsd
    subst hnx
    rw [Nat.add_sub_cancel_left] at hdg
    exact s_lmul hx hb hdg hd k1 k2
  | land =>
    obtain ⟨hle, hdg, hsd⟩ := hkey (by simp)
    simp only [x_sd, Bool.and_eq_true, decide_eq_true_eq] at hsd
    have hnx := x_dl hle hsd
    subst hnx
    rw [Nat.add_sub_cancel_left] at hdg
    exact s_land hx hb hdg hd k1 k2
  | lor =>
    obtain ⟨hle, hdg, hsd⟩ := hkey (by simp)
    simp only [x_sd, Bool.and_eq_true, decide_eq_true_eq] at hsd
    have hnx := x_dl hle hsd
    subst hnx
    rw [Nat.add_sub_cancel_left] at hdg
    exact s_lor hx hb hdg hd k1 k2
  | lshl =>
    obtain ⟨hle, hdg, hsd⟩ := hkey (by simp)
    simp only [x_sd, Bool.and_eq_true, decide_eq_true_eq] at hsd
    have hnx := x_dl hle hsd
    subst hnx
    rw [Nat.add_sub_cancel_left] at hdg
    exact s_lshl hx hb hdg hd k1 k2
  | lushr =>
    obtain ⟨hle, hdg, hsd⟩ := hkey (by simp)
    simp only [x_sd, Bool.and_eq_true, decide_eq_true_eq] at hsd
    have hnx := x_dl hle hsd
    subst hnx
    rw [Nat.add_sub_cancel_left] at hdg
    exact s_lushr hx hb hdg hd k1 k2
  | idiv =>
    obtain ⟨hle, hdg, hsd⟩ := hkey (by simp)
    simp only [x_sd, Bool.and_eq_true, decide_eq_true_eq] at hsd
    have hnx := x_dl hle hsd
    subst hnx
    rw [Nat.add_sub_cancel_left] at hdg
    exact s_idiv hx hb hdg hd k1 k2
  | irem =>
    obtain ⟨hle, hdg, hsd⟩ := hkey (by simp)
    simp only [x_sd, Bool.and_eq_true, decide_eq_true_eq] at hsd
    have hnx := x_dl hle hsd
    subst hnx
    rw [Nat.add_sub_cancel_left] at hdg
    exact s_irem hx hb hdg hd k1 k2
  | ldiv =>
    obtain ⟨hle, hdg, hsd⟩ := hkey (by simp)
    simp only [x_sd, Bool.and_eq_true, decide_eq_true_eq] at hsd
    have hnx := x_dl hle hsd
    subst hnx
    rw [Nat.add_sub_cancel_left] at hdg
    exact s_ldiv hx hb hdg hd k1 k2
  | lrem =>
    obtain ⟨hle, hdg, hsd⟩ := hkey (by simp)
    simp only [x_sd, Bool.and_eq_true, decide_eq_true_eq] at hsd
    have hnx := x_dl hle hsd
    subst hnx
    rw [Nat.add_sub_cancel_left] at hdg
    exact s_lrem hx hb hdg hd k1 k2
  | ineg =>
    obtain ⟨hle, hdg, hsd⟩ := hkey (by simp)
    simp only [x_sd, Bool.and_eq_true, decide_eq_true_eq] at hsd
    have hnx := x_dl hle hsd
    subst hnx
    rw [Nat.add_sub_cancel_left] at hdg
    exact s_ineg hx hb hdg hd k1 k2
  | lcmp =>
    obtain ⟨hle, hdg, hsd⟩ := hkey (by simp)
    simp only [x_sd, Bool.and_eq_true, decide_eq_true_eq] at hsd
    have hnx := x_dl hle hsd
    subst hnx
    rw [Nat.add_sub_cancel_left] at hdg
    exact s_lcmp hx hb hdg hd k1 k2
  | i2l =>
    obtain ⟨hle, hdg, hsd⟩ := hkey (by simp)
    simp only [x_sd, Bool.and_eq_true, decide_eq_true_eq] at hsd
    have hnx := x_dl hle hsd
    subst hnx
    rw [Nat.add_sub_cancel_left] at hdg
    exact s_i2l hx hb hdg hd k1 k2
  | l2i =>
    obtain ⟨hle, hdg, hsd⟩ := hkey (by simp)
    simp only [x_sd, Bool.and_eq_true, decide_eq_true_eq] at hsd
    have hnx := x_dl hle hsd
    subst hnx
    rw [Nat.add_sub_cancel_left] at hdg
    exact s_l2i hx hb hdg hd k1 k2
  | i2b =>
    obtain ⟨hle, hdg, hsd⟩ := hkey (by simp)
    simp only [x_sd, Bool.and_eq_true, decide_eq_true_eq] at hsd
    have hnx := x_dl hle hsd
    subst hnx
    rw [Nat.add_sub_cancel_left] at hdg
    exact s_i2b hx hb hdg hd k1 k2
  | i2c =>
    obtain ⟨hle, hdg, hsd⟩ := hkey (by simp)
    simp only [x_sd, Bool.and_eq_true, decide_eq_true_eq] at hsd
    have hnx := x_dl hle hsd
    subst hnx
    rw [Nat.add_sub_cancel_left] at hdg
    exact s_i2c hx hb hdg hd k1 k2
  | dup =>
    obtain ⟨hle, hdg, hsd⟩ := hkey (by simp)
    simp only [x_sd, Bool.and_eq_true, decide_eq_true_eq] at hsd
    have hnx := x_dl hle hsd
    subst hnx
    rw [Nat.add_sub_cancel_left] at hdg
    exact s_dup hx hb hdg hd k1 k2
  | dup2 =>
    obtain ⟨hle, hdg, hsd⟩ := hkey (by simp)
    simp only [x_sd, Bool.and_eq_true, decide_eq_true_eq] at hsd
    have hnx := x_dl hle hsd
    subst hnx
    rw [Nat.add_sub_cancel_left] at hdg
    exact s_dup2 hx hb hdg hd k1 k2
  | pop =>
    obtain ⟨hle, hdg, hsd⟩ := hkey (by simp)
    simp only [x_sd, Bool.and_eq_true, decide_eq_true_eq] at hsd
    have hnx := x_dl hle hsd
    subst hnx
    rw [Nat.add_sub_cancel_left] at hdg
    exact s_pop hx hb hdg hd k1 k2
  | lconst q0 =>
    obtain ⟨hle, hdg, hsd⟩ := hkey (by simp)
    simp only [x_sd, Bool.and_eq_true, decide_eq_true_eq] at hsd
    have hnx := x_dl hle hsd
    subst hnx
    rw [Nat.add_sub_cancel_left] at hdg
    exact s_lconst hx hb hdg hd k1 k2
  | aconst_null =>
    obtain ⟨hle, hdg, hsd⟩ := hkey (by simp)
    simp only [x_sd, Bool.and_eq_true, decide_eq_true_eq] at hsd
    have hnx := x_dl hle hsd
    subst hnx
    rw [Nat.add_sub_cancel_left] at hdg
    exact s_null hx hb hdg hd k1 k2
  | iload q0 =>
    obtain ⟨hle, hdg, hsd⟩ := hkey (by simp)
    simp only [x_sd, Bool.and_eq_true, decide_eq_true_eq] at hsd
    have hnx := x_dl hle hsd
    subst hnx
    rw [Nat.add_sub_cancel_left] at hdg
    exact s_iload hx hb hdg hd k1 k2
  | iload_n q0 =>
    obtain ⟨hle, hdg, hsd⟩ := hkey (by simp)
    simp only [x_sd, Bool.and_eq_true, decide_eq_true_eq] at hsd
    have hnx := x_dl hle hsd
    subst hnx
    rw [Nat.add_sub_cancel_left] at hdg
    exact s_iload_n hx hb hdg hd k1 k2
  | lload q0 =>
    obtain ⟨hle, hdg, hsd⟩ := hkey (by simp)
    simp only [x_sd, Bool.and_eq_true, decide_eq_true_eq] at hsd
    have hnx := x_dl hle hsd
    subst hnx
    rw [Nat.add_sub_cancel_left] at hdg
    exact s_lload hx hb hdg hd k1 k2
  | lload_n q0 =>
    obtain ⟨hle, hdg, hsd⟩ := hkey (by simp)
    simp only [x_sd, Bool.and_eq_true, decide_eq_true_eq] at hsd
    have hnx := x_dl hle hsd
    subst hnx
    rw [Nat.add_sub_cancel_left] at hdg
    exact s_lload_n hx hb hdg hd k1 k2
  | aload q0 =>
    obtain ⟨hle, hdg, hsd⟩ := hkey (by simp)
    simp only [x_sd, Bool.and_eq_true, decide_eq_true_eq] at hsd
    have hnx := x_dl hle hsd
    subst hnx
    rw [Nat.add_sub_cancel_left] at hdg
    exact s_aload hx hb hdg hd k1 k2
  | aload_n q0 =>
    obtain ⟨hle, hdg, hsd⟩ := hkey (by simp)
    simp only [x_sd, Bool.and_eq_true, decide_eq_true_eq] at hsd
    have hnx := x_dl hle hsd
    subst hnx
    rw [Nat.add_sub_cancel_left] at hdg
    exact s_aload_n hx hb hdg hd k1 k2
  | istore q0 =>
    obtain ⟨hle, hdg, hsd⟩ := hkey (by simp)
    simp only [x_sd, Bool.and_eq_true, decide_eq_true_eq] at hsd
    have hnx := x_dl hle hsd
    subst hnx
    rw [Nat.add_sub_cancel_left] at hdg
    exact s_istore hx hb hdg hd k1 k2
  | istore_n q0 =>
    obtain ⟨hle, hdg, hsd⟩ := hkey (by simp)
    simp only [x_sd, Bool.and_eq_true, decide_eq_true_eq] at hsd
    have hnx := x_dl hle hsd
    subst hnx
    rw [Nat.add_sub_cancel_left] at hdg
    exact s_istore_n hx hb hdg hd k1 k2
  | lstore q0 =>
    obtain ⟨hle, hdg, hsd⟩ := hkey (by simp)
    simp only [x_sd, Bool.and_eq_true, decide_eq_true_eq] at hsd
    have hnx := x_dl hle hsd
    subst hnx
    rw [Nat.add_sub_cancel_left] at hdg
    exact s_lstore hx hb hdg hd k1 k2
  | lstore_n q0 =>
    obtain ⟨hle, hdg, hsd⟩ := hkey (by simp)
    simp only [x_sd, Bool.and_eq_true, decide_eq_true_eq] at hsd
    have hnx := x_dl hle hsd
    subst hnx
    rw [Nat.add_sub_cancel_left] at hdg
    exact s_lstore_n hx hb hdg hd k1 k2
  | astore q0 =>
    obtain ⟨hle, hdg, hsd⟩ := hkey (by simp)
    simp only [x_sd, Bool.and_eq_true, decide_eq_true_eq] at hsd
    have hnx := x_dl hle hsd
    subst hnx
    rw [Nat.add_sub_cancel_left] at hdg
    exact s_astore hx hb hdg hd k1 k2
  | astore_n q0 =>
    obtain ⟨hle, hdg, hsd⟩ := hkey (by simp)
    simp only [x_sd, Bool.and_eq_true, decide_eq_true_eq] at hsd
    have hnx := x_dl hle hsd
    subst hnx
    rw [Nat.add_sub_cancel_left] at hdg
    exact s_astore_n hx hb hdg hd k1 k2
  | iconst q0 =>
    obtain ⟨hle, hdg, hsd⟩ := hkey (by simp)
    simp only [x_sd, Bool.and_eq_true, decide_eq_true_eq] at hsd
    have hnx := x_dl hle hsd.1
    subst hnx
    rw [Nat.add_sub_cancel_left] at hdg hsd
    exact s_iconst hx hb hsd.2 hdg hd k1 k2
  | bipush q0 =>
    obtain ⟨hle, hdg, hsd⟩ := hkey (by simp)
    simp only [x_sd, Bool.and_eq_true, decide_eq_true_eq] at hsd
    have hnx := x_dl hle hsd.1
    subst hnx
    rw [Nat.add_sub_cancel_left] at hdg hsd
    exact s_bipush hx hb hsd.2 hdg hd k1 k2
  | sipush q0 =>
    obtain ⟨hle, hdg, hsd⟩ := hkey (by simp)
    simp only [x_sd, Bool.and_eq_true, decide_eq_true_eq] at hsd
    have hnx := x_dl hle hsd.1
    subst hnx
    rw [Nat.add_sub_cancel_left] at hdg hsd
    exact s_sipush hx hb hsd.2 hdg hd k1 k2
  | iinc q0 q1 =>
    obtain ⟨hle, hdg, hsd⟩ := hkey (by simp)
    simp only [x_sd, Bool.and_eq_true, decide_eq_true_eq] at hsd
    have hnx := x_dl hle hsd.1
    subst hnx
    rw [Nat.add_sub_cancel_left] at hdg hsd
    exact s_iinc hx hb hsd.2 hdg hd k1 k2
  | if_icmp cnd q0 =>
    obtain ⟨hle, hdg, hsd⟩ := hkey (by simp)
    simp only [x_sd, Bool.and_eq_true, decide_eq_true_eq] at hsd
    have hnx := x_dl hle hsd.1
    subst hnx
    rw [Nat.add_sub_cancel_left] at hdg
    cases cnd with
    | eq => exact s_icmp_eq hx hb (x_tg_of hsd.2) hdg hd k1 k2
    | ne => exact s_icmp_ne hx hb (x_tg_of hsd.2) hdg hd k1 k2
    | lt => exact s_icmp_lt hx hb (x_tg_of hsd.2) hdg hd k1 k2
    | ge => exact s_icmp_ge hx hb (x_tg_of hsd.2) hdg hd k1 k2
    | gt => exact s_icmp_gt hx hb (x_tg_of hsd.2) hdg hd k1 k2
    | le => exact s_icmp_le hx hb (x_tg_of hsd.2) hdg hd k1 k2
  | ifCond cnd q0 =>
    obtain ⟨hle, hdg, hsd⟩ := hkey (by simp)
    simp only [x_sd, Bool.and_eq_true, decide_eq_true_eq] at hsd
    have hnx := x_dl hle hsd.1
    subst hnx
    rw [Nat.add_sub_cancel_left] at hdg
    cases cnd with
    | eq => exact s_if_eq hx hb (x_tg_of hsd.2) hdg hd k1 k2
    | ne => exact s_if_ne hx hb (x_tg_of hsd.2) hdg hd k1 k2
    | lt => exact s_if_lt hx hb (x_tg_of hsd.2) hdg hd k1 k2
    | ge => exact s_if_ge hx hb (x_tg_of hsd.2) hdg hd k1 k2
    | gt => exact s_if_gt hx hb (x_tg_of hsd.2) hdg hd k1 k2
    | le => exact s_if_le hx hb (x_tg_of hsd.2) hdg hd k1 k2
  | if_acmp cnd q0 =>
    obtain ⟨hle, hdg, hsd⟩ := hkey (by simp)
    simp only [x_sd, Bool.and_eq_true, decide_eq_true_eq] at hsd
    have hnx := x_dl hle hsd.1
    subst hnx
    rw [Nat.add_sub_cancel_left] at hdg
    cases cnd with
    | eq => exact s_acmp_eq hx hb hcon (x_tg_of hsd.2) hdg hd k1 k2
    | ne => exact s_acmp_ne hx hb hcon (x_tg_of hsd.2) hdg hd k1 k2
  | goto q0 =>
    obtain ⟨hle, hdg, hsd⟩ := hkey (by simp)
    simp only [x_sd, Bool.and_eq_true, decide_eq_true_eq] at hsd
    have hnx := x_dl hle hsd.1
    subst hnx
    rw [Nat.add_sub_cancel_left] at hdg hsd
    exact s_goto hx hb (x_tg_of hsd.2) hdg hd k1 k2
  | ifnonnull q0 =>
    obtain ⟨hle, hdg, hsd⟩ := hkey (by simp)
    simp only [x_sd, Bool.and_eq_true, decide_eq_true_eq] at hsd
    have hnx := x_dl hle hsd.1
    subst hnx
    rw [Nat.add_sub_cancel_left] at hdg hsd
    exact s_ifnonnull hx hb (x_tg_of hsd.2) hdg hd k1 k2
  | tableswitch df lo hi9 offs =>
    obtain ⟨hle, hdg, hsd⟩ := hkey (by simp)
    simp only [x_sd, Bool.and_eq_true, decide_eq_true_eq] at hsd
    exact s_tsw hx hb hdg hd hsd.1 ⟨hsd.2.1, fun q hq => by simpa using List.all_eq_true.mp hsd.2.2 q hq⟩ k1
  | lookupswitch df ps =>
    obtain ⟨hle, hdg, hsd⟩ := hkey (by simp)
    simp only [x_sd, Bool.and_eq_true, decide_eq_true_eq] at hsd
    exact s_lsw hx hb hdg hd hsd.1 (fun x => x_lso (fun z => 0 ≤ (pc : Int) + z) df hsd.2.1 ps.toList x (fun q hq => by simpa using List.all_eq_true.mp hsd.2.2 q hq)) k1
  | ldc q0 =>
    obtain ⟨hle, hdg, hsd⟩ := hkey (by simp)
    simp only [x_sd, Bool.and_eq_true] at hsd
    have hnx := x_dl hle hsd.1
    subst hnx
    rw [Nat.add_sub_cancel_left] at hdg
    split at hsd
    · rename_i hm
      have hsd := hsd.2
      simp only [Bool.and_eq_true, decide_eq_true_eq] at hsd
      have hf := x_lk0_ok _ (x_hs_mem hsd.1)
      have hf : Cond.constant (x_cn (xoi i)) q0 (Int32.ofNat v.toNatClampNeg) ∈ TG := hf
      rw [hsd.2] at hf
      exact s_ldc hx hb hown hdg hd (hts _ hf) k1
    · rename_i k
      have hsd := hsd.2
      cases hw : x_ist k with
      | false => simp only [dec] at hd; rw [hw] at hd; cases hd
      | true =>
        rw [hw] at hsd
        simp only [Bool.not_true, Bool.false_or] at hsd
        obtain ⟨j, hj, e1, e2, e3⟩ := x_lt_ok _ (x_hs_mem hsd)
        rw [e2] at hown
        exact s_ldcS hx hb hown hcon hdg hd hj e1 e3 k1
    · rename_i n1 n2
      exfalso
      simp only [dec] at hd
      first | (cases hd; done) | (split at hd <;> first | (cases hd; done) | (exact n1 rfl) | (exact n2 _ rfl))
  | ldc_w q0 =>
    obtain ⟨hle, hdg, hsd⟩ := hkey (by simp)
    simp only [x_sd, Bool.and_eq_true] at hsd
    have hnx := x_dl hle hsd.1
    subst hnx
    rw [Nat.add_sub_cancel_left] at hdg
    split at hsd
    · rename_i hm
      have hsd := hsd.2
      simp only [Bool.and_eq_true, decide_eq_true_eq] at hsd
      have hf := x_lk0_ok _ (x_hs_mem hsd.1)
      have hf : Cond.constant (x_cn (xoi i)) q0 (Int32.ofNat v.toNatClampNeg) ∈ TG := hf
      rw [hsd.2] at hf
      exact s_ldcw hx hb hown hdg hd (hts _ hf) k1
    · rename_i n1
      exfalso
      simp only [dec] at hd
      first | (cases hd; done) | (split at hd <;> first | (cases hd; done) | (exact n1 rfl))
  | ldc2_w q0 =>
    obtain ⟨hle, hdg, hsd⟩ := hkey (by simp)
    simp only [x_sd, Bool.and_eq_true] at hsd
    have hnx := x_dl hle hsd.1
    subst hnx
    rw [Nat.add_sub_cancel_left] at hdg
    have hsd := hsd.2
    simp only [decide_eq_true_eq] at hsd
    have hf := x_lj_ok _ (x_hs_mem hsd.1)
    have hf : Cond.constantLong (x_cn (xoi i)) q0 (Int64.ofNat v.toNatClampNeg) ∈ TG ∧ _ := hf
    rw [hsd.2] at hf
    exact s_ldc2 hx hb hown hdg hd (hts _ hf.1) k1
  | getfield q0 =>
    obtain ⟨hle, hdg, hsd⟩ := hkey (by simp)
    simp only [x_sd, Bool.and_eq_true] at hsd
    have hnx := x_dl hle hsd.1
    subst hnx
    rw [Nat.add_sub_cancel_left] at hdg
    split at hsd
    · rename_i ci k t
      obtain ⟨C9, T, N, e1, e2, e3, e4⟩ := x_lg_ok _ (x_hs_mem hsd.2)
      exact s_getfield hx hb hts hown hK hdg hd e1 e2 e3 (x_lkB C' e4) k1
    · exact s_letters hx hb hown hcon hdg hd (hts _ (x_ll_ok _ (x_hs_mem hsd.2))) k1
    · rename_i n1 n2
      exfalso
      simp only [dec] at hd
      first | (cases hd; done) | (split at hd <;> first | (cases hd; done) | (exact n1 _ _ _ rfl) | (exact n2 rfl))
  | putfield q0 =>
    obtain ⟨hle, hdg, hsd⟩ := hkey (by simp)
    simp only [x_sd, Bool.and_eq_true] at hsd
    have hnx := x_dl hle hsd.1
    subst hnx
    rw [Nat.add_sub_cancel_left] at hdg
    split at hsd
    · rename_i ci k t
      have hsd := hsd.2
      simp only [Bool.or_eq_true, Bool.and_eq_true] at hsd
      rcases hsd with hsd | ⟨hini, hsd⟩
      · obtain ⟨C9, T, N, ty0, e1, e2, e3, e4, e5, e6, e7, e8⟩ := x_lp_ok _ (x_hs_mem hsd)
        exact s_putfield hx hb hts hown hK hdg hd e1 e2 e3 ty0 e4 e5 e6 (Or.inl ⟨e7, x_lkB C' e8⟩) k1 k2'
      · obtain ⟨C9, T, N, ty0, e1, e2, e3, e4, e5, e6, e7, e8, e9⟩ := x_lf_ok _ (x_hs_mem hsd)
        exact s_putfield hx hb hts hown hK hdg hd e1 e2 e3 ty0 e4 e5 e6 (Or.inr ⟨e7, hnm.trans (x_ini_ok i hi hini), e8, hts _ e9⟩) k1 k2'
    · rename_i n1
      exfalso
      simp only [dec] at hd
      first | (cases hd; done) | (split at hd <;> first | (cases hd; done) | (exact n1 _ _ _ rfl))
  | getstatic q0 =>
    obtain ⟨hle, hdg, hsd⟩ := hkey (by simp)
    simp only [x_sd, Bool.and_eq_true] at hsd
    have hnx := x_dl hle hsd.1
    subst hnx
    rw [Nat.add_sub_cancel_left] at hdg
    split at hsd
    · rename_i k
      obtain ⟨hkb, hf⟩ := x_ls_ok _ (x_hs_mem hsd.2)
      rcases hf with ⟨j, hj, rfl, hf⟩ | ⟨rfl, hf⟩ | ⟨rfl, hf⟩
      · exact s_getstatic hx hb hown hdg hd hkb (fun ad hg => ((x_con_ag hg hcon).1.1 j (by simpa [x_nms] using hj)).1) (hts _ hf) k1
      · exact s_getstatic hx hb hown hdg hd hkb (fun ad hg => (x_con_ag hg hcon).2.2.1) (hts _ hf) k1
      · exact s_getstatic hx hb hown hdg hd hkb (fun ad hg => (x_con_ag hg hcon).2.2.2.2.1) (hts _ hf) k1
    · rename_i n1
      exfalso
      simp only [dec] at hd
      first | (cases hd; done) | (split at hd <;> first | (cases hd; done) | (exact n1 _ rfl))
  | invokestatic q0 =>
    obtain ⟨hle, hdg, hsd⟩ := hkey (by simp)
    simp only [x_sd, Bool.and_eq_true] at hsd
    have hnx := x_dl hle hsd.1
    subst hnx
    rw [Nat.add_sub_cancel_left] at hdg
    split at hsd
    · simp only [dec] at hd
      cases hc8 : Nat.ble (x_cat (st.drop 5)) 8 with
      | false => rw [hc8] at hd; cases hd
      | true =>
        rw [hc8] at hd
        exact s_arraycopy hx hb hml hown hK hdg hd (hts _ (x_lc_ok _ (x_hs_mem hsd.2))) (hts _ w_cn) (hts _ w_cs) (hts _ w_si) (by omega) (by omega) (by rw [← x_cat_eq]; exact Nat.le_of_ble_eq_true hc8) k1 k2'
    · exact s_mmax hx hb hml hown hdg hd (hts _ (x_lx_ok _ (x_hs_mem hsd.2))) (hts _ w_xs) (hts _ w_mi) (hts _ w_xc) (by omega) (by omega) hc0 hs0 k1
    · exact s_mmin hx hb hml hown hdg hd (hts _ (x_li_ok _ (x_hs_mem hsd.2))) (hts _ w_is) (hts _ w_mi) (hts _ w_ic) (by omega) (by omega) hc0 hs0 k1
    · rename_i j k cc9
      exfalso
      simp only [dec] at hd
      obtain ⟨-, -, hd⟩ := x_inv_some hd
      cases hd
    · rename_i n1 n2 n3 n4
      exfalso
      simp only [dec] at hd
      first | (cases hd; done) | (split at hd <;> first | (cases hd; done) | (exact n1 _ rfl) | (exact n2 _ rfl) | (exact n3 _ rfl) | (exact n4 _ _ _ rfl))
  | invokespecial q0 =>
    obtain ⟨hle, hdg, hsd⟩ := hkey (by simp)
    simp only [x_sd, Bool.and_eq_true] at hsd
    have hnx := x_dl hle hsd.1
    subst hnx
    rw [Nat.add_sub_cancel_left] at hdg
    split at hsd
    · exact s_objInit hx hb hml hown hdg hd (hts _ (x_lo_ok _ (x_hs_mem hsd.2))) (hts _ w_oi) (hts _ w_oc) (by omega) (by omega) k1
    · rename_i j k cc9
      exfalso
      simp only [dec] at hd
      obtain ⟨-, -, hd⟩ := x_inv_some hd
      cases hr : x_rcv h cc9 ((st.take k).reverse) <;> rw [hr] at hd <;> cases hd
    · rename_i n1 n2
      exfalso
      simp only [dec] at hd
      first | (cases hd; done) | (split at hd <;> first | (cases hd; done) | (exact n1 _ rfl) | (exact n2 _ _ _ rfl))
  | invokevirtual q0 =>
    obtain ⟨hle, hdg, hsd⟩ := hkey (by simp)
    simp only [x_sd, Bool.and_eq_true] at hsd
    have hnx := x_dl hle hsd.1
    subst hnx
    rw [Nat.add_sub_cancel_left] at hdg
    split at hsd
    · exact HJ C' hi hdg hd (Or.inl ⟨rfl, by simpa using x_hs_mem hsd.2⟩) hc0 hs0 k1 k2'
    · exact HJ C' hi hdg hd (Or.inr (Or.inl ⟨rfl, by simpa using x_hs_mem hsd.2⟩)) hc0 hs0 k1 k2'
    · exact HJ C' hi hdg hd (Or.inr (Or.inr ⟨rfl, by simpa using x_hs_mem hsd.2⟩)) hc0 hs0 k1 k2'
    · rename_i j k cc9
      exfalso
      simp only [dec] at hd
      obtain ⟨-, -, hd⟩ := x_inv_some hd
      cases hr : x_rcv h cc9 ((st.take k).reverse) <;> rw [hr] at hd <;> cases hd
    · rename_i n1 n2 n3 n4
      exfalso
      simp only [dec] at hd
      first | (cases hd; done) | (split at hd <;> first | (cases hd; done) | (exact n1 _ rfl) | (exact n2 _ rfl) | (exact n3 _ rfl) | (exact n4 _ _ _ rfl))
  | new q0 =>
    obtain ⟨hle, hdg, hsd⟩ := hkey (by simp)
    simp only [x_sd, Bool.and_eq_true] at hsd
    have hnx := x_dl hle hsd.1
    subst hnx
    rw [Nat.add_sub_cancel_left] at hdg
    split at hsd
    · rename_i ci k
      have hsd := hsd.2
      cases h99 : Nat.beq ci 99 with
      | true => simp only [dec] at hd; rw [h99] at hd; cases hd
      | false =>
        rw [h99] at hsd
        simp only [Bool.false_or] at hsd
        obtain ⟨C9, T, ty0, e1, e2, e3, e4, e5, e6, e7, e8⟩ := x_ln_ok _ (x_hs_mem hsd)
        have hx1 : b = true ∧ x1.2.2.2.2.length = h.length + 1 ∧ x1.2.2.2.1 = sl + k := by
          simp only [dec] at hd
          rw [h99] at hd
          obtain ⟨rfl, rfl⟩ := x_nx_eq hd
          exact ⟨rfl, by simp, rfl⟩
        have q1 := hcb hx1.1
        have q2 := hsb hx1.1
        rw [hx1.2.1] at q1
        rw [hx1.2.2] at q2
        exact s_new hx hb hts hown hK hA hdg hd e1 e2 ty0 e3 (hts _ e4) (hts _ e5) (hts _ e6) e7 (fun v hv => ⟨(e8 v hv ad0 0).1, e8 v hv⟩) hlt q1 q2 k1
    · rename_i n1
      exfalso
      simp only [dec] at hd
      first | (cases hd; done) | (split at hd <;> first | (cases hd; done) | (exact n1 _ _ rfl))
  | newarray a0 =>
    obtain ⟨hle, hdg, hsd⟩ := hkey (by simp)
    simp only [x_sd, Bool.and_eq_true] at hsd
    have hnx := x_dl hle hsd.1
    subst hnx
    rw [Nat.add_sub_cancel_left] at hdg
    split at hsd
    · rename_i t
      have hsd := hsd.2
      simp only [Bool.and_eq_true, decide_eq_true_eq] at hsd
      have ht4 : t < 4 := Nat.le_of_ble_eq_true hsd.1
      have hb1 : b = true := by
        simp only [dec] at hd
        split at hd
        · rename_i x st t' heq
          cases hx0 : decide (x < 0) with
          | true => rw [hx0] at hd; cases hd
          | false => rw [hx0] at hd; exact (x_nx_eq hd).1
        · cases hd
      refine s_newarray hx hb hK hA hdg hd hsd.2 ht4 ?_ hlt (hcb hb1) (hsb hb1) (hbig hb1) k1
      rw [hsd.2]
      rcases (show t = 0 ∨ t = 1 ∨ t = 2 ∨ t = 3 by omega) with rfl | rfl | rfl | rfl
      · exact hts _ w_aint
      · exact hts _ w_along
      · exact hts _ w_abyte
      · exact hts _ w_aboolean
    · rename_i n1
      exfalso
      simp only [dec] at hd
      first | (cases hd; done) | (split at hd <;> first | (cases hd; done) | (exact n1 _ rfl))
  | anewarray q0 =>
    obtain ⟨hle, hdg, hsd⟩ := hkey (by simp)
    simp only [x_sd, Bool.and_eq_true] at hsd
    have hnx := x_dl hle hsd.1
    subst hnx
    rw [Nat.add_sub_cancel_left] at hdg
    split at hsd
    · rename_i t
      obtain ⟨C9, e1, e2, e3⟩ := x_la_ok _ (x_hs_mem hsd.2)
      have hb1 : b = true := by
        simp only [dec] at hd
        split at hd
        · rename_i x st t' heq
          cases hx0 : decide (x < 0) with
          | true => rw [hx0] at hd; cases hd
          | false => rw [hx0] at hd; exact (x_nx_eq hd).1
        · cases hd
      have hao : va_AO C9 s := by
        rcases e3 with rfl | rfl | rfl
        · exact hSt.2.2.1.1
        · exact hSt.2.2.1.2.1
        · exact hSt.2.2.1.2.2
      exact s_anewarray hx hb hown hK hA hdg hd e1 (hts _ e2) hao hlt (hcb hb1) (hsb hb1) (hbig hb1) k1
    · rename_i n1
      exfalso
      simp only [dec] at hd
      first | (cases hd; done) | (split at hd <;> first | (cases hd; done) | (exact n1 _ rfl))
  | iaload =>
    obtain ⟨hle, hdg, hsd⟩ := hkey (by simp)
    simp only [x_sd, Bool.and_eq_true, decide_eq_true_eq] at hsd
    have hnx := x_dl hle hsd
    subst hnx
    rw [Nat.add_sub_cancel_left] at hdg
    exact s_iaload hx hb hK (s_swm hx hb hcon) hdg hd k1 k2'
  | baload =>
    obtain ⟨hle, hdg, hsd⟩ := hkey (by simp)
    simp only [x_sd, Bool.and_eq_true, decide_eq_true_eq] at hsd
    have hnx := x_dl hle hsd
    subst hnx
    rw [Nat.add_sub_cancel_left] at hdg
    exact s_baload hx hb hK hdg hd k1 k2'
  | laload =>
    obtain ⟨hle, hdg, hsd⟩ := hkey (by simp)
    simp only [x_sd, Bool.and_eq_true, decide_eq_true_eq] at hsd
    have hnx := x_dl hle hsd
    subst hnx
    rw [Nat.add_sub_cancel_left] at hdg
    exact s_laload hx hb hK hdg hd k1 k2'
  | iastore =>
    obtain ⟨hle, hdg, hsd⟩ := hkey (by simp)
    simp only [x_sd, Bool.and_eq_true, decide_eq_true_eq] at hsd
    have hnx := x_dl hle hsd
    subst hnx
    rw [Nat.add_sub_cancel_left] at hdg
    exact s_iastore hx hb hK hdg hd k1 k2'
  | lastore =>
    obtain ⟨hle, hdg, hsd⟩ := hkey (by simp)
    simp only [x_sd, Bool.and_eq_true, decide_eq_true_eq] at hsd
    have hnx := x_dl hle hsd
    subst hnx
    rw [Nat.add_sub_cancel_left] at hdg
    exact s_lastore hx hb hK hdg hd k1 k2'
  | bastore =>
    obtain ⟨hle, hdg, hsd⟩ := hkey (by simp)
    simp only [x_sd, Bool.and_eq_true, decide_eq_true_eq] at hsd
    have hnx := x_dl hle hsd
    subst hnx
    rw [Nat.add_sub_cancel_left] at hdg
    exact s_bastore hx hb hK hdg hd k1 k2'
  | aaload =>
    obtain ⟨hle, hdg, hsd⟩ := hkey (by simp)
    simp only [x_sd, Bool.and_eq_true, decide_eq_true_eq] at hsd
    have hnx := x_dl hle hsd
    subst hnx
    rw [Nat.add_sub_cancel_left] at hdg
    exact s_aaload hx hb hK hcon hdg hd k1 k2'
  | aastore =>
    obtain ⟨hle, hdg, hsd⟩ := hkey (by simp)
    simp only [x_sd, Bool.and_eq_true, decide_eq_true_eq] at hsd
    have hnx := x_dl hle hsd
    subst hnx
    rw [Nat.add_sub_cancel_left] at hdg
    exact s_aastore hx hb hK hcon hdg hd k1 k2'
  | arraylength =>
    obtain ⟨hle, hdg, hsd⟩ := hkey (by simp)
    simp only [x_sd, Bool.and_eq_true, decide_eq_true_eq] at hsd
    have hnx := x_dl hle hsd
    subst hnx
    rw [Nat.add_sub_cancel_left] at hdg
    exact s_arraylength hx hb hK hcon hdg hd k1
  | _ => exact absurd hd (by simp [dec])
end XMN
set_option maxHeartbeats 4000000 in
theorem x_sne {l : Launch} (HJ : x_Je l) : ∀ (F d i : Nat) (pc : Nat) (ls : XL) (st : List Value) (sl : Nat) (h : List AC) (pc2 : Nat) (ls2 : XL) (st2 : List Value) (sl2 : Nat) (h2 : List AC), i < 282 → run F d i (pc, ls, st, sl, h) = some (pc2, ls2, st2, sl2, h2) → ∀ {p : Program} {e : Env} {R9 : Room} {s : State} {m : MethodId} {args : Array Value} {below : List Frame} {meth : Method} {c : Code} {Q : State → Prop} {D : va_G} {ad0 adV : Nat → Nat} {A : Nat → Prop} {n0 s0 : Nat}, x_Cx i (d + 4) D ad0 adV A p R9 s m args meth c → h2.length ≤ R9.cells + n0 → sl2 ≤ R9.slots + s0 → h2.length < 1000000 → sl2 ≤ 60000000 →
    x_At p l e R9 s m args below meth c Q D ad0 A n0 s0 (xmL i) (pc2, ls2, st2, sl2, h2) → x_At p l e R9 s m args below meth c Q D ad0 A n0 s0 (xmL i) (pc, ls, st, sl, h) := by
  intro F
  induction F with
  | zero => intro d i pc ls st sl h pc2 ls2 st2 sl2 h2 hi hr; cases hr
  | succ F ih =>
    intro d i pc ls st sl h pc2 ls2 st2 sl2 h2 hi hr p e R9 s m args below meth c Q D ad0 adV A n0 s0 C hcb hsb hlt hbig hK
    have hr0 := hr
    have hr : stp (run F) d i (pc, ls, st, sl, h) = _ := hr
    unfold stp at hr
    dsimp only at hr
    have hm0 := run_mono xk_bad hr0
    generalize hxk : xk i pc = q at hr
    obtain ⟨ins, nx, aux, v⟩ := q
    dsimp only at hr
    cases ht : x_trm ins aux with
    | true => rw [ht] at hr; cases hr; exact hK
    | false =>
      rw [ht] at hr
      dsimp only at hr
      cases hd : dec ins nx aux v pc ls st sl h with
      | none => rw [hd] at hr; cases hr
      | some o =>
        rw [hd] at hr
        rcases o with ⟨b, x1, x2⟩ | ⟨j, as, rest⟩
        · have hgo : ∀ x : XR, run F d i x = some (pc2, ls2, st2, sl2, h2) → x.1 ≠ 65535 ∧ x.2.2.2.2.length ≤ h2.length ∧ x.2.2.2.1 ≤ sl2 ∧ x_At p l e R9 s m args below meth c Q D ad0 A n0 s0 (xmL i) x := by
            intro x hx
            obtain ⟨pc3, ls3, st3, sl3, h3⟩ := x
            have hne : pc3 ≠ 65535 := fun e => by rw [run_dead (x := (pc3, ls3, st3, sl3, h3)) e (xk_bad i)] at hx; cases hx
            have hmo := run_mono xk_bad hx
            exact ⟨hne, hmo.1, hmo.2, ih d i pc3 ls3 st3 sl3 h3 pc2 ls2 st2 sl2 h2 hi hx C hcb hsb hlt hbig hK⟩
          refine x_stq HJ hi C hxk hd (by omega) ?_ ?_ ?_ (by omega) (by omega) ?_ ?_
          · intro hb
            subst hb
            have := hgo x1 hr
            omega
          · intro hb
            subst hb
            have := hgo x1 hr
            omega
          · intro hb
            subst hb
            have := hgo x1 hr
            omega
          · intro hb
            subst hb
            exact (hgo x1 hr).2.2.2
          · intro hb
            subst hb
            exact ⟨(hgo x2 hr).1, (hgo x2 hr).2.2.2⟩
        · cases d with
          | zero => cases hr
          | succ d' =>
            dsimp only at hr
            cases hc : run F d' j (x_ent j as sl h) with
            | none => rw [hc] at hr; cases hr
            | some z =>
              rw [hc] at hr
              obtain ⟨pc3, ls3, st3, sl3, h3⟩ := z
              dsimp only at hr
              cases hv : x_ret (xrk j) (xk j pc3).1 st3 with
              | none => rw [hv] at hr; cases hr
              | some vs =>
                rw [hv] at hr
                dsimp only at hr
                obtain ⟨q, k, c9, haux, hca, hins⟩ := dec_call hd
                -- the callee
                unfold x_ent at hc
                cases hble : Nat.ble (x_args as).length (xmL j) with
                | false => rw [hble] at hc; rw [run_dead rfl (xk_bad j)] at hc; cases hc
                | true =>
                  rw [hble] at hc
                  have hmo1 := run_mono xk_bad hc
                  have hmo2 := run_mono xk_bad hr
                  have hcl := x_cls i hi
                  have hok := x_okA i hi pc
                  unfold x_okB at hok
                  rw [hxk] at hok
                  have hk1 : x_At p l e R9 s m args below meth c Q D ad0 A n0 s0 (xmL i) (nx, ls, vs ++ rest, sl3, h3) := ih (d' + 1) i nx ls (vs ++ rest) sl3 h3 pc2 ls2 st2 sl2 h2 hi hr C hcb hsb hlt hbig hK
                  have hMet : x_J j → j < 282 → ∀ ad ca sz, (∀ v ∈ as, wv h.length v) → (∀ c ∈ h, wC h.length c) → ag n0 ad0 ad → Met l (xy j) (x_ws j) (x_rm (d' + 4) (h3.length - h.length) (sl3 - sl)) (x_Pc D ad adV ca h sz as) (x_Qg D ad h.length sl sl3 h3 vs (va_A (cW ad ca h) sz)) (h3.length - h.length) (sl3 - sl) (va_A (cW ad ca h) sz) := by
                    intro hJ hj ad ca sz hw1 hw2 hg
                    refine x_met (ls2 := ls3) hJ hv (x_retdg hj hv) (Nat.le_of_ble_eq_true hble) hw1 hw2 hmo1 ?_
                    intro p e s m args below meth c Q A C2 hend
                    exact ih d' j 0 (x_pad (xmL j) (x_args as)) [] sl h pc3 ls3 st3 sl3 h3 hj hc C2 (by show _ ≤ (h3.length - h.length) + h.length; omega) (by show _ ≤ (sl3 - sl) + sl; omega) (by omega) (by omega) hend
                  subst haux
                  rcases hins with rfl | ⟨rfl, hrc⟩ | ⟨rfl, hrc⟩
                  · simp only [Bool.and_eq_true, decide_eq_true_eq, x_sd] at hok
                    obtain ⟨hle, hdg, hlen, hmem⟩ := hok
                    have hnx := x_dl hle hlen
                    subst hnx
                    rw [Nat.add_sub_cancel_left] at hdg
                    obtain ⟨hJ, hj, f1, f2, f3⟩ := x_lm_ok _ (x_hs_mem hmem)
                    rw [← hcl] at f1
                    exact s_cs (d := d' + 4) (v := 0) (x := 0) C hdg hca hJ f1 f2 f3 (hMet hJ hj) (by omega) (by omega) hmo1 hk1
                  · simp only [Bool.and_eq_true, decide_eq_true_eq, x_sd] at hok
                    obtain ⟨hle, hdg, hlen, hmem⟩ := hok
                    have hnx := x_dl hle hlen
                    subst hnx
                    rw [Nat.add_sub_cancel_left] at hdg
                    obtain ⟨hJ, hj, f1, f2, f3, f4, f5⟩ := x_lm_ok _ (x_hs_mem hmem)
                    rw [← hcl] at f1
                    exact s_ci (d := d' + 4) C hdg hca hrc hJ f1 f2 f3 f4 f5 (hMet hJ hj) (by omega) (by omega) hmo1 hk1
                  · simp only [Bool.and_eq_true, decide_eq_true_eq, x_sd] at hok
                    obtain ⟨hle, hdg, hlen, hmem⟩ := hok
                    have hnx := x_dl hle hlen
                    subst hnx
                    rw [Nat.add_sub_cancel_left] at hdg
                    obtain ⟨hJ, hj, f1, f2, f3, f4, f5⟩ := x_lm_ok _ (x_hs_mem hmem)
                    rw [← hcl] at f1
                    exact s_cv (d := d' + 4) C hdg hca hrc f5 hJ f1 f2 f3 f4 (hMet hJ hj) (by omega) (by omega) hmo1 hk1
