/-! WORDS: letters packed by 256 and by 27 -/
theorem wb_tb (n : Nat) : (lN n).toBitVec = BitVec.ofNat 64 n := rfl
theorem wb_inj {a b : Int64} (h : a.toBitVec = b.toBitVec) : a = b := Int64.toBitVec_inj.mp h
theorem wb_tn {n : Nat} (h : n < 2 ^ 64) : (lN n).toBitVec.toNat = n := by rw [wb_tb, BitVec.toNat_ofNat, Nat.mod_eq_of_lt h]
theorem wb_of (x : Int64) : ∃ n, n < 2 ^ 64 ∧ x = lN n := ⟨x.toBitVec.toNat, x.toBitVec.isLt, wb_inj (by rw [wb_tb]; simp)⟩
theorem wb_of32 (x : Int32) : ∃ n, n < 2 ^ 32 ∧ x = nI n := ⟨x.toBitVec.toNat, x.toBitVec.isLt, Int32.toBitVec_inj.mp (by show _ = BitVec.ofNat 32 _; simp)⟩
theorem wb_c : ∀ k, k < 64 → ((nI k).toInt64 &&& 63) = lN k := by decide +kernel
theorem wb_cu : ∀ k, k < 64 → ((nI k).toInt64.toUInt64 &&& Int64.toUInt64 63) = UInt64.ofNat k := by decide +kernel
theorem wb_sm : ∀ k, k < 64 → (BitVec.ofNat 64 k).smod 64 = BitVec.ofNat 64 k := by decide +kernel
theorem wb_pw {a b : Nat} (h : a ≤ b) : 2 ^ b = 2 ^ a * 2 ^ (b - a) := by rw [← Nat.pow_add]; congr 1; omega
theorem wb_lt2 {a b : Nat} (h : a < b) : 2 ^ a < 2 ^ b := Nat.pow_lt_pow_right (by decide) h
theorem wb_mod (n : Nat) : lN n = lN (n % 2 ^ 64) := wb_inj (by rw [wb_tb, wb_tb]; apply BitVec.eq_of_toNat_eq; rw [BitVec.toNat_ofNat, BitVec.toNat_ofNat, Nat.mod_mod])
theorem wb_shr {n k : Nat} (hn : n < 2 ^ 64) (hk : k < 64) : ((lN n).toUInt64 >>> ((nI k).toInt64.toUInt64 &&& Int64.toUInt64 63)).toInt64 = lN (n / 2 ^ k) := by
  rw [wb_cu k hk]
  apply wb_inj
  apply BitVec.eq_of_toNat_eq
  show ((lN n).toUInt64 >>> UInt64.ofNat k).toNat = (BitVec.ofNat 64 _).toNat
  have h1 : (UInt64.ofNat k).toNat = k := by
    show (BitVec.ofNat 64 k).toNat = k
    rw [BitVec.toNat_ofNat, Nat.mod_eq_of_lt (by omega)]
  have h2 : (lN n).toUInt64.toNat = n := wb_tn hn
  rw [UInt64.toNat_shiftRight, h1, h2, Nat.mod_eq_of_lt hk, Nat.shiftRight_eq_div_pow, BitVec.toNat_ofNat, Nat.mod_eq_of_lt (Nat.lt_of_le_of_lt (Nat.div_le_self _ _) hn)]
theorem wb_shl (n : Nat) {k : Nat} (hk : k < 64) : lN n <<< ((nI k).toInt64 &&& 63) = lN (n * 2 ^ k) := by
  rw [wb_c k hk]
  apply wb_inj
  rw [Int64.toBitVec_shiftLeft, wb_tb, wb_tb, wb_tb, wb_sm k hk]
  apply BitVec.eq_of_toNat_eq
  rw [BitVec.shiftLeft_eq', BitVec.toNat_shiftLeft, BitVec.toNat_ofNat, BitVec.toNat_ofNat, BitVec.toNat_ofNat, Nat.mod_eq_of_lt (show k < 2 ^ 64 by omega), Nat.shiftLeft_eq, Nat.mul_mod, Nat.mod_mod, ← Nat.mul_mod]
theorem wb_and {a b : Nat} (ha : a < 2 ^ 64) (hb : b < 2 ^ 64) : lN a &&& lN b = lN (a &&& b) := by
  apply wb_inj
  rw [Int64.toBitVec_and, wb_tb, wb_tb, wb_tb]
  apply BitVec.eq_of_toNat_eq
  rw [BitVec.toNat_and, BitVec.toNat_ofNat, BitVec.toNat_ofNat, BitVec.toNat_ofNat, Nat.mod_eq_of_lt ha, Nat.mod_eq_of_lt hb, Nat.mod_eq_of_lt (Nat.and_lt_two_pow _ hb)]
theorem wb_or {a b : Nat} (ha : a < 2 ^ 64) (hb : b < 2 ^ 64) : lN a ||| lN b = lN (a ||| b) := by
  apply wb_inj
  rw [Int64.toBitVec_or, wb_tb, wb_tb, wb_tb]
  apply BitVec.eq_of_toNat_eq
  rw [BitVec.toNat_or, BitVec.toNat_ofNat, BitVec.toNat_ofNat, BitVec.toNat_ofNat, Nat.mod_eq_of_lt ha, Nat.mod_eq_of_lt hb, Nat.mod_eq_of_lt (Nat.or_lt_two_pow ha hb)]
theorem wb_mask {n k : Nat} (hn : n < 2 ^ 64) (hk : k < 64) : lN n &&& lN (2 ^ k - 1) = lN (n % 2 ^ k) := by
  rw [wb_and hn (by have := wb_lt2 hk; omega), Nat.and_two_pow_sub_one_eq_mod]
def v256 (r : List Nat) : Nat := r.foldr (fun c a => a * 256 + c) 0
def v27 (r : List Nat) : Nat := r.foldr (fun c a => a * 27 + (c - 96)) 0
theorem v256_cons (c : Nat) (r : List Nat) : v256 (c :: r) = v256 r * 256 + c := rfl
theorem v27_cons (c : Nat) (r : List Nat) : v27 (c :: r) = v27 r * 27 + (c - 96) := rfl
theorem p256_v (s : List Nat) : p256 s = v256 s.reverse := by
  unfold p256 v256
  rw [List.foldl_eq_foldr_reverse]
theorem p27_v (s : List Nat) : p27 s = v27 s.reverse := by
  unfold p27 v27
  rw [List.foldl_eq_foldr_reverse]
/-- letters -/
def Ltr (r : List Nat) : Prop := ∀ c ∈ r, 97 ≤ c ∧ c ≤ 122
theorem v256_lt : ∀ {r : List Nat}, Ltr r → v256 r < 256 ^ r.length
  | [], _ => by decide
  | c :: r, h => by
    have h1 := v256_lt (r := r) (fun x hx => h x (List.mem_cons_of_mem _ hx))
    have h2 := h c List.mem_cons_self
    rw [v256_cons, List.length_cons, Nat.pow_succ]
    omega
theorem v27_lt : ∀ {r : List Nat}, Ltr r → v27 r < 27 ^ r.length
  | [], _ => by decide
  | c :: r, h => by
    have h1 := v27_lt (r := r) (fun x hx => h x (List.mem_cons_of_mem _ hx))
    have h2 := h c List.mem_cons_self
    rw [v27_cons, List.length_cons, Nat.pow_succ]
    omega
theorem v256_inj : ∀ {r r' : List Nat}, Ltr r → Ltr r' → v256 r = v256 r' → r = r'
  | [], [], _, _, _ => rfl
  | [], c :: r', _, h', e => by
    have := h' c List.mem_cons_self
    rw [v256_cons] at e
    have e0 : v256 [] = 0 := rfl
    omega
  | c :: r, [], h, _, e => by
    have := h c List.mem_cons_self
    rw [v256_cons] at e
    have e0 : v256 [] = 0 := rfl
    omega
  | c :: r, c' :: r', h, h', e => by
    have h1 := h c List.mem_cons_self
    have h2 := h' c' List.mem_cons_self
    rw [v256_cons, v256_cons] at e
    have e1 : c = c' := by omega
    have e2 : v256 r = v256 r' := by omega
    rw [e1, v256_inj (fun x hx => h x (List.mem_cons_of_mem _ hx)) (fun x hx => h' x (List.mem_cons_of_mem _ hx)) e2]
theorem v27_inj : ∀ {r r' : List Nat}, Ltr r → Ltr r' → v27 r = v27 r' → r = r'
  | [], [], _, _, _ => rfl
  | [], c :: r', _, h', e => by
    have := h' c List.mem_cons_self
    rw [v27_cons] at e
    have e0 : v27 [] = 0 := rfl
    omega
  | c :: r, [], h, _, e => by
    have := h c List.mem_cons_self
    rw [v27_cons] at e
    have e0 : v27 [] = 0 := rfl
    omega
  | c :: r, c' :: r', h, h', e => by
    have h1 := h c List.mem_cons_self
    have h2 := h' c' List.mem_cons_self
    rw [v27_cons, v27_cons] at e
    have e1 : c = c' := by omega
    have e2 : v27 r = v27 r' := by omega
    rw [e1, v27_inj (fun x hx => h x (List.mem_cons_of_mem _ hx)) (fun x hx => h' x (List.mem_cons_of_mem _ hx)) e2]
/-- letter j from the end -/
theorem v256_byte : ∀ (j : Nat) {r : List Nat}, Ltr r → (v256 r / 256 ^ j) % 256 = r.getD j 0
  | j, [], _ => by
    have : v256 [] = 0 := rfl
    rw [this, Nat.zero_div]
    simp
  | 0, c :: r, h => by
    have h2 := h c List.mem_cons_self
    rw [v256_cons, Nat.pow_zero, Nat.div_one]
    simp only [List.getD_cons_zero]
    omega
  | j + 1, c :: r, h => by
    have h2 := h c List.mem_cons_self
    have ih := v256_byte j (r := r) (fun x hx => h x (List.mem_cons_of_mem _ hx))
    rw [v256_cons, Nat.pow_succ, Nat.mul_comm (256 ^ j), ← Nat.div_div_eq_div_mul]
    simp only [List.getD_cons_succ]
    rw [show (v256 r * 256 + c) / 256 = v256 r by omega]
    exact ih
theorem Lts_r {s : List Nat} (h : Lts s) : Ltr s.reverse ∧ 1 ≤ s.reverse.length ∧ s.reverse.length ≤ 7 := by
  obtain ⟨h1, h2, h3⟩ := h
  refine ⟨fun c hc => h3 c (List.mem_reverse.mp hc), ?_, ?_⟩
  · rw [List.length_reverse]; exact h1
  · rw [List.length_reverse]; exact h2
theorem p256_lt {s : List Nat} (h : Lts s) : p256 s < 2 ^ 56 := by
  obtain ⟨h1, h2, h3⟩ := Lts_r h
  rw [p256_v]
  refine Nat.lt_of_lt_of_le (v256_lt h1) ?_
  exact Nat.le_trans (Nat.pow_le_pow_right (by decide) h3) (by decide)
theorem p27_lt {s : List Nat} (h : Lts s) : p27 s < 2 ^ 40 := by
  obtain ⟨h1, h2, h3⟩ := Lts_r h
  rw [p27_v]
  refine Nat.lt_of_lt_of_le (v27_lt h1) ?_
  exact Nat.le_trans (Nat.pow_le_pow_right (by decide) h3) (by decide)
theorem p256_inj {s s' : List Nat} (h : Lts s) (h' : Lts s') (e : p256 s = p256 s') : s = s' := by
  rw [p256_v, p256_v] at e
  have := v256_inj (Lts_r h).1 (Lts_r h').1 e
  exact List.reverse_inj.mp this
theorem p27_inj {s s' : List Nat} (h : Lts s) (h' : Lts s') (e : p27 s = p27 s') : s = s' := by
  rw [p27_v, p27_v] at e
  have := v27_inj (Lts_r h).1 (Lts_r h').1 e
  exact List.reverse_inj.mp this
theorem lN256 {s s' : List Nat} (h : Lts s) (h' : Lts s') : lN (p256 s) = lN (p256 s') ↔ s = s' := by
  have a := p256_lt h
  have b := p256_lt h'
  rw [pk_lEQ (by omega) (by omega)]
  exact ⟨p256_inj h h', fun e => by rw [e]⟩
theorem lN27 {s s' : List Nat} (h : Lts s) (h' : Lts s') : lN (p27 s) = lN (p27 s') ↔ s = s' := by
  have a := p27_lt h
  have b := p27_lt h'
  rw [pk_lEQ (by omega) (by omega)]
  exact ⟨p27_inj h h', fun e => by rw [e]⟩
theorem Nw_iff {l w l' w' : Int64} (h : Nw l w) (h' : Nw l' w') : l = l' ↔ w = w' := by
  obtain ⟨s, hs, rfl, rfl⟩ := h
  obtain ⟨s', hs', rfl, rfl⟩ := h'
  exact (lN256 hs hs').trans (lN27 hs hs').symm
def wl : Nat → List Nat
  | 0 => [104, 111, 117, 115, 101]
  | 1 => [100, 101, 98, 116]
  | 2 => [103, 114, 111, 119, 115]
  | 3 => [112, 97, 121]
  | 4 => [98, 111, 114, 114, 111, 119, 115]
  | 5 => [115, 101, 108, 108]
  | 6 => [102, 111, 114, 103, 105, 118, 101]
  | 7 => [99, 108, 101, 97, 114]
  | 8 => [121, 101, 97, 114]
  | 9 => [111, 114]
  | 10 => [97, 110, 100]
  | 11 => [110, 111, 116]
  | 12 => [102, 114, 101, 101]
  | 13 => [98, 114, 111, 107, 101]
  | 14 => [102, 117, 108, 108]
  | 15 => [114, 105, 110, 103, 101, 100]
  | 16 => [111, 119, 101, 115]
  | 17 => [99, 111, 105, 110, 115]
  | 18 => [100, 101, 98, 116, 115]
  | 19 => [99, 104, 97, 105, 114, 115]
  | _ => [110, 117, 109, 98, 101, 114]
theorem wl_ok : ∀ k : Fin 21, (1 ≤ (wl k.val).length ∧ (wl k.val).length ≤ 7 ∧ ((wl k.val).all fun c => decide (97 ≤ c) && decide (c ≤ 122)) = true) ∧ x_lets k.val = lN (p256 (wl k.val)) := by decide +kernel
theorem wl_L {k : Nat} (hk : k ≤ 20) : Lts (wl k) := by
  have h := (wl_ok ⟨k, by omega⟩).1
  refine ⟨h.1, h.2.1, fun c hc => ?_⟩
  have := List.all_eq_true.mp h.2.2 c hc
  simpa using this
theorem wl_x {k : Nat} (hk : k ≤ 20) : x_lets k = lN (p256 (wl k)) := (wl_ok ⟨k, by omega⟩).2
set_option maxRecDepth 100000 in
theorem wl_ne : ∀ j k : Fin 21, wl j.val = wl k.val → j = k := by decide +kernel
theorem wl_inj {j k : Nat} (hj : j ≤ 20) (hk : k ≤ 20) (e : wl j = wl k) : j = k := by
  have := wl_ne ⟨j, by omega⟩ ⟨k, by omega⟩ e
  exact congrArg Fin.val this
section RFV
variable (d sl : Nat) (I : Nat → Int32) (w : Int64) (A : Nat → Nat → Int32) (N : Nat → Nat → Int64)
theorem c176_0 : C (d + 1) 176 [.int (nI 0)] sl (RH I w A N) = some ([.long (lN (p27 (wl 0)))], sl, RH I w A N) := by
  rw [e176, m176_0, m176_1_c0, m176_96, e175, m175_0]
  simp (disch := omega) only [rt_c, b_some, List.cons_append, List.nil_append, Bool.cond_not, cond_true, cond_false, Bool.cond_decide, nI_add, nI_clamp, xin_n, dle_e, dlt_e, deq_e, xb_0, xb_1, decide_true, decide_false, Bool.not_true, Bool.not_false, Bool.and_true, Bool.true_and, Bool.and_false, Bool.false_and, Bool.true_or, Bool.false_or, Bool.or_true, Bool.or_false, if_true, if_false, up1_s, n_31, Int32.lt_irrefl, Nat.reduceLeDiff, t175_122, m176_111, t176_111]
  exact congrArg (fun v => some ([Value.long v], sl, RH I w A N)) (by decide +kernel)
theorem c176_1 : C (d + 1) 176 [.int (nI 1)] sl (RH I w A N) = some ([.long (lN (p27 (wl 1)))], sl, RH I w A N) := by
  rw [e176, m176_0, m176_1_c1, m176_112, e175, m175_0]
  simp (disch := omega) only [rt_c, b_some, List.cons_append, List.nil_append, Bool.cond_not, cond_true, cond_false, Bool.cond_decide, nI_add, nI_clamp, xin_n, dle_e, dlt_e, deq_e, xb_0, xb_1, decide_true, decide_false, Bool.not_true, Bool.not_false, Bool.and_true, Bool.true_and, Bool.and_false, Bool.false_and, Bool.true_or, Bool.false_or, Bool.or_true, Bool.or_false, if_true, if_false, up1_s, n_31, Int32.lt_irrefl, Nat.reduceLeDiff, t175_122, m176_126, t176_126]
  exact congrArg (fun v => some ([Value.long v], sl, RH I w A N)) (by decide +kernel)
theorem c176_2 : C (d + 1) 176 [.int (nI 2)] sl (RH I w A N) = some ([.long (lN (p27 (wl 2)))], sl, RH I w A N) := by
  rw [e176, m176_0, m176_1_c2, m176_127, e175, m175_0]
  simp (disch := omega) only [rt_c, b_some, List.cons_append, List.nil_append, Bool.cond_not, cond_true, cond_false, Bool.cond_decide, nI_add, nI_clamp, xin_n, dle_e, dlt_e, deq_e, xb_0, xb_1, decide_true, decide_false, Bool.not_true, Bool.not_false, Bool.and_true, Bool.true_and, Bool.and_false, Bool.false_and, Bool.true_or, Bool.false_or, Bool.or_true, Bool.or_false, if_true, if_false, up1_s, n_31, Int32.lt_irrefl, Nat.reduceLeDiff, t175_122, m176_142, t176_142]
  exact congrArg (fun v => some ([Value.long v], sl, RH I w A N)) (by decide +kernel)
theorem c176_3 : C (d + 1) 176 [.int (nI 3)] sl (RH I w A N) = some ([.long (lN (p27 (wl 3)))], sl, RH I w A N) := by
  rw [e176, m176_0, m176_1_c3, m176_143, e175, m175_0]
  simp (disch := omega) only [rt_c, b_some, List.cons_append, List.nil_append, Bool.cond_not, cond_true, cond_false, Bool.cond_decide, nI_add, nI_clamp, xin_n, dle_e, dlt_e, deq_e, xb_0, xb_1, decide_true, decide_false, Bool.not_true, Bool.not_false, Bool.and_true, Bool.true_and, Bool.and_false, Bool.false_and, Bool.true_or, Bool.false_or, Bool.or_true, Bool.or_false, if_true, if_false, up1_s, n_31, Int32.lt_irrefl, Nat.reduceLeDiff, t175_122, m176_156, t176_156]
  exact congrArg (fun v => some ([Value.long v], sl, RH I w A N)) (by decide +kernel)
theorem c176_4 : C (d + 1) 176 [.int (nI 4)] sl (RH I w A N) = some ([.long (lN (p27 (wl 4)))], sl, RH I w A N) := by
  rw [e176, m176_0, m176_1_c4, m176_157, e175, m175_0]
  simp (disch := omega) only [rt_c, b_some, List.cons_append, List.nil_append, Bool.cond_not, cond_true, cond_false, Bool.cond_decide, nI_add, nI_clamp, xin_n, dle_e, dlt_e, deq_e, xb_0, xb_1, decide_true, decide_false, Bool.not_true, Bool.not_false, Bool.and_true, Bool.true_and, Bool.and_false, Bool.false_and, Bool.true_or, Bool.false_or, Bool.or_true, Bool.or_false, if_true, if_false, up1_s, n_31, Int32.lt_irrefl, Nat.reduceLeDiff, t175_122, m176_174, t176_174]
  exact congrArg (fun v => some ([Value.long v], sl, RH I w A N)) (by decide +kernel)
theorem c176_5 : C (d + 1) 176 [.int (nI 5)] sl (RH I w A N) = some ([.long (lN (p27 (wl 5)))], sl, RH I w A N) := by
  rw [e176, m176_0, m176_1_c5, m176_175, e175, m175_0]
  simp (disch := omega) only [rt_c, b_some, List.cons_append, List.nil_append, Bool.cond_not, cond_true, cond_false, Bool.cond_decide, nI_add, nI_clamp, xin_n, dle_e, dlt_e, deq_e, xb_0, xb_1, decide_true, decide_false, Bool.not_true, Bool.not_false, Bool.and_true, Bool.true_and, Bool.and_false, Bool.false_and, Bool.true_or, Bool.false_or, Bool.or_true, Bool.or_false, if_true, if_false, up1_s, n_31, Int32.lt_irrefl, Nat.reduceLeDiff, t175_122, m176_189, t176_189]
  exact congrArg (fun v => some ([Value.long v], sl, RH I w A N)) (by decide +kernel)
theorem c176_6 : C (d + 1) 176 [.int (nI 6)] sl (RH I w A N) = some ([.long (lN (p27 (wl 6)))], sl, RH I w A N) := by
  rw [e176, m176_0, m176_1_c6, m176_190, e175, m175_0]
  simp (disch := omega) only [rt_c, b_some, List.cons_append, List.nil_append, Bool.cond_not, cond_true, cond_false, Bool.cond_decide, nI_add, nI_clamp, xin_n, dle_e, dlt_e, deq_e, xb_0, xb_1, decide_true, decide_false, Bool.not_true, Bool.not_false, Bool.and_true, Bool.true_and, Bool.and_false, Bool.false_and, Bool.true_or, Bool.false_or, Bool.or_true, Bool.or_false, if_true, if_false, up1_s, n_31, Int32.lt_irrefl, Nat.reduceLeDiff, t175_122, m176_207, t176_207]
  exact congrArg (fun v => some ([Value.long v], sl, RH I w A N)) (by decide +kernel)
theorem c176_7 : C (d + 1) 176 [.int (nI 7)] sl (RH I w A N) = some ([.long (lN (p27 (wl 7)))], sl, RH I w A N) := by
  rw [e176, m176_0, m176_1_c7, m176_208, e175, m175_0]
  simp (disch := omega) only [rt_c, b_some, List.cons_append, List.nil_append, Bool.cond_not, cond_true, cond_false, Bool.cond_decide, nI_add, nI_clamp, xin_n, dle_e, dlt_e, deq_e, xb_0, xb_1, decide_true, decide_false, Bool.not_true, Bool.not_false, Bool.and_true, Bool.true_and, Bool.and_false, Bool.false_and, Bool.true_or, Bool.false_or, Bool.or_true, Bool.or_false, if_true, if_false, up1_s, n_31, Int32.lt_irrefl, Nat.reduceLeDiff, t175_122, m176_223, t176_223]
  exact congrArg (fun v => some ([Value.long v], sl, RH I w A N)) (by decide +kernel)
theorem c176_8 : C (d + 1) 176 [.int (nI 8)] sl (RH I w A N) = some ([.long (lN (p27 (wl 8)))], sl, RH I w A N) := by
  rw [e176, m176_0, m176_1_c8, m176_224, e175, m175_0]
  simp (disch := omega) only [rt_c, b_some, List.cons_append, List.nil_append, Bool.cond_not, cond_true, cond_false, Bool.cond_decide, nI_add, nI_clamp, xin_n, dle_e, dlt_e, deq_e, xb_0, xb_1, decide_true, decide_false, Bool.not_true, Bool.not_false, Bool.and_true, Bool.true_and, Bool.and_false, Bool.false_and, Bool.true_or, Bool.false_or, Bool.or_true, Bool.or_false, if_true, if_false, up1_s, n_31, Int32.lt_irrefl, Nat.reduceLeDiff, t175_122, m176_238, t176_238]
  exact congrArg (fun v => some ([Value.long v], sl, RH I w A N)) (by decide +kernel)
theorem c176_9 : C (d + 1) 176 [.int (nI 9)] sl (RH I w A N) = some ([.long (lN (p27 (wl 9)))], sl, RH I w A N) := by
  rw [e176, m176_0, m176_1_c9, m176_239, e175, m175_0]
  simp (disch := omega) only [rt_c, b_some, List.cons_append, List.nil_append, Bool.cond_not, cond_true, cond_false, Bool.cond_decide, nI_add, nI_clamp, xin_n, dle_e, dlt_e, deq_e, xb_0, xb_1, decide_true, decide_false, Bool.not_true, Bool.not_false, Bool.and_true, Bool.true_and, Bool.and_false, Bool.false_and, Bool.true_or, Bool.false_or, Bool.or_true, Bool.or_false, if_true, if_false, up1_s, n_31, Int32.lt_irrefl, Nat.reduceLeDiff, t175_122, m176_251, t176_251]
  exact congrArg (fun v => some ([Value.long v], sl, RH I w A N)) (by decide +kernel)
theorem c176_10 : C (d + 1) 176 [.int (nI 10)] sl (RH I w A N) = some ([.long (lN (p27 (wl 10)))], sl, RH I w A N) := by
  rw [e176, m176_0, m176_1_c10, m176_252, e175, m175_0]
  simp (disch := omega) only [rt_c, b_some, List.cons_append, List.nil_append, Bool.cond_not, cond_true, cond_false, Bool.cond_decide, nI_add, nI_clamp, xin_n, dle_e, dlt_e, deq_e, xb_0, xb_1, decide_true, decide_false, Bool.not_true, Bool.not_false, Bool.and_true, Bool.true_and, Bool.and_false, Bool.false_and, Bool.true_or, Bool.false_or, Bool.or_true, Bool.or_false, if_true, if_false, up1_s, n_31, Int32.lt_irrefl, Nat.reduceLeDiff, t175_122, m176_265, t176_265]
  exact congrArg (fun v => some ([Value.long v], sl, RH I w A N)) (by decide +kernel)
theorem c176_11 : C (d + 1) 176 [.int (nI 11)] sl (RH I w A N) = some ([.long (lN (p27 (wl 11)))], sl, RH I w A N) := by
  rw [e176, m176_0, m176_1_c11, m176_266, e175, m175_0]
  simp (disch := omega) only [rt_c, b_some, List.cons_append, List.nil_append, Bool.cond_not, cond_true, cond_false, Bool.cond_decide, nI_add, nI_clamp, xin_n, dle_e, dlt_e, deq_e, xb_0, xb_1, decide_true, decide_false, Bool.not_true, Bool.not_false, Bool.and_true, Bool.true_and, Bool.and_false, Bool.false_and, Bool.true_or, Bool.false_or, Bool.or_true, Bool.or_false, if_true, if_false, up1_s, n_31, Int32.lt_irrefl, Nat.reduceLeDiff, t175_122, m176_279, t176_279]
  exact congrArg (fun v => some ([Value.long v], sl, RH I w A N)) (by decide +kernel)
theorem c176_12 : C (d + 1) 176 [.int (nI 12)] sl (RH I w A N) = some ([.long (lN (p27 (wl 12)))], sl, RH I w A N) := by
  rw [e176, m176_0, m176_1_c12, m176_280, e175, m175_0]
  simp (disch := omega) only [rt_c, b_some, List.cons_append, List.nil_append, Bool.cond_not, cond_true, cond_false, Bool.cond_decide, nI_add, nI_clamp, xin_n, dle_e, dlt_e, deq_e, xb_0, xb_1, decide_true, decide_false, Bool.not_true, Bool.not_false, Bool.and_true, Bool.true_and, Bool.and_false, Bool.false_and, Bool.true_or, Bool.false_or, Bool.or_true, Bool.or_false, if_true, if_false, up1_s, n_31, Int32.lt_irrefl, Nat.reduceLeDiff, t175_122, m176_294, t176_294]
  exact congrArg (fun v => some ([Value.long v], sl, RH I w A N)) (by decide +kernel)
theorem c176_13 : C (d + 1) 176 [.int (nI 13)] sl (RH I w A N) = some ([.long (lN (p27 (wl 13)))], sl, RH I w A N) := by
  rw [e176, m176_0, m176_1_c13, m176_295, e175, m175_0]
  simp (disch := omega) only [rt_c, b_some, List.cons_append, List.nil_append, Bool.cond_not, cond_true, cond_false, Bool.cond_decide, nI_add, nI_clamp, xin_n, dle_e, dlt_e, deq_e, xb_0, xb_1, decide_true, decide_false, Bool.not_true, Bool.not_false, Bool.and_true, Bool.true_and, Bool.and_false, Bool.false_and, Bool.true_or, Bool.false_or, Bool.or_true, Bool.or_false, if_true, if_false, up1_s, n_31, Int32.lt_irrefl, Nat.reduceLeDiff, t175_122, m176_310, t176_310]
  exact congrArg (fun v => some ([Value.long v], sl, RH I w A N)) (by decide +kernel)
theorem c176_14 : C (d + 1) 176 [.int (nI 14)] sl (RH I w A N) = some ([.long (lN (p27 (wl 14)))], sl, RH I w A N) := by
  rw [e176, m176_0, m176_1_c14, m176_311, e175, m175_0]
  simp (disch := omega) only [rt_c, b_some, List.cons_append, List.nil_append, Bool.cond_not, cond_true, cond_false, Bool.cond_decide, nI_add, nI_clamp, xin_n, dle_e, dlt_e, deq_e, xb_0, xb_1, decide_true, decide_false, Bool.not_true, Bool.not_false, Bool.and_true, Bool.true_and, Bool.and_false, Bool.false_and, Bool.true_or, Bool.false_or, Bool.or_true, Bool.or_false, if_true, if_false, up1_s, n_31, Int32.lt_irrefl, Nat.reduceLeDiff, t175_122, m176_325, t176_325]
  exact congrArg (fun v => some ([Value.long v], sl, RH I w A N)) (by decide +kernel)
theorem c176_15 : C (d + 1) 176 [.int (nI 15)] sl (RH I w A N) = some ([.long (lN (p27 (wl 15)))], sl, RH I w A N) := by
  rw [e176, m176_0, m176_1_c15, m176_326, e175, m175_0]
  simp (disch := omega) only [rt_c, b_some, List.cons_append, List.nil_append, Bool.cond_not, cond_true, cond_false, Bool.cond_decide, nI_add, nI_clamp, xin_n, dle_e, dlt_e, deq_e, xb_0, xb_1, decide_true, decide_false, Bool.not_true, Bool.not_false, Bool.and_true, Bool.true_and, Bool.and_false, Bool.false_and, Bool.true_or, Bool.false_or, Bool.or_true, Bool.or_false, if_true, if_false, up1_s, n_31, Int32.lt_irrefl, Nat.reduceLeDiff, t175_122, m176_342, t176_342]
  exact congrArg (fun v => some ([Value.long v], sl, RH I w A N)) (by decide +kernel)
theorem c176_16 : C (d + 1) 176 [.int (nI 16)] sl (RH I w A N) = some ([.long (lN (p27 (wl 16)))], sl, RH I w A N) := by
  rw [e176, m176_0, m176_1_c16, m176_343, e175, m175_0]
  simp (disch := omega) only [rt_c, b_some, List.cons_append, List.nil_append, Bool.cond_not, cond_true, cond_false, Bool.cond_decide, nI_add, nI_clamp, xin_n, dle_e, dlt_e, deq_e, xb_0, xb_1, decide_true, decide_false, Bool.not_true, Bool.not_false, Bool.and_true, Bool.true_and, Bool.and_false, Bool.false_and, Bool.true_or, Bool.false_or, Bool.or_true, Bool.or_false, if_true, if_false, up1_s, n_31, Int32.lt_irrefl, Nat.reduceLeDiff, t175_122, m176_357, t176_357]
  exact congrArg (fun v => some ([Value.long v], sl, RH I w A N)) (by decide +kernel)
theorem c176_17 : C (d + 1) 176 [.int (nI 17)] sl (RH I w A N) = some ([.long (lN (p27 (wl 17)))], sl, RH I w A N) := by
  rw [e176, m176_0, m176_1_c17, m176_358, e175, m175_0]
  simp (disch := omega) only [rt_c, b_some, List.cons_append, List.nil_append, Bool.cond_not, cond_true, cond_false, Bool.cond_decide, nI_add, nI_clamp, xin_n, dle_e, dlt_e, deq_e, xb_0, xb_1, decide_true, decide_false, Bool.not_true, Bool.not_false, Bool.and_true, Bool.true_and, Bool.and_false, Bool.false_and, Bool.true_or, Bool.false_or, Bool.or_true, Bool.or_false, if_true, if_false, up1_s, n_31, Int32.lt_irrefl, Nat.reduceLeDiff, t175_122, m176_373, t176_373]
  exact congrArg (fun v => some ([Value.long v], sl, RH I w A N)) (by decide +kernel)
theorem c176_18 : C (d + 1) 176 [.int (nI 18)] sl (RH I w A N) = some ([.long (lN (p27 (wl 18)))], sl, RH I w A N) := by
  rw [e176, m176_0, m176_1_c18, m176_374, e175, m175_0]
  simp (disch := omega) only [rt_c, b_some, List.cons_append, List.nil_append, Bool.cond_not, cond_true, cond_false, Bool.cond_decide, nI_add, nI_clamp, xin_n, dle_e, dlt_e, deq_e, xb_0, xb_1, decide_true, decide_false, Bool.not_true, Bool.not_false, Bool.and_true, Bool.true_and, Bool.and_false, Bool.false_and, Bool.true_or, Bool.false_or, Bool.or_true, Bool.or_false, if_true, if_false, up1_s, n_31, Int32.lt_irrefl, Nat.reduceLeDiff, t175_122, m176_389, t176_389]
  exact congrArg (fun v => some ([Value.long v], sl, RH I w A N)) (by decide +kernel)
theorem c176_19 : C (d + 1) 176 [.int (nI 19)] sl (RH I w A N) = some ([.long (lN (p27 (wl 19)))], sl, RH I w A N) := by
  rw [e176, m176_0, m176_1_c19, m176_390, e175, m175_0]
  simp (disch := omega) only [rt_c, b_some, List.cons_append, List.nil_append, Bool.cond_not, cond_true, cond_false, Bool.cond_decide, nI_add, nI_clamp, xin_n, dle_e, dlt_e, deq_e, xb_0, xb_1, decide_true, decide_false, Bool.not_true, Bool.not_false, Bool.and_true, Bool.true_and, Bool.and_false, Bool.false_and, Bool.true_or, Bool.false_or, Bool.or_true, Bool.or_false, if_true, if_false, up1_s, n_31, Int32.lt_irrefl, Nat.reduceLeDiff, t175_122, m176_406, t176_406]
  exact congrArg (fun v => some ([Value.long v], sl, RH I w A N)) (by decide +kernel)
theorem c176_20 : C (d + 1) 176 [.int (nI 20)] sl (RH I w A N) = some ([.long (lN (p27 (wl 20)))], sl, RH I w A N) := by
  rw [e176, m176_0, m176_1_out _ _ _ _ _ _ _ _ (by decide), m176_407, e175, m175_0]
  simp (disch := omega) only [rt_c, b_some, List.cons_append, List.nil_append, Bool.cond_not, cond_true, cond_false, Bool.cond_decide, nI_add, nI_clamp, xin_n, dle_e, dlt_e, deq_e, xb_0, xb_1, decide_true, decide_false, Bool.not_true, Bool.not_false, Bool.and_true, Bool.true_and, Bool.and_false, Bool.false_and, Bool.true_or, Bool.false_or, Bool.or_true, Bool.or_false, if_true, if_false, up1_s, n_31, Int32.lt_irrefl, Nat.reduceLeDiff, t175_122, m176_423, t176_423]
  exact congrArg (fun v => some ([Value.long v], sl, RH I w A N)) (by decide +kernel)
theorem c176 {k : Nat} (hk : k ≤ 20) : C (d + 1) 176 [.int (nI k)] sl (RH I w A N) = some ([.long (lN (p27 (wl k)))], sl, RH I w A N) :=
  match k, hk with
  | 0, _ => c176_0 d sl I w A N
  | 1, _ => c176_1 d sl I w A N
  | 2, _ => c176_2 d sl I w A N
  | 3, _ => c176_3 d sl I w A N
  | 4, _ => c176_4 d sl I w A N
  | 5, _ => c176_5 d sl I w A N
  | 6, _ => c176_6 d sl I w A N
  | 7, _ => c176_7 d sl I w A N
  | 8, _ => c176_8 d sl I w A N
  | 9, _ => c176_9 d sl I w A N
  | 10, _ => c176_10 d sl I w A N
  | 11, _ => c176_11 d sl I w A N
  | 12, _ => c176_12 d sl I w A N
  | 13, _ => c176_13 d sl I w A N
  | 14, _ => c176_14 d sl I w A N
  | 15, _ => c176_15 d sl I w A N
  | 16, _ => c176_16 d sl I w A N
  | 17, _ => c176_17 d sl I w A N
  | 18, _ => c176_18 d sl I w A N
  | 19, _ => c176_19 d sl I w A N
  | 20, _ => c176_20 d sl I w A N
  | k + 21, h => absurd h (by omega)
theorem c175_paid : C d 175 [.int (nI 112), .int (nI 97), .int (nI 105), .int (nI 100), .int (nI 0), .int (nI 0), .int (nI 0)] sl (RH I w A N) = some ([.long (lN (p27 [112, 97, 105, 100]))], sl, RH I w A N) := by
  rw [e175, m175_0]
  simp (disch := omega) only [rt_c, b_some, List.cons_append, List.nil_append, Bool.cond_not, cond_true, cond_false, Bool.cond_decide, nI_add, nI_clamp, xin_n, dle_e, dlt_e, deq_e, xb_0, xb_1, decide_true, decide_false, Bool.not_true, Bool.not_false, Bool.and_true, Bool.true_and, Bool.and_false, Bool.false_and, Bool.true_or, Bool.false_or, Bool.or_true, Bool.or_false, if_true, if_false, up1_s, n_31, Int32.lt_irrefl, Nat.reduceLeDiff, t175_122]
  exact congrArg (fun v => some ([Value.long v], sl, RH I w A N)) (by decide +kernel)
theorem c175_of : C d 175 [.int (nI 111), .int (nI 102), .int (nI 0), .int (nI 0), .int (nI 0), .int (nI 0), .int (nI 0)] sl (RH I w A N) = some ([.long (lN (p27 [111, 102]))], sl, RH I w A N) := by
  rw [e175, m175_0]
  simp (disch := omega) only [rt_c, b_some, List.cons_append, List.nil_append, Bool.cond_not, cond_true, cond_false, Bool.cond_decide, nI_add, nI_clamp, xin_n, dle_e, dlt_e, deq_e, xb_0, xb_1, decide_true, decide_false, Bool.not_true, Bool.not_false, Bool.and_true, Bool.true_and, Bool.and_false, Bool.false_and, Bool.true_or, Bool.false_or, Bool.or_true, Bool.or_false, if_true, if_false, up1_s, n_31, Int32.lt_irrefl, Nat.reduceLeDiff, t175_122]
  exact congrArg (fun v => some ([Value.long v], sl, RH I w A N)) (by decide +kernel)
end RFV
