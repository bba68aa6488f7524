/-! THE JDK: an ordinal, a text's length, a text's char -/
abbrev jy_ord : MethodName := ⟨"java/lang/Enum", "ordinal", "()I"⟩
abbrev jw_ord : List Cond := Cond.code jy_ord prog_19_method_2_code 1 (some .int) :: TG
theorem jc_ord : Cond.code jy_ord prog_19_method_2_code 1 (some .int) ∈ TG := TG_at 1203 (by decide +kernel) (by decide +kernel)
theorem jg_ord : GoodIn TG jw_ord := fun w hw => by
  rcases List.mem_cons.mp hw with q | q
  · rw [q]; exact TG_good _ jc_ord
  · exact TG_good w q
abbrev jy_cod : MethodName := ⟨"java/lang/String", "coder", "()B"⟩
abbrev jw_cod : List Cond := Cond.code jy_cod prog_24_method_152_code 1 (some .byte) :: TG
theorem jc_cod : Cond.code jy_cod prog_24_method_152_code 1 (some .byte) ∈ TG := TG_at 950 (by decide +kernel) (by decide +kernel)
theorem jg_cod : GoodIn TG jw_cod := fun w hw => by
  rcases List.mem_cons.mp hw with q | q
  · rw [q]; exact TG_good _ jc_cod
  · exact TG_good w q
abbrev jy_lat : MethodName := ⟨"java/lang/String", "isLatin1", "()Z"⟩
abbrev jw_lat : List Cond := Cond.code jy_lat prog_24_method_154_code 1 (some .boolean) :: TG
theorem jc_lat : Cond.code jy_lat prog_24_method_154_code 1 (some .boolean) ∈ TG := TG_at 960 (by decide +kernel) (by decide +kernel)
theorem jg_lat : GoodIn TG jw_lat := fun w hw => by
  rcases List.mem_cons.mp hw with q | q
  · rw [q]; exact TG_good _ jc_lat
  · exact TG_good w q
abbrev jy_len : MethodName := ⟨"java/lang/String", "length", "()I"⟩
abbrev jw_len : List Cond := Cond.code jy_len prog_24_method_54_code 1 (some .int) :: TG
theorem jc_len : Cond.code jy_len prog_24_method_54_code 1 (some .int) ∈ TG := TG_at 946 (by decide +kernel) (by decide +kernel)
theorem jg_len : GoodIn TG jw_len := fun w hw => by
  rcases List.mem_cons.mp hw with q | q
  · rw [q]; exact TG_good _ jc_len
  · exact TG_good w q
abbrev jy_cha : MethodName := ⟨"java/lang/String", "charAt", "(I)C"⟩
abbrev jw_cha : List Cond := Cond.code jy_cha prog_24_method_56_code 2 (some .char) :: TG
theorem jc_cha : Cond.code jy_cha prog_24_method_56_code 2 (some .char) ∈ TG := TG_at 956 (by decide +kernel) (by decide +kernel)
theorem jg_cha : GoodIn TG jw_cha := fun w hw => by
  rcases List.mem_cons.mp hw with q | q
  · rw [q]; exact TG_good _ jc_cha
  · exact TG_good w q
abbrev jy_lch : MethodName := ⟨"java/lang/StringLatin1", "charAt", "([BI)C"⟩
abbrev jw_lch : List Cond := Cond.code jy_lch prog_25_method_2_code 2 (some .char) :: TG
theorem jc_lch : Cond.code jy_lch prog_25_method_2_code 2 (some .char) ∈ TG := TG_at 963 (by decide +kernel) (by decide +kernel)
theorem jg_lch : GoodIn TG jw_lch := fun w hw => by
  rcases List.mem_cons.mp hw with q | q
  · rw [q]; exact TG_good _ jc_lch
  · exact TG_good w q
abbrev jy_chk : MethodName := ⟨"java/lang/String", "checkIndex", "(II)V"⟩
abbrev jw_chk : List Cond := Cond.code jy_chk prog_24_method_155_code 2 none :: TG
theorem jc_chk : Cond.code jy_chk prog_24_method_155_code 2 none ∈ TG := TG_at 966 (by decide +kernel) (by decide +kernel)
theorem jg_chk : GoodIn TG jw_chk := fun w hw => by
  rcases List.mem_cons.mp hw with q | q
  · rw [q]; exact TG_good _ jc_chk
  · exact TG_good w q
abbrev jy_pre : MethodName := ⟨"jdk/internal/util/Preconditions", "checkIndex", "(IILjava/util/function/BiFunction;)I"⟩
abbrev jw_pre : List Cond := Cond.code jy_pre prog_32_method_11_code 3 (some .int) :: TG
theorem jc_pre : Cond.code jy_pre prog_32_method_11_code 3 (some .int) ∈ TG := TG_at 971 (by decide +kernel) (by decide +kernel)
theorem jg_pre : GoodIn TG jw_pre := fun w hw => by
  rcases List.mem_cons.mp hw with q | q
  · rw [q]; exact TG_good _ jc_pre
  · exact TG_good w q
def JP (ad adV : Nat → Nat) (as : List Value) : Array Value → State → Prop := va_Pc as (fun U => x_con ad adV (fun _ => False) U U.heap)
theorem JP_blind {ad adV : Nat → Nat} {as : List Value} : FrameBlind (JP ad adV as) := by
  intro a U g mk hq
  obtain ⟨q0, q1⟩ := hq
  exact ⟨q0, x_con_kept (x_con_moved (U := U.calling g mk a) (State.WarmedH.refl U) q1) (fun a _ _ => rfl)⟩
abbrev jr (f n : Nat) : Room := { frames := f, cells := 0, slots := 0, locals := n }
theorem va_Run_C {p : Program} {l : Launch} {e : Env} {R9 : Room} {s : State} {m : MethodId} {args : Array Value} {below : List Frame} {meth : Method} {c : Code} {H : Heap} {locs : List Loc} {cells slots mc ms : Nat} {g : JFrame} {rest : List Value} {Qa : State → Outcome → State → Prop} {free : Addr → Prop} (h : va_Run p l e R9 s m args below meth c H locs cells slots mc ms g rest Qa free) : CallRun p l e R9 s m args below meth c H locs cells slots mc ms g rest Qa free := fun T hT X => by
  obtain ⟨v, st₀, t, T', L, h0, X', hL, e1, e2, hq, st⟩ := h T hT X
  exact ⟨v, st₀, t, T', L, h0, X', hL, e1, hq, st⟩
theorem jd_ints : ∀ w : Fin 21, ([0, 1, 2, 3, 4, 5, 6, 7, 8, 9, 10, 11, 12, 13, 14, 15, 16, 17, 18, 19, 20] : List Int32).getD w.val 0 = nI w.val := by decide +kernel
theorem jd_len : ∀ i : Fin 4, (([6, 1, 4, 5] : List Nat).getD i.val 0) = (x_str i.val).length ∧ ([x_str 0, x_str 1, x_str 2, x_str 3] : List (List Int32)).getD i.val [] = x_str i.val := by decide +kernel
theorem jd_byt : ∀ i : Fin 4, ∀ b ∈ x_str i.val, ((b &&& 255).toUInt32 % 65536).toInt32 = b ∧ narrow .char (.int b) = .int b := by decide +kernel
section JDK
variable (l : Launch) (ad adV : Nat → Nat)
theorem j_ord {w : Nat} (hw : w < 21) : Met l jy_ord jw_ord (jr 0 0) (JP ad adV [.ref (ad (1000000 + w))]) (QcRead (nI w)) 0 0 (fun _ => False) := by
  refine Met.ofW (cc := prog_19_method_2_code) (maxL := 1) (ret := (some .int)) (by decide) rfl ?_
  intro p e s m args below meth c s₁ B hml hv
  obtain ⟨rfl, hcon⟩ := hv
  have hx := B.exec
  have hb := B.bytes
  have hr := B.returns
  have hts0 := atoms_spec (ws := jw_ord) B.pre
  have hts : ∀ q9 ∈ TG, q9.before ([.ref (ad (1000000 + w))] : List Value).toArray s = true := fun q9 hq9 => hts0 q9 (List.mem_cons_of_mem _ hq9)
  have hown : s.vm.findClass "java/lang/Enum" = some m.cls := findClass_of_methodNamed B.named
  have hlocks := B.notSynchronized
  have hS : va_S (fun _ => False) s.heap s.heap [] := va_S.rf
  have hl := lv_entry ([.ref (ad (1000000 + w))]) (n := 1) (Nat.le_of_ble_eq_true rfl)
  rw [lg_entry_eq]
  generalize (lg_sl ([.ref (ad (1000000 + w))]) ++ List.replicate (1 - (lg_sl ([.ref (ad (1000000 + w))])).length) Slot.unset).toArray = ls at hl ⊢
  have hl : lv_has ls 1 [(0, .ref (ad (1000000 + w)))] := hl
  refine lv_aload_n hx hb (show decode prog_19_method_2_code 0 = .ok (.aload_n 0, 1) by decide +kernel) rfl (lv_at hl 0 rfl) ?_
  refine va_getE (E := "DebtTable$Word") (d := "LDebtTable$Word;") (nm := x_nms) (F := x_Fo) (ad := fun i => ad (1000000 + i)) (i := w) (q := ("java/lang/Enum", "ordinal", "I", [0, 1, 2, 3, 4, 5, 6, 7, 8, 9, 10, 11, 12, 13, 14, 15, 16, 17, 18, 19, 20])) hx hb hcon.1 (by simpa [x_nms] using hw) hS hown List.mem_cons_self (hts _ (TG_at 1965 (by decide +kernel) (by decide +kernel) : Cond.fieldLink "java/lang/Enum" 7 "java/lang/Enum" "ordinal" "I" ∈ TG)) (fun _ h => h) (show decode prog_19_method_2_code 1 = .ok (.getfield 7, 3) by decide +kernel) ?_
  have e9 := jd_ints ⟨w, hw⟩
  dsimp only at e9 ⊢
  rw [e9]
  exact W.iret (v := nI w) hx hb hr (fun t ht hW => ⟨rfl, ht⟩) (fun q h => nomatch h) (show decode prog_19_method_2_code 4 = .ok (.ireturn, 1) by decide +kernel)
theorem j_cod {i : Nat} (hi : i < 4) : Met l jy_cod jw_cod (jr 0 0) (JP ad adV [.ref (ad (1000200 + i))]) (QcRead 0) 0 0 (fun _ => False) := by
  refine Met.ofW (cc := prog_24_method_152_code) (maxL := 1) (ret := (some .byte)) (by decide) rfl ?_
  intro p e s m args below meth c s₁ B hml hv
  obtain ⟨rfl, hcon⟩ := hv
  have hx := B.exec
  have hb := B.bytes
  have hr := B.returns
  have hts0 := atoms_spec (ws := jw_cod) B.pre
  have hts : ∀ q9 ∈ TG, q9.before ([.ref (ad (1000200 + i))] : List Value).toArray s = true := fun q9 hq9 => hts0 q9 (List.mem_cons_of_mem _ hq9)
  have hown : s.vm.findClass "java/lang/String" = some m.cls := findClass_of_methodNamed B.named
  have hlocks := B.notSynchronized
  have hS : va_S (fun _ => False) s.heap s.heap [] := va_S.rf
  have hl := lv_entry ([.ref (ad (1000200 + i))]) (n := 1) (Nat.le_of_ble_eq_true rfl)
  rw [lg_entry_eq]
  generalize (lg_sl ([.ref (ad (1000200 + i))]) ++ List.replicate (1 - (lg_sl ([.ref (ad (1000200 + i))])).length) Slot.unset).toArray = ls at hl ⊢
  have hl : lv_has ls 1 [(0, .ref (ad (1000200 + i)))] := hl
  refine va_gets (C := "java/lang/String") (n := "COMPACT_STRINGS") (d := "Z") hx hb hcon.2.2.2.2.2.2.2.2.1 hS hown (hts _ (TG_at 951 (by decide +kernel) (by decide +kernel) : Cond.fieldLink "java/lang/String" 38 "java/lang/String" "COMPACT_STRINGS" "Z" ∈ TG)) (fun _ h => h) (show decode prog_24_method_152_code 0 = .ok (.getstatic 38, 3) by decide +kernel) ?_
  refine lv_if_eq (tgt := 13) hx hb (show decode prog_24_method_152_code 3 = .ok (.ifCond .eq 10, 3) by decide +kernel) (by decide) (fun h => absurd h (by decide)) (fun _ => ?_)
  refine lv_aload_n hx hb (show decode prog_24_method_152_code 6 = .ok (.aload_n 0, 1) by decide +kernel) rfl (lv_at hl 0 rfl) ?_
  refine vk_getf hx hb (hcon.2.2.2.2.2.2.1.1 i hi).2.1 hS hown (hts _ (TG_at 1964 (by decide +kernel) (by decide +kernel) : Cond.fieldLink "java/lang/String" 15 "java/lang/String" "coder" "B" ∈ TG)) (fun _ h => h) (show decode prog_24_method_152_code 7 = .ok (.getfield 15, 3) by decide +kernel) ?_
  refine lv_goto (tgt := 14) hx hb (show decode prog_24_method_152_code 10 = .ok (.goto 4, 3) by decide +kernel) (by decide) ?_
  exact W.zret (v := 0) (ty := .byte) hx hb hr rfl (fun t ht hW => ⟨rfl, ht⟩) (fun q h => nomatch h) (show decode prog_24_method_152_code 14 = .ok (.ireturn, 1) by decide +kernel)
theorem j_lat {i : Nat} (hi : i < 4) : Met l jy_lat jw_lat (jr 0 0) (JP ad adV [.ref (ad (1000200 + i))]) (QcRead 1) 0 0 (fun _ => False) := by
  refine Met.ofW (cc := prog_24_method_154_code) (maxL := 1) (ret := (some .boolean)) (by decide) rfl ?_
  intro p e s m args below meth c s₁ B hml hv
  obtain ⟨rfl, hcon⟩ := hv
  have hx := B.exec
  have hb := B.bytes
  have hr := B.returns
  have hts0 := atoms_spec (ws := jw_lat) B.pre
  have hts : ∀ q9 ∈ TG, q9.before ([.ref (ad (1000200 + i))] : List Value).toArray s = true := fun q9 hq9 => hts0 q9 (List.mem_cons_of_mem _ hq9)
  have hown : s.vm.findClass "java/lang/String" = some m.cls := findClass_of_methodNamed B.named
  have hlocks := B.notSynchronized
  have hS : va_S (fun _ => False) s.heap s.heap [] := va_S.rf
  have hl := lv_entry ([.ref (ad (1000200 + i))]) (n := 1) (Nat.le_of_ble_eq_true rfl)
  rw [lg_entry_eq]
  generalize (lg_sl ([.ref (ad (1000200 + i))]) ++ List.replicate (1 - (lg_sl ([.ref (ad (1000200 + i))])).length) Slot.unset).toArray = ls at hl ⊢
  have hl : lv_has ls 1 [(0, .ref (ad (1000200 + i)))] := hl
  refine va_gets (C := "java/lang/String") (n := "COMPACT_STRINGS") (d := "Z") hx hb hcon.2.2.2.2.2.2.2.2.1 hS hown (hts _ (TG_at 951 (by decide +kernel) (by decide +kernel) : Cond.fieldLink "java/lang/String" 38 "java/lang/String" "COMPACT_STRINGS" "Z" ∈ TG)) (fun _ h => h) (show decode prog_24_method_154_code 0 = .ok (.getstatic 38, 3) by decide +kernel) ?_
  refine lv_if_eq (tgt := 17) hx hb (show decode prog_24_method_154_code 3 = .ok (.ifCond .eq 14, 3) by decide +kernel) (by decide) (fun h => absurd h (by decide)) (fun _ => ?_)
  refine lv_aload_n hx hb (show decode prog_24_method_154_code 6 = .ok (.aload_n 0, 1) by decide +kernel) rfl (lv_at hl 0 rfl) ?_
  refine vk_getf hx hb (hcon.2.2.2.2.2.2.1.1 i hi).2.1 hS hown (hts _ (TG_at 1964 (by decide +kernel) (by decide +kernel) : Cond.fieldLink "java/lang/String" 15 "java/lang/String" "coder" "B" ∈ TG)) (fun _ h => h) (show decode prog_24_method_154_code 7 = .ok (.getfield 15, 3) by decide +kernel) ?_
  refine lv_if_ne (tgt := 17) hx hb (show decode prog_24_method_154_code 10 = .ok (.ifCond .ne 7, 3) by decide +kernel) (by decide) (fun h => absurd rfl h) (fun _ => ?_)
  refine lv_iconst (v := 1) hx hb (show decode prog_24_method_154_code 13 = .ok (.iconst 1, 1) by decide +kernel) (by decide) ?_
  refine lv_goto (tgt := 18) hx hb (show decode prog_24_method_154_code 14 = .ok (.goto 4, 3) by decide +kernel) (by decide) ?_
  exact W.zret (v := 1) (ty := .boolean) hx hb hr rfl (fun t ht hW => ⟨rfl, ht⟩) (fun q h => nomatch h) (show decode prog_24_method_154_code 18 = .ok (.ireturn, 1) by decide +kernel)
theorem j_len {i : Nat} (hi : i < 4) : Met l jy_len jw_len (jr 1 20) (JP ad adV [.ref (ad (1000200 + i))]) (QcRead (Int32.ofNat (x_str i).length)) 0 0 (fun _ => False) := by
  refine Met.ofW (cc := prog_24_method_54_code) (maxL := 1) (ret := (some .int)) (by decide) rfl ?_
  intro p e s m args below meth c s₁ B hml hv
  obtain ⟨rfl, hcon⟩ := hv
  have hx := B.exec
  have hb := B.bytes
  have hr := B.returns
  have hts0 := atoms_spec (ws := jw_len) B.pre
  have hts : ∀ q9 ∈ TG, q9.before ([.ref (ad (1000200 + i))] : List Value).toArray s = true := fun q9 hq9 => hts0 q9 (List.mem_cons_of_mem _ hq9)
  have hown : s.vm.findClass "java/lang/String" = some m.cls := findClass_of_methodNamed B.named
  have hlocks := B.notSynchronized
  have hS : va_S (fun _ => False) s.heap s.heap [] := va_S.rf
  have hl := lv_entry ([.ref (ad (1000200 + i))]) (n := 1) (Nat.le_of_ble_eq_true rfl)
  rw [lg_entry_eq]
  generalize (lg_sl ([.ref (ad (1000200 + i))]) ++ List.replicate (1 - (lg_sl ([.ref (ad (1000200 + i))])).length) Slot.unset).toArray = ls at hl ⊢
  have hl : lv_has ls 1 [(0, .ref (ad (1000200 + i)))] := hl
  refine lv_aload_n hx hb (show decode prog_24_method_54_code 0 = .ok (.aload_n 0, 1) by decide +kernel) rfl (lv_at hl 0 rfl) ?_
  refine vk_getf hx hb (hcon.2.2.2.2.2.2.1.1 i hi).2.2.1 hS hown (hts _ (TG_at 1963 (by decide +kernel) (by decide +kernel) : Cond.fieldLink "java/lang/String" 9 "java/lang/String" "value" "[B" ∈ TG)) (fun _ h => h) (show decode prog_24_method_54_code 1 = .ok (.getfield 9, 3) by decide +kernel) ?_
  refine va_tlen hx hb (hcon.2.2.2.2.2.2.1.1 i hi).2.2.2 hS (v := Int32.ofNat (x_str i).length) (by rw [(jd_len ⟨i, hi⟩).1]) (show decode prog_24_method_54_code 4 = .ok (.arraylength, 1) by decide +kernel) ?_
  refine lv_aload_n hx hb (show decode prog_24_method_54_code 5 = .ok (.aload_n 0, 1) by decide +kernel) rfl (lv_at hl 0 rfl) ?_
  refine W.callR (W.runV (C := "java/lang/String") (As := []) (rest := [.int (Int32.ofNat (x_str i).length)]) (Ts := TG) ⟨hx, hb, hml, hown, hts⟩ (j_cod l ad adV hi) ⟨callB_of 0 hts jg_cod rfl rfl rfl (hts _ (TG_at 130 (by decide +kernel) (by decide +kernel))) (hts _ (TG_at 947 (by decide +kernel) (by decide +kernel))) ⟨by decide, by decide, by decide +kernel⟩ ⟨Nat.le_of_ble_eq_true rfl, Nat.le_of_ble_eq_true rfl⟩, hts _ (TG_at 948 (by decide +kernel) (by decide +kernel)), hts _ (TG_at 949 (by decide +kernel) (by decide +kernel))⟩ ⟨JP_blind, vk_recv hcon.2.2.2.2.2.2.1 hi hS, fun U hU hW => ⟨rfl, x_con_kept (x_con_moved hW hcon) (fun a _ _ => by rw [hU])⟩⟩ rfl rfl hl.1 rfl (lv_room (Nat.le_of_ble_eq_true rfl)) (show decode prog_24_method_54_code 6 = .ok (.invokevirtual 335, 3) by decide +kernel) ⟨Nat.le_of_ble_eq_true rfl, Nat.le_of_ble_eq_true rfl⟩) ?_
  refine lv_ishr hx hb (show decode prog_24_method_54_code 9 = .ok (.ishr, 1) by decide +kernel) ?_
  have e9 : ∀ i : Fin 4, Int32.ofNat (x_str i.val).length >>> ((0 : Int32) &&& 31) = Int32.ofNat (x_str i.val).length := by decide +kernel
  rw [e9 ⟨i, hi⟩]
  exact W.iret (v := Int32.ofNat (x_str i).length) hx hb hr (fun t ht hW => ⟨rfl, ht⟩) (fun q h => nomatch h) (show decode prog_24_method_54_code 10 = .ok (.ireturn, 1) by decide +kernel)
theorem j_pre0 {k n : Nat} (hk : k < n) (hn : n < 2 ^ 31) : Met l jy_pre jw_pre (jr 0 0) (JP ad adV [.int (nI k), .int (nI n), .null]) (QcRead (nI k)) 0 0 (fun _ => False) := by
  refine Met.ofW (cc := prog_32_method_11_code) (maxL := 3) (ret := (some .int)) (by decide) rfl ?_
  intro p e s m args below meth c s₁ B hml hv
  obtain ⟨rfl, hcon⟩ := hv
  have hx := B.exec
  have hb := B.bytes
  have hr := B.returns
  have hts0 := atoms_spec (ws := jw_pre) B.pre
  have hts : ∀ q9 ∈ TG, q9.before ([.int (nI k), .int (nI n), .null] : List Value).toArray s = true := fun q9 hq9 => hts0 q9 (List.mem_cons_of_mem _ hq9)
  have hown : s.vm.findClass "jdk/internal/util/Preconditions" = some m.cls := findClass_of_methodNamed B.named
  have hlocks := B.notSynchronized
  have hS : va_S (fun _ => False) s.heap s.heap [] := va_S.rf
  have hl := lv_entry ([.int (nI k), .int (nI n), .null]) (n := 3) (Nat.le_of_ble_eq_true rfl)
  rw [lg_entry_eq]
  generalize (lg_sl ([.int (nI k), .int (nI n), .null]) ++ List.replicate (3 - (lg_sl ([.int (nI k), .int (nI n), .null])).length) Slot.unset).toArray = ls at hl ⊢
  have hl : lv_has ls 3 [(0, .int (nI k)), (1, .int (nI n)), (2, .null)] := hl
  refine lv_iload_n hx hb (show decode prog_32_method_11_code 0 = .ok (.iload_n 0, 1) by decide +kernel) rfl (lv_at hl 0 rfl) ?_
  refine lv_if_lt (tgt := 9) hx hb (show decode prog_32_method_11_code 1 = .ok (.ifCond .lt 8, 3) by decide +kernel) (by decide) (fun h => absurd h (nI_pos (by omega))) (fun _ => ?_)
  refine lv_iload_n hx hb (show decode prog_32_method_11_code 4 = .ok (.iload_n 0, 1) by decide +kernel) rfl (lv_at hl 0 rfl) ?_
  refine lv_iload_n hx hb (show decode prog_32_method_11_code 5 = .ok (.iload_n 1, 1) by decide +kernel) rfl (lv_at hl 1 rfl) ?_
  refine lv_icmp_lt (tgt := 16) hx hb (show decode prog_32_method_11_code 6 = .ok (.if_icmp .lt 10, 3) by decide +kernel) (by rfl) (fun _ => ?_) (fun h => absurd (nI_lt hk hn) h)
  refine lv_iload_n hx hb (show decode prog_32_method_11_code 16 = .ok (.iload_n 0, 1) by decide +kernel) rfl (lv_at hl 0 rfl) ?_
  exact W.iret (v := nI k) hx hb hr (fun t ht hW => ⟨rfl, ht⟩) (fun q h => nomatch h) (show decode prog_32_method_11_code 17 = .ok (.ireturn, 1) by decide +kernel)
theorem j_pre1 {k n : Nat} (hk : k < n) (hn : n < 2 ^ 31) (q : Nat) : Met l jy_pre jw_pre (jr 0 0) (JP ad adV [.int (nI k), .int (nI n), .ref q]) (QcRead (nI k)) 0 0 (fun _ => False) := by
  refine Met.ofW (cc := prog_32_method_11_code) (maxL := 3) (ret := (some .int)) (by decide) rfl ?_
  intro p e s m args below meth c s₁ B hml hv
  obtain ⟨rfl, hcon⟩ := hv
  have hx := B.exec
  have hb := B.bytes
  have hr := B.returns
  have hts0 := atoms_spec (ws := jw_pre) B.pre
  have hts : ∀ q9 ∈ TG, q9.before ([.int (nI k), .int (nI n), .ref q] : List Value).toArray s = true := fun q9 hq9 => hts0 q9 (List.mem_cons_of_mem _ hq9)
  have hown : s.vm.findClass "jdk/internal/util/Preconditions" = some m.cls := findClass_of_methodNamed B.named
  have hlocks := B.notSynchronized
  have hS : va_S (fun _ => False) s.heap s.heap [] := va_S.rf
  have hl := lv_entry ([.int (nI k), .int (nI n), .ref q]) (n := 3) (Nat.le_of_ble_eq_true rfl)
  rw [lg_entry_eq]
  generalize (lg_sl ([.int (nI k), .int (nI n), .ref q]) ++ List.replicate (3 - (lg_sl ([.int (nI k), .int (nI n), .ref q])).length) Slot.unset).toArray = ls at hl ⊢
  have hl : lv_has ls 3 [(0, .int (nI k)), (1, .int (nI n)), (2, .ref q)] := hl
  refine lv_iload_n hx hb (show decode prog_32_method_11_code 0 = .ok (.iload_n 0, 1) by decide +kernel) rfl (lv_at hl 0 rfl) ?_
  refine lv_if_lt (tgt := 9) hx hb (show decode prog_32_method_11_code 1 = .ok (.ifCond .lt 8, 3) by decide +kernel) (by decide) (fun h => absurd h (nI_pos (by omega))) (fun _ => ?_)
  refine lv_iload_n hx hb (show decode prog_32_method_11_code 4 = .ok (.iload_n 0, 1) by decide +kernel) rfl (lv_at hl 0 rfl) ?_
  refine lv_iload_n hx hb (show decode prog_32_method_11_code 5 = .ok (.iload_n 1, 1) by decide +kernel) rfl (lv_at hl 1 rfl) ?_
  refine lv_icmp_lt (tgt := 16) hx hb (show decode prog_32_method_11_code 6 = .ok (.if_icmp .lt 10, 3) by decide +kernel) (by rfl) (fun _ => ?_) (fun h => absurd (nI_lt hk hn) h)
  refine lv_iload_n hx hb (show decode prog_32_method_11_code 16 = .ok (.iload_n 0, 1) by decide +kernel) rfl (lv_at hl 0 rfl) ?_
  exact W.iret (v := nI k) hx hb hr (fun t ht hW => ⟨rfl, ht⟩) (fun q h => nomatch h) (show decode prog_32_method_11_code 17 = .ok (.ireturn, 1) by decide +kernel)
theorem j_chk {k n : Nat} (hk : k < n) (hn : n < 2 ^ 31) : Met l jy_chk jw_chk (jr 1 22) (JP ad adV [.int (nI k), .int (nI n)]) (va_Sv (fun _ => True)) 0 0 (fun _ => False) := by
  refine Met.ofW (cc := prog_24_method_155_code) (maxL := 2) (ret := none) (by decide) rfl ?_
  intro p e s m args below meth c s₁ B hml hv
  obtain ⟨rfl, hcon⟩ := hv
  have hx := B.exec
  have hb := B.bytes
  have hr := B.returns
  have hts0 := atoms_spec (ws := jw_chk) B.pre
  have hts : ∀ q9 ∈ TG, q9.before ([.int (nI k), .int (nI n)] : List Value).toArray s = true := fun q9 hq9 => hts0 q9 (List.mem_cons_of_mem _ hq9)
  have hown : s.vm.findClass "java/lang/String" = some m.cls := findClass_of_methodNamed B.named
  have hlocks := B.notSynchronized
  have hS : va_S (fun _ => False) s.heap s.heap [] := va_S.rf
  have hl := lv_entry ([.int (nI k), .int (nI n)]) (n := 2) (Nat.le_of_ble_eq_true rfl)
  rw [lg_entry_eq]
  generalize (lg_sl ([.int (nI k), .int (nI n)]) ++ List.replicate (2 - (lg_sl ([.int (nI k), .int (nI n)])).length) Slot.unset).toArray = ls at hl ⊢
  have hl : lv_has ls 2 [(0, .int (nI k)), (1, .int (nI n))] := hl
  have key : ∀ v : Value, Met l jy_pre jw_pre (jr 0 0) (JP ad adV [.int (nI k), .int (nI n), v]) (QcRead (nI k)) 0 0 (fun _ => False) → va_Z "jdk/internal/util/Preconditions" "SIOOBE_FORMATTER" "Ljava/util/function/BiFunction;" v (fun _ => False) s s.heap → W p l e (headSpec jw_chk (jr 1 22)).room s m ([.int (nI k), .int (nI n)] : List Value).toArray below meth c s.heap [] 0 0 (MQ below (va_Sv (fun _ => True)) ([.int (nI k), .int (nI n)] : List Value).toArray s 0 0 (fun _ => False)) (F0 m 0 ls []) := by
    intro v hM hZ
    refine lv_iload_n hx hb (show decode prog_24_method_155_code 0 = .ok (.iload_n 0, 1) by decide +kernel) rfl (lv_at hl 0 rfl) ?_
    refine lv_iload_n hx hb (show decode prog_24_method_155_code 1 = .ok (.iload_n 1, 1) by decide +kernel) rfl (lv_at hl 1 rfl) ?_
    refine va_gets (C := "jdk/internal/util/Preconditions") (n := "SIOOBE_FORMATTER") (d := "Ljava/util/function/BiFunction;") hx hb hZ hS hown (hts _ (TG_at 967 (by decide +kernel) (by decide +kernel) : Cond.fieldLink "java/lang/String" 1053 "jdk/internal/util/Preconditions" "SIOOBE_FORMATTER" "Ljava/util/function/BiFunction;" ∈ TG)) (fun _ h => h) (show decode prog_24_method_155_code 2 = .ok (.getstatic 1053, 3) by decide +kernel) ?_
    refine W.callR (W.runS (As := [.int (nI k), .int (nI n), v]) (rest := []) (Ts := TG) ⟨hx, hb, hml, hown, hts⟩ (hM) ⟨callB_of 3 hts jg_pre rfl rfl rfl (hts _ (TG_at 132 (by decide +kernel) (by decide +kernel))) (hts _ (TG_at 969 (by decide +kernel) (by decide +kernel))) ⟨by decide, by decide, by decide +kernel⟩ ⟨Nat.le_of_ble_eq_true rfl, Nat.le_of_ble_eq_true rfl⟩, hts _ (TG_at 970 (by decide +kernel) (by decide +kernel))⟩ ⟨JP_blind, fun U hU hW => ⟨rfl, x_con_kept (x_con_moved hW hcon) (fun a _ _ => by rw [hU])⟩⟩ rfl rfl hl.1 rfl (lv_room (Nat.le_of_ble_eq_true rfl)) (show decode prog_24_method_155_code 5 = .ok (.invokestatic 1059, 3) by decide +kernel) ⟨Nat.le_of_ble_eq_true rfl, Nat.le_of_ble_eq_true rfl⟩) ?_
    refine lv_pop hx hb (show decode prog_24_method_155_code 8 = .ok (.pop, 1) by decide +kernel) rfl ?_
    exact W.vret hx hb hr (fun t ht hW => ⟨rfl, trivial, ht⟩) (fun q h => nomatch h) (show decode prog_24_method_155_code 9 = .ok (.return_, 1) by decide +kernel)
  rcases hcon.2.2.2.2.2.2.2.2.2 with h | ⟨t, h⟩
  · exact key .null (j_pre0 l ad adV hk hn) h
  · exact key (.ref t) (j_pre1 l ad adV hk hn t) h
theorem j_lch {i k : Nat} (hi : i < 4) (hk : k < (x_str i).length) : Met l jy_lch jw_lch (jr 2 43) (JP ad adV [.ref (adV i), .int (nI k)]) (QcRead ((x_str i).getD k 0)) 0 0 (fun _ => False) := by
  refine Met.ofW (cc := prog_25_method_2_code) (maxL := 2) (ret := (some .char)) (by decide) rfl ?_
  intro p e s m args below meth c s₁ B hml hv
  obtain ⟨rfl, hcon⟩ := hv
  have hx := B.exec
  have hb := B.bytes
  have hr := B.returns
  have hts0 := atoms_spec (ws := jw_lch) B.pre
  have hts : ∀ q9 ∈ TG, q9.before ([.ref (adV i), .int (nI k)] : List Value).toArray s = true := fun q9 hq9 => hts0 q9 (List.mem_cons_of_mem _ hq9)
  have hown : s.vm.findClass "java/lang/StringLatin1" = some m.cls := findClass_of_methodNamed B.named
  have hlocks := B.notSynchronized
  have hS : va_S (fun _ => False) s.heap s.heap [] := va_S.rf
  have hl := lv_entry ([.ref (adV i), .int (nI k)]) (n := 2) (Nat.le_of_ble_eq_true rfl)
  rw [lg_entry_eq]
  generalize (lg_sl ([.ref (adV i), .int (nI k)]) ++ List.replicate (2 - (lg_sl ([.ref (adV i), .int (nI k)])).length) Slot.unset).toArray = ls at hl ⊢
  have hl : lv_has ls 2 [(0, .ref (adV i)), (1, .int (nI k))] := hl
  have hlen := (jd_len ⟨i, hi⟩).1
  have hbyt := (jd_len ⟨i, hi⟩).2
  dsimp only at hlen hbyt
  have h31 : ∀ i : Fin 4, (x_str i.val).length < 2 ^ 31 := by decide +kernel
  have hn := h31 ⟨i, hi⟩
  dsimp only at hn
  have hT := (hcon.2.2.2.2.2.2.1.1 i hi).2.2.2
  refine lv_iload_n hx hb (show decode prog_25_method_2_code 0 = .ok (.iload_n 1, 1) by decide +kernel) rfl (lv_at hl 1 rfl) ?_
  refine lv_aload_n hx hb (show decode prog_25_method_2_code 1 = .ok (.aload_n 0, 1) by decide +kernel) rfl (lv_at hl 0 rfl) ?_
  refine va_tlen hx hb hT hS (v := nI (x_str i).length) (by rw [hlen]; rfl) (show decode prog_25_method_2_code 2 = .ok (.arraylength, 1) by decide +kernel) ?_
  refine va_csv (W.runS (As := [.int (nI k), .int (nI (x_str i).length)]) (rest := []) (Ts := TG) ⟨hx, hb, hml, hown, hts⟩ (j_chk l ad adV hk hn) ⟨callB_of 2 hts jg_chk rfl rfl rfl (hts _ (TG_at 130 (by decide +kernel) (by decide +kernel))) (hts _ (TG_at 964 (by decide +kernel) (by decide +kernel))) ⟨by decide, by decide, by decide +kernel⟩ ⟨Nat.le_of_ble_eq_true rfl, Nat.le_of_ble_eq_true rfl⟩, hts _ (TG_at 965 (by decide +kernel) (by decide +kernel))⟩ ⟨JP_blind, fun U hU hW => ⟨rfl, x_con_kept (x_con_moved hW hcon) (fun a _ _ => by rw [hU])⟩⟩ rfl rfl hl.1 rfl (lv_room (Nat.le_of_ble_eq_true rfl)) (show decode prog_25_method_2_code 3 = .ok (.invokestatic 9, 3) by decide +kernel) ⟨Nat.le_of_ble_eq_true rfl, Nat.le_of_ble_eq_true rfl⟩) (fun _ => ?_)
  refine lv_aload_n hx hb (show decode prog_25_method_2_code 6 = .ok (.aload_n 0, 1) by decide +kernel) rfl (lv_at hl 0 rfl) ?_
  refine lv_iload_n hx hb (show decode prog_25_method_2_code 7 = .ok (.iload_n 1, 1) by decide +kernel) rfl (lv_at hl 1 rfl) ?_
  refine va_tb hx hb hT hS (vp_in_nI (by rw [hlen]; exact hk) (by rw [hlen]; exact hn)) (v := .int ((x_str i).getD k 0)) (by rw [nI_clamp (by omega)]; exact congrArg (fun z : List Int32 => Value.int (z.getD k 0)) hbyt) (show decode prog_25_method_2_code 8 = .ok (.baload, 1) by decide +kernel) ?_
  refine lv_sipush (v := 255) hx hb (show decode prog_25_method_2_code 9 = .ok (.sipush 255, 3) by decide +kernel) (by decide) ?_
  refine lv_iand hx hb (show decode prog_25_method_2_code 12 = .ok (.iand, 1) by decide +kernel) ?_
  have hm : (x_str i).getD k 0 ∈ x_str i := by
    rw [List.getD_eq_getElem?_getD, List.getElem?_eq_getElem hk]
    exact List.getElem_mem hk
  have hbb := jd_byt ⟨i, hi⟩ _ hm
  refine lv_i2c (v := (x_str i).getD k 0) hx hb (show decode prog_25_method_2_code 13 = .ok (.i2c, 1) by decide +kernel) hbb.1 ?_
  exact W.zret (v := (x_str i).getD k 0) (ty := .char) hx hb hr hbb.2 (fun t ht hW => ⟨rfl, ht⟩) (fun q h => nomatch h) (show decode prog_25_method_2_code 14 = .ok (.ireturn, 1) by decide +kernel)
theorem j_cha {i k : Nat} (hi : i < 4) (hk : k < (x_str i).length) : Met l jy_cha jw_cha (jr 3 64) (JP ad adV [.ref (ad (1000200 + i)), .int (nI k)]) (QcRead ((x_str i).getD k 0)) 0 0 (fun _ => False) := by
  refine Met.ofW (cc := prog_24_method_56_code) (maxL := 2) (ret := (some .char)) (by decide) rfl ?_
  intro p e s m args below meth c s₁ B hml hv
  obtain ⟨rfl, hcon⟩ := hv
  have hx := B.exec
  have hb := B.bytes
  have hr := B.returns
  have hts0 := atoms_spec (ws := jw_cha) B.pre
  have hts : ∀ q9 ∈ TG, q9.before ([.ref (ad (1000200 + i)), .int (nI k)] : List Value).toArray s = true := fun q9 hq9 => hts0 q9 (List.mem_cons_of_mem _ hq9)
  have hown : s.vm.findClass "java/lang/String" = some m.cls := findClass_of_methodNamed B.named
  have hlocks := B.notSynchronized
  have hS : va_S (fun _ => False) s.heap s.heap [] := va_S.rf
  have hl := lv_entry ([.ref (ad (1000200 + i)), .int (nI k)]) (n := 2) (Nat.le_of_ble_eq_true rfl)
  rw [lg_entry_eq]
  generalize (lg_sl ([.ref (ad (1000200 + i)), .int (nI k)]) ++ List.replicate (2 - (lg_sl ([.ref (ad (1000200 + i)), .int (nI k)])).length) Slot.unset).toArray = ls at hl ⊢
  have hl : lv_has ls 2 [(0, .ref (ad (1000200 + i))), (1, .int (nI k))] := hl
  have hm : (x_str i).getD k 0 ∈ x_str i := by
    rw [List.getD_eq_getElem?_getD, List.getElem?_eq_getElem hk]
    exact List.getElem_mem hk
  have hbb := jd_byt ⟨i, hi⟩ _ hm
  refine lv_aload_n hx hb (show decode prog_24_method_56_code 0 = .ok (.aload_n 0, 1) by decide +kernel) rfl (lv_at hl 0 rfl) ?_
  refine W.callR (W.runV (C := "java/lang/String") (As := []) (rest := []) (Ts := TG) ⟨hx, hb, hml, hown, hts⟩ (j_lat l ad adV hi) ⟨callB_of 0 hts jg_lat rfl rfl rfl (hts _ (TG_at 130 (by decide +kernel) (by decide +kernel))) (hts _ (TG_at 957 (by decide +kernel) (by decide +kernel))) ⟨by decide, by decide, by decide +kernel⟩ ⟨Nat.le_of_ble_eq_true rfl, Nat.le_of_ble_eq_true rfl⟩, hts _ (TG_at 958 (by decide +kernel) (by decide +kernel)), hts _ (TG_at 959 (by decide +kernel) (by decide +kernel))⟩ ⟨JP_blind, vk_recv hcon.2.2.2.2.2.2.1 hi hS, fun U hU hW => ⟨rfl, x_con_kept (x_con_moved hW hcon) (fun a _ _ => by rw [hU])⟩⟩ rfl rfl hl.1 rfl (lv_room (Nat.le_of_ble_eq_true rfl)) (show decode prog_24_method_56_code 1 = .ok (.invokevirtual 492, 3) by decide +kernel) ⟨Nat.le_of_ble_eq_true rfl, Nat.le_of_ble_eq_true rfl⟩) ?_
  refine lv_if_eq (tgt := 16) hx hb (show decode prog_24_method_56_code 4 = .ok (.ifCond .eq 12, 3) by decide +kernel) (by rfl) (fun h => absurd h (by decide)) (fun _ => ?_)
  refine lv_aload_n hx hb (show decode prog_24_method_56_code 7 = .ok (.aload_n 0, 1) by decide +kernel) rfl (lv_at hl 0 rfl) ?_
  refine vk_getf hx hb (hcon.2.2.2.2.2.2.1.1 i hi).2.2.1 hS hown (hts _ (TG_at 1963 (by decide +kernel) (by decide +kernel) : Cond.fieldLink "java/lang/String" 9 "java/lang/String" "value" "[B" ∈ TG)) (fun _ h => h) (show decode prog_24_method_56_code 8 = .ok (.getfield 9, 3) by decide +kernel) ?_
  refine lv_iload_n hx hb (show decode prog_24_method_56_code 11 = .ok (.iload_n 1, 1) by decide +kernel) rfl (lv_at hl 1 rfl) ?_
  refine W.callR (W.runS (As := [.ref (adV i), .int (nI k)]) (rest := []) (Ts := TG) ⟨hx, hb, hml, hown, hts⟩ (j_lch l ad adV hi hk) ⟨callB_of 2 hts jg_lch rfl rfl rfl (hts _ (TG_at 131 (by decide +kernel) (by decide +kernel))) (hts _ (TG_at 961 (by decide +kernel) (by decide +kernel))) ⟨by decide, by decide, by decide +kernel⟩ ⟨Nat.le_of_ble_eq_true rfl, Nat.le_of_ble_eq_true rfl⟩, hts _ (TG_at 962 (by decide +kernel) (by decide +kernel))⟩ ⟨JP_blind, fun U hU hW => ⟨rfl, x_con_kept (x_con_moved hW hcon) (fun a _ _ => by rw [hU])⟩⟩ rfl rfl hl.1 rfl (lv_room (Nat.le_of_ble_eq_true rfl)) (show decode prog_24_method_56_code 12 = .ok (.invokestatic 495, 3) by decide +kernel) ⟨Nat.le_of_ble_eq_true rfl, Nat.le_of_ble_eq_true rfl⟩) ?_
  exact W.zret (v := (x_str i).getD k 0) (ty := .char) hx hb hr hbb.2 (fun t ht hW => ⟨rfl, ht⟩) (fun q h => nomatch h) (show decode prog_24_method_56_code 15 = .ok (.ireturn, 1) by decide +kernel)
end JDK
theorem jg_ordU : GoodIn TG (va_wsU "DebtTable$Sentence" 54 "DebtTable$Word" "java/lang/Enum" ⟨"DebtTable$Word", "ordinal", "()I"⟩ jy_ord jw_ord) := fun w hw => by
  unfold va_wsU at hw
  rcases List.mem_append.mp hw with q | q
  · simp only [List.mem_cons, List.not_mem_nil, or_false] at q
    rcases q with q | q | q | q | q
    · rw [q]; exact TG_good _ (TG_at 1198 (by decide +kernel) (by decide +kernel))
    · rw [q]; exact TG_good _ (TG_at 1199 (by decide +kernel) (by decide +kernel))
    · rw [q]; exact TG_good _ (TG_at 1201 (by decide +kernel) (by decide +kernel))
    · rw [q]; exact TG_good _ (TG_at 1202 (by decide +kernel) (by decide +kernel))
    · rw [q]; exact TG_good _ (TG_at 120 (by decide +kernel) (by decide +kernel))
  · exact jg_ord w q
theorem x_Je_ok (l : Launch) : x_Je l := by
  intro p e R9 s m args below meth c Q D ad0 adV A n0 s0 i d C hi q0 r0 k v pc ls st sl h b x1 x2 hdg hd hk hc0 hs0 k1 k2
  obtain ⟨hx, hb, hml, hown, hts, hSt, hA, hnm, hfr, hlo⟩ := C
  have hcl := x_cls i hi
  rcases hk with ⟨rfl, hq⟩ | ⟨rfl, hq⟩ | ⟨rfl, hq⟩
  · -- an ordinal
    simp only [List.cons.injEq, and_true] at hq
    obtain ⟨ho, rfl⟩ := hq
    rw [hcl, ho] at hown
    have hown : s.vm.findClass "DebtTable$Sentence" = some m.cls := hown
    simp only [dec] at hd
    split at hd
    · rename_i a st0
      cases hw : x_isw a with
      | false => rw [hw] at hd; cases hd
      | true =>
        cases hc8 : Nat.ble (x_cat st0) 8 with
        | false => rw [hw, hc8] at hd; cases hd
        | true =>
          rw [hw, hc8] at hd
          obtain ⟨rfl, rfl⟩ := x_nx_eq hd
          obtain ⟨w, hw21, rfl⟩ := x_isw_of hw
          have hcat : (st0.map fun v => v.category).sum ≤ 8 := by rw [← x_cat_eq]; exact Nat.le_of_ble_eq_true hc8
          intro ad ca H locs cells slots la hp
          have hcs := hp.2.2.2.2.2.2.2.2.1
          dsimp only at hcs
          have hcon := x_con_ag hp.1 hSt.2.2.2
          have hS := hp.2.2.2.1
          have hk1 := k1 rfl ad ca H locs cells slots la (Ph_st hp (fun v hv => by
            rcases List.mem_cons.mp hv with q | q
            · rw [q]; trivial
            · exact Ph_v hp v (List.mem_cons_of_mem _ q)))
          refine W.callR (va_Run_C (va_runU (C := "DebtTable$Word") (owner := "java/lang/Enum") (As := []) (rest := st0.map (cv ad)) (Ts := TG) ⟨hx, hb, hml, hown, hts⟩ (j_ord l ad adV hw21) (va_cwU 0 hts jg_ordU rfl rfl rfl rfl ⟨by decide, by decide, by decide +kernel⟩ ⟨by show 0 + 1 ≤ _; omega, by show 8 + (1 + 11) + 0 ≤ _; omega⟩) ⟨JP_blind, va_recvE hcon.1 (i := w) (by simpa [x_nms] using hw21) hS, fun U hU hW => ⟨rfl, x_con_kept (x_con_moved hW (x_con_narrow (x_con_kept hcon (H1 := H) (fun a ha hna => hS.2.1 a ha hna)) (fun _ hf => hf.elim))) (fun a _ _ => by rw [hU])⟩⟩ rfl rfl (Ph_len hp) rfl (lv_room (by rw [cat_map]; exact hcat)) hdg ⟨by show cells + 0 ≤ _; omega, by show slots + 0 ≤ _; omega⟩)) ?_
          have e9 : Int32.ofNat (1000000 + w - 1000000) = nI w := congrArg Int32.ofNat (by omega)
          rw [e9] at hk1
          exact hk1
    · cases hd
  · -- a text's length
    simp only [List.cons.injEq, and_true] at hq
    obtain ⟨ho, rfl⟩ := hq
    rw [hcl, ho] at hown
    have hown : s.vm.findClass "DebtTable$Line" = some m.cls := hown
    simp only [dec] at hd
    split at hd
    · rename_i a st0
      cases hw : x_ist a with
      | false => rw [hw] at hd; cases hd
      | true =>
        cases hc8 : Nat.ble (x_cat st0) 8 with
        | false => rw [hw, hc8] at hd; cases hd
        | true =>
          rw [hw, hc8] at hd
          obtain ⟨rfl, rfl⟩ := x_nx_eq hd
          obtain ⟨w, hw4, rfl⟩ : ∃ w : Nat, w < 4 ∧ @Eq Nat a (1000200 + w) := by
            unfold x_ist at hw
            simp only [Bool.and_eq_true] at hw
            have q1 := Nat.le_of_ble_eq_true hw.1
            have q2 := Nat.le_of_ble_eq_true hw.2
            obtain ⟨w, hw9⟩ := Nat.exists_eq_add_of_le q1
            exact ⟨w, by omega, hw9⟩
          have hcat : (st0.map fun v => v.category).sum ≤ 8 := by rw [← x_cat_eq]; exact Nat.le_of_ble_eq_true hc8
          intro ad ca H locs cells slots la hp
          have hcs := hp.2.2.2.2.2.2.2.2.1
          dsimp only at hcs
          have hcon := x_con_ag hp.1 hSt.2.2.2
          have hS := hp.2.2.2.1
          have hk1 := k1 rfl ad ca H locs cells slots la (Ph_st hp (fun v hv => by
            rcases List.mem_cons.mp hv with q | q
            · rw [q]; trivial
            · exact Ph_v hp v (List.mem_cons_of_mem _ q)))
          refine W.callR (W.runV (C := "java/lang/String") (As := []) (rest := st0.map (cv ad)) (Ts := TG) ⟨hx, hb, hml, hown, hts⟩ (j_len l ad adV hw4) ⟨callB_of 0 hts jg_len rfl rfl rfl (hts _ (TG_at 130 (by decide +kernel) (by decide +kernel))) (hts _ (TG_at 943 (by decide +kernel) (by decide +kernel))) ⟨by decide, by decide, by decide +kernel⟩ ⟨by show 1 + 1 ≤ _; omega, by show 8 + (1 + 11) + 20 ≤ _; omega⟩, hts _ (TG_at 944 (by decide +kernel) (by decide +kernel)), hts _ (TG_at 945 (by decide +kernel) (by decide +kernel))⟩ ⟨JP_blind, vk_recv hcon.2.2.2.2.2.2.1 hw4 hS, fun U hU hW => ⟨rfl, x_con_kept (x_con_moved hW (x_con_narrow (x_con_kept hcon (H1 := H) (fun a ha hna => hS.2.1 a ha hna)) (fun _ hf => hf.elim))) (fun a _ _ => by rw [hU])⟩⟩ rfl rfl (Ph_len hp) rfl (lv_room (by rw [cat_map]; exact hcat)) hdg ⟨by show cells + 0 ≤ _; omega, by show slots + 0 ≤ _; omega⟩) ?_
          have e9 : 1000200 + w - 1000200 = w := by omega
          rw [e9] at hk1
          exact hk1
    · cases hd
  · -- a text's char
    simp only [List.cons.injEq, and_true] at hq
    obtain ⟨ho, rfl⟩ := hq
    rw [hcl, ho] at hown
    have hown : s.vm.findClass "DebtTable$Line" = some m.cls := hown
    simp only [dec] at hd
    split at hd
    · rename_i i0 a st0
      cases hw : x_ist a with
      | false => rw [hw] at hd; cases hd
      | true =>
        cases hc8 : Nat.ble (x_cat st0) 8 with
        | false => rw [hw, hc8] at hd; cases hd
        | true =>
          rw [hw, hc8] at hd
          obtain ⟨w, hw4, rfl⟩ : ∃ w : Nat, w < 4 ∧ @Eq Nat a (1000200 + w) := by
            unfold x_ist at hw
            simp only [Bool.and_eq_true] at hw
            have q1 := Nat.le_of_ble_eq_true hw.1
            have q2 := Nat.le_of_ble_eq_true hw.2
            obtain ⟨w, hw9⟩ := Nat.exists_eq_add_of_le q1
            exact ⟨w, by omega, hw9⟩
          have e9 : 1000200 + w - 1000200 = w := by omega
          rw [e9] at hd
          simp only [cond_true, Bool.and_true, Bool.and_self] at hd
          unfold x_br at hd
          cases hin : x_in i0 (x_str w).length with
          | false =>
            rw [hin] at hd
            cases hd
            exact absurd rfl (k2 rfl)
          | true =>
            rw [hin] at hd
            cases hd
            obtain ⟨kk, hkk, rfl⟩ : ∃ kk, kk < (x_str w).length ∧ i0 = nI kk := by
              unfold x_in at hin
              simp only [Bool.and_eq_true, decide_eq_true_eq] at hin
              refine ⟨i0.toNatClampNeg, ?_, ?_⟩
              · unfold Int32.toNatClampNeg; omega
              · exact (nI_of (x := i0) (fun hneg => by
                  have := Int32.lt_iff_toInt_lt.mp hneg
                  have z0 : (0 : Int32).toInt = 0 := by decide
                  omega)).elim (fun k hk => by rw [hk.2, nI_clamp hk.1])
            have hcat : (st0.map fun v => v.category).sum ≤ 8 := by rw [← x_cat_eq]; exact Nat.le_of_ble_eq_true hc8
            intro ad ca H locs cells slots la hp
            have hcs := hp.2.2.2.2.2.2.2.2.1
            dsimp only at hcs
            have hcon := x_con_ag hp.1 hSt.2.2.2
            have hS := hp.2.2.2.1
            have hk1 := k1 rfl ad ca H locs cells slots la (Ph_st hp (fun v hv => by
              rcases List.mem_cons.mp hv with q | q
              · rw [q]; trivial
              · exact Ph_v hp v (List.mem_cons_of_mem _ (List.mem_cons_of_mem _ q))))
            refine W.callR (W.runV (C := "java/lang/String") (As := [.int (nI kk)]) (rest := st0.map (cv ad)) (Ts := TG) ⟨hx, hb, hml, hown, hts⟩ (j_cha l ad adV hw4 hkk) ⟨callB_of 1 hts jg_cha rfl rfl rfl (hts _ (TG_at 130 (by decide +kernel) (by decide +kernel))) (hts _ (TG_at 953 (by decide +kernel) (by decide +kernel))) ⟨by decide, by decide, by decide +kernel⟩ ⟨by show 3 + 1 ≤ _; omega, by show 8 + (2 + 11) + 64 ≤ _; omega⟩, hts _ (TG_at 954 (by decide +kernel) (by decide +kernel)), hts _ (TG_at 955 (by decide +kernel) (by decide +kernel))⟩ ⟨JP_blind, vk_recv hcon.2.2.2.2.2.2.1 hw4 hS, fun U hU hW => ⟨rfl, x_con_kept (x_con_moved hW (x_con_narrow (x_con_kept hcon (H1 := H) (fun a ha hna => hS.2.1 a ha hna)) (fun _ hf => hf.elim))) (fun a _ _ => by rw [hU])⟩⟩ rfl rfl (Ph_len hp) rfl (lv_room (by rw [cat_map]; exact hcat)) hdg ⟨by show cells + 0 ≤ _; omega, by show slots + 0 ≤ _; omega⟩) ?_
            have hkl : kk < 2 ^ 31 := by
              have h31 : ∀ i : Fin 4, (x_str i.val).length < 2 ^ 31 := by decide +kernel
              have := h31 ⟨w, hw4⟩
              dsimp only at this
              omega
            rw [nI_clamp hkl] at hk1
            exact hk1
    · cases hd
