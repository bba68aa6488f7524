/-! THE THREE CALLS THAT THROW: what a throw stands on; the throw itself -/
section XTF
def x291 : String := "the house has no op" ++ "en debt"
def xnB : List Cond := xnA.filter vx_no
def xnD : List Cond := [.declares (Bundle.initS "java/lang/RuntimeException"), .declares (Bundle.initS "java/lang/Exception"), .declares (Bundle.initS Bundle.tN), .castable xnC xnC]
def XT (A : Nat → Prop) (U : State) : Prop := vx_Zq Bundle.tN "UNASSIGNED_STACK" Bundle.steD A U U.heap ∧ vx_Zq Bundle.tN "SUPPRESSED_SENTINEL" Bundle.listD A U U.heap ∧ (∃ s1, vk_R "DebtTable" 132 "no such house" s1 U) ∧ (∃ s2, vk_R "DebtTable" 165 "no such fact of a house" s2 U) ∧ (∃ s3, vk_R "DebtTable" 289 "no such house or number" s3 U) ∧ (∃ s4, vk_R "DebtTable" 291 x291 s4 U) ∧ ∀ w ∈ xnD, va_Nw w U
theorem XT_go {A B : Nat → Prop} {s U : State} (hW : s.WarmedH U.vm) (h : XT A s) (hS : ∀ a : Nat, a < s.heap.size → ¬ A a → U.heap[a]? = s.heap[a]?) (hAB : ∀ q, B q → A q) : XT B U := by
  obtain ⟨h1, h2, ⟨s1, h3⟩, ⟨s2, h4⟩, ⟨s3, h5⟩, ⟨s4, h6⟩, h7⟩ := h
  refine ⟨(vx_Zq.moved hW.alike (h1.kept hS)).narrow hAB, (vx_Zq.moved hW.alike (h2.kept hS)).narrow hAB, ⟨s1, vk_R.warm hW h3⟩, ⟨s2, vk_R.warm hW h4⟩, ⟨s3, vk_R.warm hW h5⟩, ⟨s4, vk_R.warm hW h6⟩, fun w hw => ?_⟩
  have h8 := h7 w hw
  simp only [xnD, List.mem_cons, List.not_mem_nil, or_false] at hw
  rcases hw with rfl | rfl | rfl | rfl
  · exact va_Nw.warmD hW h8
  · exact va_Nw.warmD hW h8
  · exact va_Nw.warmD hW h8
  · exact va_Nw.warmC hW h8
theorem xnB_good : ∀ w ∈ xnB.filter goodWord, w ∈ TG := by decide +kernel
theorem xnB_rest : ∀ w ∈ xnB.filter (fun w => !goodWord w), w ∈ xnD := by decide +kernel
theorem xnB_ot : ∀ w ∈ Cond.classLink "DebtTable" 130 xnC :: Cond.initialized xnC :: xnB, vx_ot w = true := by decide +kernel
theorem xnD_tab : ∀ w ∈ xnD, w.onTables = true := by decide +kernel
theorem xn_words {args : Array Value} {s : State} {A : Nat → Prop} (hts : ∀ w ∈ TG, w.before args s = true) (hX : XT A s) : ∀ w ∈ xnB, w.before args s = true :=
  vx_hat (fun w hw => hts w (xnB_good w hw)) xnB_rest (fun w hw => va_tabs (xnD_tab w hw) rfl (hX.2.2.2.2.2.2 w hw))
variable {p : Program} {l : Launch} {e : Env} {R : Room} {s : State} {m : MethodId} {args : Array Value} {below : List Frame} {meth : Method} {c : Code} {H : Heap} {locs : List Loc} {cells slots : Nat}
variable {mc ms : Nat} {free : Addr → Prop} {ls : Array Slot} {rest : List Value} {Qc : Array Value → State → Outcome → State → Prop} {XC : String → State → State → Prop}
theorem xn_throw {cc : ByteArray} {pc : Nat} (hexec : p.tables.exec = Jvm.exec) (hb : c.code = cc) (hl : l.stackTraces = false) {text : String} {is sa : Nat} {A : Nat → Prop}
    (hown : s.vm.findClass "DebtTable" = some m.cls) (hts : ∀ w ∈ TG, w.before args s = true) (hk : Cond.classLink "DebtTable" 130 xnC ∈ TG) (hini : Cond.initialized xnC ∈ TG) (hX : XT A s) (hstr : vk_R "DebtTable" is text sa s) (hS : va_S A s.heap H locs) (hsize : ls.size = c.maxLocals)
    (d0 : decode cc pc = .ok (.new 130, 3)) (d3 : decode cc (pc + 3) = .ok (.dup, 1)) (d4 : decode cc (pc + 4) = .ok (.ldc is, 2)) (d6 : decode cc (pc + 6) = .ok (.invokespecial 134, 3)) (d9 : decode cc (pc + 9) = .ok (.athrow, 1))
    (hout : ∀ x ∈ c.exceptionTable.toList, covers x (pc + 9) = false)
    (hRframes : 5 < R.frames) (hRlocals : (rest.map fun v => v.category).sum + 82 ≤ R.locals) (hRcells : cells + 1 ≤ R.cells) (hRslots : slots + 6 ≤ R.slots) (hlocks : meth.locks = false)
    (hx : ∀ t : State, s.vm.Alike t.vm → H.size ≤ t.heap.size → (∀ q : Nat, q < H.size → t.heap[q]? = H[q]?) → XC xnC s t)
    (hf : ∀ z ∈ locs, free z.base) (hc : cells + 1 ≤ mc) (hs : slots + 6 ≤ ms) :
    W p l e R s m args below meth c H locs cells slots (vx_MQ below Qc XC args s mc ms free) (F0 m pc ls rest) := by
  intro T hT X
  have htr : e.platform.stackTraces = false := (show e.platform.stackTraces = l.stackTraces by rw [X.admits.platform]).trans hl
  have Y := vx_rebase X (R' := { frames := R.frames, locals := R.locals, cells := 1, slots := 6 }) (Nat.le_refl _) (Nat.le_refl _) hRcells hRslots
  obtain ⟨s', hA⟩ : ∃ z, z = (T.setVm s.vm).setFrames (.invoking m args :: below) := ⟨_, rfl⟩
  rw [← hA] at Y
  have hvm : s'.vm = s.vm := by rw [hA]; rfl
  have hhp : s'.heap = H := by rw [hA]; exact hT
  have hW0 : s.WarmedH s'.vm := by rw [hvm]; exact State.WarmedH.refl s
  have hX' : XT A s' := XT_go hW0 hX (fun a ha hna => by rw [hhp]; exact hS.2.1 a ha hna) (fun _ h => h)
  have hat' : ∀ w ∈ xnB, w.before args s' = true := fun w hw => vx_ot_at hW0 hvm.symm (xnB_ot w (List.mem_cons_of_mem _ (List.mem_cons_of_mem _ hw))) (xn_words hts hX w hw)
  have hk' : (Cond.classLink "DebtTable" 130 xnC).before args s' = true := vx_ot_at hW0 hvm.symm (xnB_ot _ List.mem_cons_self) (hts _ hk)
  have hini' : (Cond.initialized xnC).before args s' = true := vx_ot_at hW0 hvm.symm (xnB_ot _ (List.mem_cons_of_mem _ List.mem_cons_self)) (hts _ hini)
  have h : ∀ w ∈ xnA, w.before args s' = true := vx_own hat' (vx_isRefq hX'.1.1) (vx_isRefq hX'.2.1.1) hX'.1.2.word hX'.2.1.2.word
  have hown' : s'.vm.findClass "DebtTable" = some m.cls := by rw [hvm]; exact hown
  have hins : (Cond.instantiable xnC 6).before args s' = true := h _ (by simp [xnA])
  obtain ⟨vm₁, cX, kX, hfX, hkX, -, -, X₁, st1⟩ := Y.newCold hexec (own := "DebtTable") (C := xnC) (index := 130) (n := 6) hown' hk' hins hini'
    (g := F0 m pc ls rest) rfl (by rw [hb]; exact d0) (Nat.le_refl _) (Nat.le_refl _)
  generalize hT1 : (T.setVm vm₁).pushCell { cls := cX, slots := kX.instanceTypes.map defaultValue, vm := .none } = T1 at X₁ st1
  have hcat : (Value.ref T.heap.size).category = 1 := rfl
  have hcellA : T1.heap[T.heap.size]? = some (freshCell cX kX) := by rw [← hT1]; exact State.heap_pushCell_size _ _
  have d3' : decode c.code (pc + 3) = .ok (.dup, 1) := by rw [hb]; exact d3
  have d4' : decode c.code (pc + 4) = .ok (.ldc is, 2) := by rw [hb]; exact d4
  have hstr' : vk_R "DebtTable" is text sa s' := vk_R.warm hW0 hstr
  obtain ⟨U, hsteps, hrun, hend, hW, hsame, ce, hce, hO1, hO2⟩ := xn_ctor X₁ hexec htr hown' h (fun x hx => nomatch hx) hfX hkX hcellA (by rw [hhp, hT]; exact Nat.le_refl _) (msg := .ref sa) rfl
    (g := { method := m, pc := pc + 6, locals := ls, stack := .ref sa :: .ref T.heap.size :: .ref T.heap.size :: rest, locked := none }) rfl hsize rfl rfl (rest := rest) rfl
    (by rw [hb]; exact d6) (by rw [hb]; exact d9) hout hRframes (by simp only [List.map_cons, List.sum_cons, hcat]; show 2 * 0 + _ + 81 ≤ _; omega) hlocks
  obtain ⟨f1, f2⟩ := vx_frame hsame
  rw [hhp] at f1 f2
  have hWs : s.WarmedH U.vm := State.WarmedH.trans hW0 hW
  have hcl : s.vm.findClass xnC = some ce.cls := by
    have h9 := hO2
    rw [hvm] at h9
    exact h9
  have hall : s.sameButNew ({ U with vm := s.vm } : State) locs mc ms := by
    subst hA
    obtain ⟨e1, e2⟩ := hsame
    rw [State.setFrames_setFrames] at e1
    have h2 : (T.setVm s.vm).sameButNew ({ U with vm := s.vm } : State) [] (0 + 1) (0 + 6) := ⟨e1, e2⟩
    have h3 := X.same.trans h2
    rw [List.append_nil] at h3
    exact h3.mono hc hs
  refine ⟨U, ?_, .threw T.heap.size, hrun, hend, Or.inr ⟨T.heap.size, rfl, xnC, ce, locs, hx U hWs.alike f1 (fun q hq => f2 q hq (fun z hz => nomatch hz)), hce, hO1, hcl, hWs, hall, hf⟩⟩
  refine st1 _ ?_
  show Steps p.tables e below (T1.setTop { method := m, pc := pc + 3, locals := ls, stack := .ref T.heap.size :: rest, locked := none }) _
  jvm_step X₁.here [X₁.here.top, hexec, d3', Value.category]
  exact X₁.ldcString hexec (own := "DebtTable") (text := text) (index := is) (a := sa) hown' hstr'.1 hstr'.2
    (g := { method := m, pc := pc + 4, locals := ls, stack := .ref T.heap.size :: .ref T.heap.size :: rest, locked := none }) rfl d4' _ hsteps
theorem xn_throwW {cc : ByteArray} {pc : Nat} (hexec : p.tables.exec = Jvm.exec) (hb : c.code = cc) (hl : l.stackTraces = false) {text : String} {is sa : Nat} {A : Nat → Prop}
    (hown : s.vm.findClass "DebtTable" = some m.cls) (hts : ∀ w ∈ TG, w.before args s = true) (hk : Cond.classLink "DebtTable" 130 xnC ∈ TG) (hini : Cond.initialized xnC ∈ TG) (hX : XT A s) (hstr : vk_R "DebtTable" is text sa s) (hS : va_S A s.heap H locs) (hsize : ls.size = c.maxLocals)
    (d0 : decode cc pc = .ok (.new 130, 3)) (d3 : decode cc (pc + 3) = .ok (.dup, 1)) (d4 : decode cc (pc + 4) = .ok (.ldc_w is, 3)) (d6 : decode cc (pc + 7) = .ok (.invokespecial 134, 3)) (d9 : decode cc (pc + 10) = .ok (.athrow, 1))
    (hout : ∀ x ∈ c.exceptionTable.toList, covers x (pc + 10) = false)
    (hRframes : 5 < R.frames) (hRlocals : (rest.map fun v => v.category).sum + 82 ≤ R.locals) (hRcells : cells + 1 ≤ R.cells) (hRslots : slots + 6 ≤ R.slots) (hlocks : meth.locks = false)
    (hx : ∀ t : State, s.vm.Alike t.vm → H.size ≤ t.heap.size → (∀ q : Nat, q < H.size → t.heap[q]? = H[q]?) → XC xnC s t)
    (hf : ∀ z ∈ locs, free z.base) (hc : cells + 1 ≤ mc) (hs : slots + 6 ≤ ms) :
    W p l e R s m args below meth c H locs cells slots (vx_MQ below Qc XC args s mc ms free) (F0 m pc ls rest) := by
  intro T hT X
  have htr : e.platform.stackTraces = false := (show e.platform.stackTraces = l.stackTraces by rw [X.admits.platform]).trans hl
  have Y := vx_rebase X (R' := { frames := R.frames, locals := R.locals, cells := 1, slots := 6 }) (Nat.le_refl _) (Nat.le_refl _) hRcells hRslots
  obtain ⟨s', hA⟩ : ∃ z, z = (T.setVm s.vm).setFrames (.invoking m args :: below) := ⟨_, rfl⟩
  rw [← hA] at Y
  have hvm : s'.vm = s.vm := by rw [hA]; rfl
  have hhp : s'.heap = H := by rw [hA]; exact hT
  have hW0 : s.WarmedH s'.vm := by rw [hvm]; exact State.WarmedH.refl s
  have hX' : XT A s' := XT_go hW0 hX (fun a ha hna => by rw [hhp]; exact hS.2.1 a ha hna) (fun _ h => h)
  have hat' : ∀ w ∈ xnB, w.before args s' = true := fun w hw => vx_ot_at hW0 hvm.symm (xnB_ot w (List.mem_cons_of_mem _ (List.mem_cons_of_mem _ hw))) (xn_words hts hX w hw)
  have hk' : (Cond.classLink "DebtTable" 130 xnC).before args s' = true := vx_ot_at hW0 hvm.symm (xnB_ot _ List.mem_cons_self) (hts _ hk)
  have hini' : (Cond.initialized xnC).before args s' = true := vx_ot_at hW0 hvm.symm (xnB_ot _ (List.mem_cons_of_mem _ List.mem_cons_self)) (hts _ hini)
  have h : ∀ w ∈ xnA, w.before args s' = true := vx_own hat' (vx_isRefq hX'.1.1) (vx_isRefq hX'.2.1.1) hX'.1.2.word hX'.2.1.2.word
  have hown' : s'.vm.findClass "DebtTable" = some m.cls := by rw [hvm]; exact hown
  have hins : (Cond.instantiable xnC 6).before args s' = true := h _ (by simp [xnA])
  obtain ⟨vm₁, cX, kX, hfX, hkX, -, -, X₁, st1⟩ := Y.newCold hexec (own := "DebtTable") (C := xnC) (index := 130) (n := 6) hown' hk' hins hini'
    (g := F0 m pc ls rest) rfl (by rw [hb]; exact d0) (Nat.le_refl _) (Nat.le_refl _)
  generalize hT1 : (T.setVm vm₁).pushCell { cls := cX, slots := kX.instanceTypes.map defaultValue, vm := .none } = T1 at X₁ st1
  have hcat : (Value.ref T.heap.size).category = 1 := rfl
  have hcellA : T1.heap[T.heap.size]? = some (freshCell cX kX) := by rw [← hT1]; exact State.heap_pushCell_size _ _
  have d3' : decode c.code (pc + 3) = .ok (.dup, 1) := by rw [hb]; exact d3
  have d4' : decode c.code (pc + 4) = .ok (.ldc_w is, 3) := by rw [hb]; exact d4
  have hstr' : vk_R "DebtTable" is text sa s' := vk_R.warm hW0 hstr
  obtain ⟨U, hsteps, hrun, hend, hW, hsame, ce, hce, hO1, hO2⟩ := xn_ctor X₁ hexec htr hown' h (fun x hx => nomatch hx) hfX hkX hcellA (by rw [hhp, hT]; exact Nat.le_refl _) (msg := .ref sa) rfl
    (g := { method := m, pc := pc + 7, locals := ls, stack := .ref sa :: .ref T.heap.size :: .ref T.heap.size :: rest, locked := none }) rfl hsize rfl rfl (rest := rest) rfl
    (by rw [hb]; exact d6) (by rw [hb]; exact d9) hout hRframes (by simp only [List.map_cons, List.sum_cons, hcat]; show 2 * 0 + _ + 81 ≤ _; omega) hlocks
  obtain ⟨f1, f2⟩ := vx_frame hsame
  rw [hhp] at f1 f2
  have hWs : s.WarmedH U.vm := State.WarmedH.trans hW0 hW
  have hcl : s.vm.findClass xnC = some ce.cls := by
    have h9 := hO2
    rw [hvm] at h9
    exact h9
  have hall : s.sameButNew ({ U with vm := s.vm } : State) locs mc ms := by
    subst hA
    obtain ⟨e1, e2⟩ := hsame
    rw [State.setFrames_setFrames] at e1
    have h2 : (T.setVm s.vm).sameButNew ({ U with vm := s.vm } : State) [] (0 + 1) (0 + 6) := ⟨e1, e2⟩
    have h3 := X.same.trans h2
    rw [List.append_nil] at h3
    exact h3.mono hc hs
  refine ⟨U, ?_, .threw T.heap.size, hrun, hend, Or.inr ⟨T.heap.size, rfl, xnC, ce, locs, hx U hWs.alike f1 (fun q hq => f2 q hq (fun z hz => nomatch hz)), hce, hO1, hcl, hWs, hall, hf⟩⟩
  refine st1 _ ?_
  show Steps p.tables e below (T1.setTop { method := m, pc := pc + 3, locals := ls, stack := .ref T.heap.size :: rest, locked := none }) _
  jvm_step X₁.here [X₁.here.top, hexec, d3', Value.category]
  exact X₁.ldcStringW hexec (own := "DebtTable") (text := text) (index := is) (a := sa) hown' hstr'.1 hstr'.2
    (g := { method := m, pc := pc + 4, locals := ls, stack := .ref T.heap.size :: .ref T.heap.size :: rest, locked := none }) rfl d4' _ hsteps
end XTF
