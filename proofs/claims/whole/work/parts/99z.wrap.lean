/-! THE LAW'S WRAPPERS: house, worth, mean of the class, an exception caught -/
def xRw (fo : Nat → Int64) : AC := .inl (1, 1, .inr (.inl fo))
set_option maxRecDepth 16384 in
theorem CH_at (I A : Nat → Nat → Int32) (N : Nat → Nat → Int64) (V : Nat → Nat → Option Nat) (lt : Int64) (tw : Option Nat) (sp sr : Nat) (c : AC) : (CH I A N V lt tw sp sr [c])[146]? = some c := rfl
set_option maxRecDepth 16384 in
theorem CH_at0 (I A : Nat → Nat → Int32) (N : Nat → Nat → Int64) (V : Nat → Nat → Option Nat) (lt : Int64) (tw : Option Nat) (sp sr : Nat) (X : List AC) : ∃ fs, (CH I A N V lt tw sp sr X)[0]? = some (.inr (10, fs)) := ⟨_, rfl⟩
set_option maxRecDepth 16384 in
theorem CH_set (I A : Nat → Nat → Int32) (N : Nat → Nat → Int64) (V : Nat → Nat → Option Nat) (lt : Int64) (tw : Option Nat) (sp sr : Nat) (c c' : AC) : (CH I A N V lt tw sp sr [c]).set 146 c' = CH I A N V lt tw sp sr [c'] := rfl
theorem LO_set {D : va_G} {A : Nat → Prop} {s : State} {ad0 ad : Nat → Nat} {ca : Nat → ClassId} {h : List AC} {H H2 : Heap} {k t : Nat} {q q2 : vp_A} (hO : LO D A s ad0 ad ca h H) (hk : h[k]? = some (.inl (t, q))) (hP : va_P D vwCl (cW ad ca (h.set k (.inl (t, q2)))) H2) (hD : va_D A (cW ad ca (h.set k (.inl (t, q2))))) (hw : wA h.length q2) : LO D A s ad0 ad ca (h.set k (.inl (t, q2))) H2 := by
  refine ⟨hO.1, hP, hD, fun i t9 q9 hi => ?_, fun c hc => ?_⟩
  · by_cases he : i = k
    · subst he
      rw [List.getElem?_set_self (List.getElem?_eq_some_iff.mp hk).1] at hi
      cases hi
      exact hO.2.2.2.1 _ _ _ hk
    · rw [List.getElem?_set_ne (fun z => he z.symm)] at hi
      exact hO.2.2.2.1 _ _ _ hi
  · rw [List.length_set]
    rcases List.mem_or_eq_of_mem_set hc with h1 | h1
    · exact hO.2.2.2.2 c h1
    · rw [h1]; exact hw
theorem LO_fin {D : va_G} {A : Nat → Prop} {s : State} {ad ad' : Nat → Nat} {ca' : Nat → ClassId} {n : Nat} {h2 : List AC} {H2 : Heap} {locs : List Loc} {r : Int32} {a : Array Value} {t : State} (hO : LO D A s ad ad' ca' h2 H2) (hag : ag n ad ad') (hn : n ≤ h2.length) (hS : va_S A s.heap H2 locs) (ht : t.heap = H2) (hW : s.WarmedH t.vm) : x_Qg D ad n 0 0 h2 [.int r] A a s (.returned (some (.int r))) t :=
  ⟨⟨some (.int r), (ad', ca'), rfl, rfl, hag, ⟨hn, Nat.le_refl _, hO.2.2.2.2, fun w hw => by rw [List.mem_singleton.mp hw]; trivial⟩, by show va_P D vwCl (cW ad' ca' h2) t.heap; rw [ht]; exact hO.2.1, hO.2.2.1, fun k t9 q hk => ⟨arrOfT_moved hW.alike (hO.2.2.2.1 k t9 q hk).1, (hO.2.2.2.1 k t9 q hk).2.moved hW.alike⟩⟩, hS.F ht⟩
theorem LO_K {D : va_G} {A : Nat → Prop} {s : State} {ad0 ad : Nat → Nat} {ca : Nat → ClassId} {h : List AC} {H : Heap} (hO : LO D A s ad0 ad ca h H) (hK : va_K D vwCl [] s) {k t : Nat} {q : vp_A} (hk : h[k]? = some (.inl (t, q))) : va_K D vwCl [(ca k, tyT t)] s := by
  refine ⟨hK.1, fun j r hj => ?_⟩
  cases j with
  | zero => cases hj; exact hO.2.2.2.1 k t q hk
  | succ j => simp at hj
def yW3 : MethodName := ⟨"DebtTableLaw", "house", "(LDebtTable;II[J)I"⟩
def hhW3 : List (Nat × Nat × Nat × Nat) := [(0, 10, 13, 13)]
def wsW3 : List Cond := Cond.codeWith yW3 method_3_code 5 (some .int) hhW3 :: TG
theorem xLF3 : LF "DebtTableLaw" 7 120 2 10 := ⟨by decide, ⟨by decide, _, rfl, rfl⟩, J_120, TG_at 1232 (by decide +kernel) (by decide +kernel), TG_at 1233 (by decide +kernel) (by decide +kernel), TG_at 1234 (by decide +kernel) (by decide +kernel), by decide +kernel⟩
theorem W3_w1 : Cond.codeWith yW3 method_3_code 5 (some .int) hhW3 ∈ TG := TG_at 1230 (by decide +kernel) (by decide +kernel)
theorem W3_w2 : Cond.static yW3 ∈ TG := TG_at 1229 (by decide +kernel) (by decide +kernel)
theorem W3_w3 : Cond.methodLink "DebtTableLaw" 45 yW3 ∈ TG := TG_at 1228 (by decide +kernel) (by decide +kernel)
theorem W3_good : GoodIn TG (va_wsS "DebtTableLaw" 45 yW3 wsW3) := fun w hw => by
  unfold va_wsS wsW3 at hw
  simp only [List.cons_append, List.nil_append] at hw
  rcases List.mem_cons.mp hw with rfl | hw
  · exact TG_good _ W3_w3
  rcases List.mem_cons.mp hw with rfl | hw
  · exact TG_good _ W3_w2
  rcases List.mem_cons.mp hw with rfl | hw
  · exact TG_good _ (show Cond.initialized "DebtTableLaw" ∈ TG from TG_at 110 (by decide +kernel) (by decide +kernel))
  rcases List.mem_cons.mp hw with rfl | hw
  · exact TG_good _ W3_w1
  · exact TG_good w hw
theorem W3_met {l : Launch} (HJ : x_Je l) {d : Nat} (hd : 1 ≤ d) {I Ac : Nat → Nat → Int32} {N : Nat → Nat → Int64} {V : Nat → Nat → Option Nat} {lt : Int64} {tw : Option Nat} {sp sr : Nat} {fo fo2 : Nat → Int64} {x1 x2 r : Int32} (hwh : ∀ c ∈ CH I Ac N V lt tw sp sr [xRw fo], wC (CH I Ac N V lt tw sp sr [xRw fo]).length c)
    (hcase : (∃ v, C d 120 [.ref 0, .int x1, .int x2] 0 (CH I Ac N V lt tw sp sr [xRw fo]) = some ([.int v], 0, CH I Ac N V lt tw sp sr [xRw fo]) ∧ fo2 = vp_updL fo 0 v.toInt64 ∧ r = nI 0) ∨ (∃ pcT ls2, R d 120 (x_ent 120 [.ref 0, .int x1, .int x2] 0 (CH I Ac N V lt tw sp sr [xRw fo])) = some (pcT, ls2, [], 0, CH I Ac N V lt tw sp sr [xRw fo]) ∧ HT l 120 pcT ∧ fo2 = fo ∧ r = nI 1))
    (D : va_G) (ad adV : Nat → Nat) (ca : Nat → ClassId) (sz : Nat) : Met l yW3 wsW3 (x_rm (d + 6) 1 6) (XP D ad adV ca (CH I Ac N V lt tw sp sr [xRw fo]) sz [.ref 0, .int x1, .int x2, .ref 146]) (x_Qg D ad (CH I Ac N V lt tw sp sr [xRw fo]).length 0 0 (CH I Ac N V lt tw sp sr [xRw fo2]) [.int r] (va_A (cW ad ca (CH I Ac N V lt tw sp sr [xRw fo])) sz)) 1 6 (va_A (cW ad ca (CH I Ac N V lt tw sp sr [xRw fo])) sz) := by
  have hlen : (CH I Ac N V lt tw sp sr [xRw fo]).length = 147 := CH_len I Ac N V lt tw sp sr [xRw fo]
  have hlen2 : (CH I Ac N V lt tw sp sr [xRw fo2]).length = 147 := CH_len I Ac N V lt tw sp sr [xRw fo2]
  have h146 := CH_at I Ac N V lt tw sp sr (xRw fo)
  obtain ⟨fs0, h0⟩ := CH_at0 I Ac N V lt tw sp sr [xRw fo]
  have hset := CH_set I Ac N V lt tw sp sr (xRw fo)
  have hwas : ∀ v ∈ ([.ref 0, .int x1, .int x2] : List Value), wv (CH I Ac N V lt tw sp sr [xRw fo]).length v := by
    intro v hv
    rcases List.mem_cons.mp hv with rfl | hv
    · exact Or.inl (by show (0 : Nat) < _; omega)
    · simp only [List.mem_cons, List.not_mem_nil, or_false] at hv
      rcases hv with rfl | rfl <;> trivial
  obtain ⟨h, eh⟩ : ∃ h, h = CH I Ac N V lt tw sp sr [xRw fo] := ⟨_, rfl⟩
  rw [← eh] at hwh hcase hlen h146 h0 hset hwas ⊢
  obtain ⟨f1, f2, f3, f4, f5, f6, f7⟩ := xLF3
  refine va_MetW (cc := method_3_code) (maxL := 5) (ret := some .int) (hh := hhW3) (by decide) rfl ?_
  intro p e s m args below meth c s₁ B hml hv
  obtain ⟨⟨rfl, hsz, ⟨hP, hD0, hTy⟩, hSt⟩, hXT⟩ := hv
  have hx := B.exec
  have hb := B.bytes
  have hr := B.returns
  have hts0 := atoms_spec (ws := wsW3) B.pre
  have hts : ∀ w ∈ TG, w.before _ s = true := fun w hw => hts0 w (List.mem_cons_of_mem _ hw)
  have hown : s.vm.findClass "DebtTableLaw" = some m.cls := findClass_of_methodNamed B.named
  have htab := vx_table (x := yW3) B (hts0 _ List.mem_cons_self)
  subst hsz
  have hD := hD0.self (sz := s.heap.size)
  have hA : ∀ q : Nat, s.heap.size ≤ q → va_A (cW ad ca h) s.heap.size q := fun q h => Or.inr h
  have hl := lv_entry ([.ref 0, .int x1, .int x2, .ref 146].map (cv ad)) (n := 5) (by rw [x_args_len]; exact Nat.le_of_ble_eq_true rfl)
  rw [lg_entry_eq]
  generalize (lg_sl ([.ref 0, .int x1, .int x2, .ref 146].map (cv ad)) ++ List.replicate (5 - (lg_sl ([.ref 0, .int x1, .int x2, .ref 146].map (cv ad))).length) Slot.unset).toArray = la at hl ⊢
  replace hl : lv_has la 5 [(0, .ref (ad 0)), (1, .int x1), (2, .int x2), (3, .ref (ad 146))] := hl
  have G : LG p s m c ([.ref 0, .int x1, .int x2, .ref 146].map (cv ad)).toArray method_3_code 5 "DebtTableLaw" D ad adV (va_A (cW ad ca h) s.heap.size) := ⟨hx, hb, hml, hown, hts, hSt, hA⟩
  have O : LO D (va_A (cW ad ca h) s.heap.size) s ad ad ca h s.heap := ⟨ag_rf, hP, hD, hTy, hwh⟩
  refine lv_aload_n hx hb (show decode method_3_code 0 = .ok (.aload_n 3, 1) by decide +kernel) rfl (lv_at hl 3 rfl) ?_
  refine lv_iconst (v := nI 0) hx hb (show decode method_3_code 1 = .ok (.iconst 0, 1) by decide +kernel) rfl ?_
  refine lv_aload_n hx hb (show decode method_3_code 2 = .ok (.aload_n 0, 1) by decide +kernel) rfl (lv_at hl 0 rfl) ?_
  refine lv_iload_n hx hb (show decode method_3_code 3 = .ok (.iload_n 1, 1) by decide +kernel) rfl (lv_at hl 1 rfl) ?_
  refine lv_iload_n hx hb (show decode method_3_code 4 = .ok (.iload_n 2, 1) by decide +kernel) rfl (lv_at hl 2 rfl) ?_
  rcases hcase with ⟨v, hC, hfo, rfl⟩ | ⟨pcT, ls2, hR, hT, hfo, rfl⟩
  · obtain ⟨hmo, hM⟩ := C_met HJ f1 f3 hC hwas hwh (by omega) (by omega)
    refine LO_cv (d := d + 4) (t := [.int x1, .int x2]) (a := 0) (kc := 10) (rest := [.int (nI 0), .ref (ad 146)]) G O va_S.rf (show decode method_3_code 5 = .ok (.invokevirtual 7, 3) by decide +kernel) hl.1 (by unfold x_rcv; dsimp only; rw [x_at_eq, h0]; rfl) f2 f3 f4 f5 f6 f7 hM (by show d + 4 + 2 ≤ d + 6 + 1; omega) (by show 41 * (d + 4 + 2) ≤ 41 * (d + 6 + 1); omega) (by show 0 + (h.length - h.length) ≤ 1; omega) (by show 0 + 0 ≤ 6; omega) (by simp [Value.category]) (fun ad' ca' H1 locs1 o1 hag hin hkeep hsz hS1 => ?_)
    refine W.widen (k := 1) (n := 6) (by omega) (by omega) ?_
    refine lv_i2l hx hb (show decode method_3_code 8 = .ok (.i2l, 1) by decide +kernel) rfl ?_
    have e146 : ad' 146 = ad 146 := hag 146 (Or.inl (by omega))
    rw [← e146]
    refine va_last (D := D) hx hb (LO_K o1 hSt.1 h146) o1.2.1 o1.2.2.1 hS1 146 0 (cW_at (ad := ad') (ca := ca') h146) rfl (vp_in_nI (by omega) (by omega)) (show decode method_3_code 9 = .ok (.lastore, 1) by decide +kernel) (fun H2 locs2 hP2 hD2 hS2 => ?_)
    rw [nI_clamp (by omega)] at hP2 hD2
    have o2 : LO D (va_A (cW ad ca h) s.heap.size) s ad ad' ca' (h.set 146 (xRw (vp_updL fo 0 v.toInt64))) H2 := LO_set o1 h146 (by rw [cW_set]; exact hP2) (by rw [cW_set]; exact hD2) trivial
    rw [hset, ← hfo] at o2
    refine lv_goto (tgt := 17) hx hb (show decode method_3_code 10 = .ok (.goto 7, 3) by decide +kernel) (by rfl) ?_
    refine lv_iconst (v := nI 0) hx hb (show decode method_3_code 17 = .ok (.iconst 0, 1) by decide +kernel) rfl ?_
    exact W.iret (v := nI 0) hx hb hr (fun t ht hW => LO_fin o2 hag (by omega) hS2 ht hW) hS2.2.2 (show decode method_3_code 18 = .ok (.ireturn, 1) by decide +kernel)
  · rw [hfo, ← eh]
    have hcell : ∃ cellB : Cell, s.heap[ad 0]? = some cellB ∧ cellB.vm.isStatics = false ∧ s.vm.findClass (xy 120).cls = some cellB.cls := by
      obtain ⟨-, qq, hq1, hq2⟩ := f2
      rw [← hq2]
      exact va_recv hSt.1 O.2.1 hq1 (cW_at (ad := ad) (ca := ca) h0)
    have hpre : ∀ U : State, U.heap = s.heap → s.WarmedH U.vm → XP D ad adV ca h s.heap.size [.ref 0, .int x1, .int x2] ([.ref 0, .int x1, .int x2].map (cv ad)).toArray U := fun U hU hW => ⟨LO_pre G O va_S.rf [.ref 0, .int x1, .int x2] U hU hW, XT_go hW hXT (fun a _ _ => by rw [hU]) (fun _ h => h)⟩
    refine LO_callX (mc := 1) (ms := 6) (a := (.ref (ad 0) :: [.int x1, .int x2]).toArray) (rest := [.int (nI 0), .ref (ad 146)]) G O va_S.rf (vx_runV (C := (xy 120).cls) (As := [.int x1, .int x2]) (rest := [.int (nI 0), .ref (ad 146)]) (Ts := TG) ⟨hx, hb, hml, hown, hts⟩ (xt_met HJ hd f1 f3 rfl hR hwas hwh (by omega) hT D ad adV ca s.heap.size) ⟨callB_of 2 hts (x_ws_good f3) rfl rfl rfl (hts _ f3.2.1) (hts _ f4) ⟨f3.2.2.2.1.1, f3.2.2.2.1.2, f7⟩ ⟨by show d + 4 + 1 + 1 ≤ d + 6 + 1; omega, by show 8 + (xmL 120 + 11) + 41 * (d + 4 + 1) ≤ 41 * (d + 6 + 1); have := f3.2.2.2.2.1; omega⟩, hts _ f5, hts _ f6⟩ ⟨XP_blind, hcell, hpre⟩ rfl rfl hl.1 rfl (lv_room (by simp [Value.category])) (show decode method_3_code 5 = .ok (.invokevirtual 7, 3) by decide +kernel) ⟨Nat.le_refl _, Nat.le_refl _⟩) (fun ad' ca' H1 locs1 q9 ce o1 hag hin hS1 hq9 hv9 hc9 => ?_)
    obtain ⟨x, hx1, hx2, hx3, hx4⟩ : ∃ x, tableOf hhW3 = [x] ∧ covers x 5 = true ∧ x.catchType = 13 ∧ x.handlerPc = 13 := ⟨_, rfl, rfl, rfl, rfl⟩
    refine xc_catch (own := "DebtTableLaw") (name := xnC) (E := xnC) hown (htab.trans hx1) hx2 (by rw [hx3]; decide) (by rw [hx3]; exact hts _ (show Cond.classLink "DebtTableLaw" 13 xnC ∈ TG from TG_at 1231 (by decide +kernel) (by decide +kernel))) (va_Nw.use rfl (hXT.2.2.2.2.2.2 _ (by simp [xnD]))) hq9 hv9 hc9 ?_
    rw [hx4]
    refine lv_astore hx hb (show decode method_3_code 13 = .ok (.astore 4, 2) by decide +kernel) hl (by decide) rfl (fun la2 hl2 => ?_)
    refine lv_iconst (v := nI 1) hx hb (show decode method_3_code 15 = .ok (.iconst 1, 1) by decide +kernel) rfl ?_
    exact W.iret (v := nI 1) hx hb hr (fun t ht hW => LO_fin o1 hag (Nat.le_refl _) hS1 ht hW) hS1.2.2 (show decode method_3_code 16 = .ok (.ireturn, 1) by decide +kernel)
def yW5 : MethodName := ⟨"DebtTableLaw", "mean", "(LDebtTable;II[J)I"⟩
def hhW5 : List (Nat × Nat × Nat × Nat) := [(0, 10, 13, 13)]
def wsW5 : List Cond := Cond.codeWith yW5 method_5_code 5 (some .int) hhW5 :: TG
theorem xLF5 : LF "DebtTableLaw" 19 144 2 10 := ⟨by decide, ⟨by decide, _, rfl, rfl⟩, J_144, TG_at 1315 (by decide +kernel) (by decide +kernel), TG_at 1316 (by decide +kernel) (by decide +kernel), TG_at 1317 (by decide +kernel) (by decide +kernel), by decide +kernel⟩
theorem W5_w1 : Cond.codeWith yW5 method_5_code 5 (some .int) hhW5 ∈ TG := TG_at 1314 (by decide +kernel) (by decide +kernel)
theorem W5_w2 : Cond.static yW5 ∈ TG := TG_at 1313 (by decide +kernel) (by decide +kernel)
theorem W5_w3 : Cond.methodLink "DebtTableLaw" 139 yW5 ∈ TG := TG_at 1312 (by decide +kernel) (by decide +kernel)
theorem W5_good : GoodIn TG (va_wsS "DebtTableLaw" 139 yW5 wsW5) := fun w hw => by
  unfold va_wsS wsW5 at hw
  simp only [List.cons_append, List.nil_append] at hw
  rcases List.mem_cons.mp hw with rfl | hw
  · exact TG_good _ W5_w3
  rcases List.mem_cons.mp hw with rfl | hw
  · exact TG_good _ W5_w2
  rcases List.mem_cons.mp hw with rfl | hw
  · exact TG_good _ (show Cond.initialized "DebtTableLaw" ∈ TG from TG_at 110 (by decide +kernel) (by decide +kernel))
  rcases List.mem_cons.mp hw with rfl | hw
  · exact TG_good _ W5_w1
  · exact TG_good w hw
theorem W5_met {l : Launch} (HJ : x_Je l) {d : Nat} (hd : 1 ≤ d) {I Ac : Nat → Nat → Int32} {N : Nat → Nat → Int64} {V : Nat → Nat → Option Nat} {lt : Int64} {tw : Option Nat} {sp sr : Nat} {fo fo2 : Nat → Int64} {x1 x2 r : Int32} (hwh : ∀ c ∈ CH I Ac N V lt tw sp sr [xRw fo], wC (CH I Ac N V lt tw sp sr [xRw fo]).length c)
    (hcase : (∃ v, C d 144 [.ref 0, .int x1, .int x2] 0 (CH I Ac N V lt tw sp sr [xRw fo]) = some ([.int v], 0, CH I Ac N V lt tw sp sr [xRw fo]) ∧ fo2 = vp_updL fo 0 v.toInt64 ∧ r = nI 0) ∨ (∃ pcT ls2, R d 144 (x_ent 144 [.ref 0, .int x1, .int x2] 0 (CH I Ac N V lt tw sp sr [xRw fo])) = some (pcT, ls2, [], 0, CH I Ac N V lt tw sp sr [xRw fo]) ∧ HT l 144 pcT ∧ fo2 = fo ∧ r = nI 1))
    (D : va_G) (ad adV : Nat → Nat) (ca : Nat → ClassId) (sz : Nat) : Met l yW5 wsW5 (x_rm (d + 6) 1 6) (XP D ad adV ca (CH I Ac N V lt tw sp sr [xRw fo]) sz [.ref 0, .int x1, .int x2, .ref 146]) (x_Qg D ad (CH I Ac N V lt tw sp sr [xRw fo]).length 0 0 (CH I Ac N V lt tw sp sr [xRw fo2]) [.int r] (va_A (cW ad ca (CH I Ac N V lt tw sp sr [xRw fo])) sz)) 1 6 (va_A (cW ad ca (CH I Ac N V lt tw sp sr [xRw fo])) sz) := by
  have hlen : (CH I Ac N V lt tw sp sr [xRw fo]).length = 147 := CH_len I Ac N V lt tw sp sr [xRw fo]
  have hlen2 : (CH I Ac N V lt tw sp sr [xRw fo2]).length = 147 := CH_len I Ac N V lt tw sp sr [xRw fo2]
  have h146 := CH_at I Ac N V lt tw sp sr (xRw fo)
  obtain ⟨fs0, h0⟩ := CH_at0 I Ac N V lt tw sp sr [xRw fo]
  have hset := CH_set I Ac N V lt tw sp sr (xRw fo)
  have hwas : ∀ v ∈ ([.ref 0, .int x1, .int x2] : List Value), wv (CH I Ac N V lt tw sp sr [xRw fo]).length v := by
    intro v hv
    rcases List.mem_cons.mp hv with rfl | hv
    · exact Or.inl (by show (0 : Nat) < _; omega)
    · simp only [List.mem_cons, List.not_mem_nil, or_false] at hv
      rcases hv with rfl | rfl <;> trivial
  obtain ⟨h, eh⟩ : ∃ h, h = CH I Ac N V lt tw sp sr [xRw fo] := ⟨_, rfl⟩
  rw [← eh] at hwh hcase hlen h146 h0 hset hwas ⊢
  obtain ⟨f1, f2, f3, f4, f5, f6, f7⟩ := xLF5
  refine va_MetW (cc := method_5_code) (maxL := 5) (ret := some .int) (hh := hhW5) (by decide) rfl ?_
  intro p e s m args below meth c s₁ B hml hv
  obtain ⟨⟨rfl, hsz, ⟨hP, hD0, hTy⟩, hSt⟩, hXT⟩ := hv
  have hx := B.exec
  have hb := B.bytes
  have hr := B.returns
  have hts0 := atoms_spec (ws := wsW5) B.pre
  have hts : ∀ w ∈ TG, w.before _ s = true := fun w hw => hts0 w (List.mem_cons_of_mem _ hw)
  have hown : s.vm.findClass "DebtTableLaw" = some m.cls := findClass_of_methodNamed B.named
  have htab := vx_table (x := yW5) B (hts0 _ List.mem_cons_self)
  subst hsz
  have hD := hD0.self (sz := s.heap.size)
  have hA : ∀ q : Nat, s.heap.size ≤ q → va_A (cW ad ca h) s.heap.size q := fun q h => Or.inr h
  have hl := lv_entry ([.ref 0, .int x1, .int x2, .ref 146].map (cv ad)) (n := 5) (by rw [x_args_len]; exact Nat.le_of_ble_eq_true rfl)
  rw [lg_entry_eq]
  generalize (lg_sl ([.ref 0, .int x1, .int x2, .ref 146].map (cv ad)) ++ List.replicate (5 - (lg_sl ([.ref 0, .int x1, .int x2, .ref 146].map (cv ad))).length) Slot.unset).toArray = la at hl ⊢
  replace hl : lv_has la 5 [(0, .ref (ad 0)), (1, .int x1), (2, .int x2), (3, .ref (ad 146))] := hl
  have G : LG p s m c ([.ref 0, .int x1, .int x2, .ref 146].map (cv ad)).toArray method_5_code 5 "DebtTableLaw" D ad adV (va_A (cW ad ca h) s.heap.size) := ⟨hx, hb, hml, hown, hts, hSt, hA⟩
  have O : LO D (va_A (cW ad ca h) s.heap.size) s ad ad ca h s.heap := ⟨ag_rf, hP, hD, hTy, hwh⟩
  refine lv_aload_n hx hb (show decode method_5_code 0 = .ok (.aload_n 3, 1) by decide +kernel) rfl (lv_at hl 3 rfl) ?_
  refine lv_iconst (v := nI 0) hx hb (show decode method_5_code 1 = .ok (.iconst 0, 1) by decide +kernel) rfl ?_
  refine lv_aload_n hx hb (show decode method_5_code 2 = .ok (.aload_n 0, 1) by decide +kernel) rfl (lv_at hl 0 rfl) ?_
  refine lv_iload_n hx hb (show decode method_5_code 3 = .ok (.iload_n 1, 1) by decide +kernel) rfl (lv_at hl 1 rfl) ?_
  refine lv_iload_n hx hb (show decode method_5_code 4 = .ok (.iload_n 2, 1) by decide +kernel) rfl (lv_at hl 2 rfl) ?_
  rcases hcase with ⟨v, hC, hfo, rfl⟩ | ⟨pcT, ls2, hR, hT, hfo, rfl⟩
  · obtain ⟨hmo, hM⟩ := C_met HJ f1 f3 hC hwas hwh (by omega) (by omega)
    refine LO_cv (d := d + 4) (t := [.int x1, .int x2]) (a := 0) (kc := 10) (rest := [.int (nI 0), .ref (ad 146)]) G O va_S.rf (show decode method_5_code 5 = .ok (.invokevirtual 19, 3) by decide +kernel) hl.1 (by unfold x_rcv; dsimp only; rw [x_at_eq, h0]; rfl) f2 f3 f4 f5 f6 f7 hM (by show d + 4 + 2 ≤ d + 6 + 1; omega) (by show 41 * (d + 4 + 2) ≤ 41 * (d + 6 + 1); omega) (by show 0 + (h.length - h.length) ≤ 1; omega) (by show 0 + 0 ≤ 6; omega) (by simp [Value.category]) (fun ad' ca' H1 locs1 o1 hag hin hkeep hsz hS1 => ?_)
    refine W.widen (k := 1) (n := 6) (by omega) (by omega) ?_
    refine lv_i2l hx hb (show decode method_5_code 8 = .ok (.i2l, 1) by decide +kernel) rfl ?_
    have e146 : ad' 146 = ad 146 := hag 146 (Or.inl (by omega))
    rw [← e146]
    refine va_last (D := D) hx hb (LO_K o1 hSt.1 h146) o1.2.1 o1.2.2.1 hS1 146 0 (cW_at (ad := ad') (ca := ca') h146) rfl (vp_in_nI (by omega) (by omega)) (show decode method_5_code 9 = .ok (.lastore, 1) by decide +kernel) (fun H2 locs2 hP2 hD2 hS2 => ?_)
    rw [nI_clamp (by omega)] at hP2 hD2
    have o2 : LO D (va_A (cW ad ca h) s.heap.size) s ad ad' ca' (h.set 146 (xRw (vp_updL fo 0 v.toInt64))) H2 := LO_set o1 h146 (by rw [cW_set]; exact hP2) (by rw [cW_set]; exact hD2) trivial
    rw [hset, ← hfo] at o2
    refine lv_goto (tgt := 17) hx hb (show decode method_5_code 10 = .ok (.goto 7, 3) by decide +kernel) (by rfl) ?_
    refine lv_iconst (v := nI 0) hx hb (show decode method_5_code 17 = .ok (.iconst 0, 1) by decide +kernel) rfl ?_
    exact W.iret (v := nI 0) hx hb hr (fun t ht hW => LO_fin o2 hag (by omega) hS2 ht hW) hS2.2.2 (show decode method_5_code 18 = .ok (.ireturn, 1) by decide +kernel)
  · rw [hfo, ← eh]
    have hcell : ∃ cellB : Cell, s.heap[ad 0]? = some cellB ∧ cellB.vm.isStatics = false ∧ s.vm.findClass (xy 144).cls = some cellB.cls := by
      obtain ⟨-, qq, hq1, hq2⟩ := f2
      rw [← hq2]
      exact va_recv hSt.1 O.2.1 hq1 (cW_at (ad := ad) (ca := ca) h0)
    have hpre : ∀ U : State, U.heap = s.heap → s.WarmedH U.vm → XP D ad adV ca h s.heap.size [.ref 0, .int x1, .int x2] ([.ref 0, .int x1, .int x2].map (cv ad)).toArray U := fun U hU hW => ⟨LO_pre G O va_S.rf [.ref 0, .int x1, .int x2] U hU hW, XT_go hW hXT (fun a _ _ => by rw [hU]) (fun _ h => h)⟩
    refine LO_callX (mc := 1) (ms := 6) (a := (.ref (ad 0) :: [.int x1, .int x2]).toArray) (rest := [.int (nI 0), .ref (ad 146)]) G O va_S.rf (vx_runV (C := (xy 144).cls) (As := [.int x1, .int x2]) (rest := [.int (nI 0), .ref (ad 146)]) (Ts := TG) ⟨hx, hb, hml, hown, hts⟩ (xt_met HJ hd f1 f3 rfl hR hwas hwh (by omega) hT D ad adV ca s.heap.size) ⟨callB_of 2 hts (x_ws_good f3) rfl rfl rfl (hts _ f3.2.1) (hts _ f4) ⟨f3.2.2.2.1.1, f3.2.2.2.1.2, f7⟩ ⟨by show d + 4 + 1 + 1 ≤ d + 6 + 1; omega, by show 8 + (xmL 144 + 11) + 41 * (d + 4 + 1) ≤ 41 * (d + 6 + 1); have := f3.2.2.2.2.1; omega⟩, hts _ f5, hts _ f6⟩ ⟨XP_blind, hcell, hpre⟩ rfl rfl hl.1 rfl (lv_room (by simp [Value.category])) (show decode method_5_code 5 = .ok (.invokevirtual 19, 3) by decide +kernel) ⟨Nat.le_refl _, Nat.le_refl _⟩) (fun ad' ca' H1 locs1 q9 ce o1 hag hin hS1 hq9 hv9 hc9 => ?_)
    obtain ⟨x, hx1, hx2, hx3, hx4⟩ : ∃ x, tableOf hhW5 = [x] ∧ covers x 5 = true ∧ x.catchType = 13 ∧ x.handlerPc = 13 := ⟨_, rfl, rfl, rfl, rfl⟩
    refine xc_catch (own := "DebtTableLaw") (name := xnC) (E := xnC) hown (htab.trans hx1) hx2 (by rw [hx3]; decide) (by rw [hx3]; exact hts _ (show Cond.classLink "DebtTableLaw" 13 xnC ∈ TG from TG_at 1231 (by decide +kernel) (by decide +kernel))) (va_Nw.use rfl (hXT.2.2.2.2.2.2 _ (by simp [xnD]))) hq9 hv9 hc9 ?_
    rw [hx4]
    refine lv_astore hx hb (show decode method_5_code 13 = .ok (.astore 4, 2) by decide +kernel) hl (by decide) rfl (fun la2 hl2 => ?_)
    refine lv_iconst (v := nI 1) hx hb (show decode method_5_code 15 = .ok (.iconst 1, 1) by decide +kernel) rfl ?_
    exact W.iret (v := nI 1) hx hb hr (fun t ht hW => LO_fin o1 hag (Nat.le_refl _) hS1 ht hW) hS1.2.2 (show decode method_5_code 16 = .ok (.ireturn, 1) by decide +kernel)
def yW4 : MethodName := ⟨"DebtTableLaw", "worth", "(LDebtTable;I[J)I"⟩
def hhW4 : List (Nat × Nat × Nat × Nat) := [(0, 9, 12, 13)]
def wsW4 : List Cond := Cond.codeWith yW4 method_4_code 4 (some .int) hhW4 :: TG
theorem xLF4 : LF "DebtTableLaw" 15 121 1 10 := ⟨by decide, ⟨by decide, _, rfl, rfl⟩, J_121, TG_at 1308 (by decide +kernel) (by decide +kernel), TG_at 1309 (by decide +kernel) (by decide +kernel), TG_at 1310 (by decide +kernel) (by decide +kernel), by decide +kernel⟩
theorem W4_w1 : Cond.codeWith yW4 method_4_code 4 (some .int) hhW4 ∈ TG := TG_at 1307 (by decide +kernel) (by decide +kernel)
theorem W4_w2 : Cond.static yW4 ∈ TG := TG_at 1306 (by decide +kernel) (by decide +kernel)
theorem W4_w3 : Cond.methodLink "DebtTableLaw" 54 yW4 ∈ TG := TG_at 1305 (by decide +kernel) (by decide +kernel)
theorem W4_good : GoodIn TG (va_wsS "DebtTableLaw" 54 yW4 wsW4) := fun w hw => by
  unfold va_wsS wsW4 at hw
  simp only [List.cons_append, List.nil_append] at hw
  rcases List.mem_cons.mp hw with rfl | hw
  · exact TG_good _ W4_w3
  rcases List.mem_cons.mp hw with rfl | hw
  · exact TG_good _ W4_w2
  rcases List.mem_cons.mp hw with rfl | hw
  · exact TG_good _ (show Cond.initialized "DebtTableLaw" ∈ TG from TG_at 110 (by decide +kernel) (by decide +kernel))
  rcases List.mem_cons.mp hw with rfl | hw
  · exact TG_good _ W4_w1
  · exact TG_good w hw
theorem W4_met {l : Launch} (HJ : x_Je l) {d : Nat} (hd : 1 ≤ d) {I Ac : Nat → Nat → Int32} {N : Nat → Nat → Int64} {V : Nat → Nat → Option Nat} {lt : Int64} {tw : Option Nat} {sp sr : Nat} {fo fo2 : Nat → Int64} {x1 r : Int32} (hwh : ∀ c ∈ CH I Ac N V lt tw sp sr [xRw fo], wC (CH I Ac N V lt tw sp sr [xRw fo]).length c)
    (hcase : (∃ v, C d 121 [.ref 0, .int x1] 0 (CH I Ac N V lt tw sp sr [xRw fo]) = some ([.int v], 0, CH I Ac N V lt tw sp sr [xRw fo]) ∧ fo2 = vp_updL fo 0 v.toInt64 ∧ r = nI 0) ∨ (∃ pcT ls2, R d 121 (x_ent 121 [.ref 0, .int x1] 0 (CH I Ac N V lt tw sp sr [xRw fo])) = some (pcT, ls2, [], 0, CH I Ac N V lt tw sp sr [xRw fo]) ∧ HT l 121 pcT ∧ fo2 = fo ∧ r = nI 1))
    (D : va_G) (ad adV : Nat → Nat) (ca : Nat → ClassId) (sz : Nat) : Met l yW4 wsW4 (x_rm (d + 6) 1 6) (XP D ad adV ca (CH I Ac N V lt tw sp sr [xRw fo]) sz [.ref 0, .int x1, .ref 146]) (x_Qg D ad (CH I Ac N V lt tw sp sr [xRw fo]).length 0 0 (CH I Ac N V lt tw sp sr [xRw fo2]) [.int r] (va_A (cW ad ca (CH I Ac N V lt tw sp sr [xRw fo])) sz)) 1 6 (va_A (cW ad ca (CH I Ac N V lt tw sp sr [xRw fo])) sz) := by
  have hlen : (CH I Ac N V lt tw sp sr [xRw fo]).length = 147 := CH_len I Ac N V lt tw sp sr [xRw fo]
  have hlen2 : (CH I Ac N V lt tw sp sr [xRw fo2]).length = 147 := CH_len I Ac N V lt tw sp sr [xRw fo2]
  have h146 := CH_at I Ac N V lt tw sp sr (xRw fo)
  obtain ⟨fs0, h0⟩ := CH_at0 I Ac N V lt tw sp sr [xRw fo]
  have hset := CH_set I Ac N V lt tw sp sr (xRw fo)
  have hwas : ∀ v ∈ ([.ref 0, .int x1] : List Value), wv (CH I Ac N V lt tw sp sr [xRw fo]).length v := by
    intro v hv
    rcases List.mem_cons.mp hv with rfl | hv
    · exact Or.inl (by show (0 : Nat) < _; omega)
    · simp only [List.mem_cons, List.not_mem_nil, or_false] at hv
      rcases hv with rfl <;> trivial
  obtain ⟨h, eh⟩ : ∃ h, h = CH I Ac N V lt tw sp sr [xRw fo] := ⟨_, rfl⟩
  rw [← eh] at hwh hcase hlen h146 h0 hset hwas ⊢
  obtain ⟨f1, f2, f3, f4, f5, f6, f7⟩ := xLF4
  refine va_MetW (cc := method_4_code) (maxL := 4) (ret := some .int) (hh := hhW4) (by decide) rfl ?_
  intro p e s m args below meth c s₁ B hml hv
  obtain ⟨⟨rfl, hsz, ⟨hP, hD0, hTy⟩, hSt⟩, hXT⟩ := hv
  have hx := B.exec
  have hb := B.bytes
  have hr := B.returns
  have hts0 := atoms_spec (ws := wsW4) B.pre
  have hts : ∀ w ∈ TG, w.before _ s = true := fun w hw => hts0 w (List.mem_cons_of_mem _ hw)
  have hown : s.vm.findClass "DebtTableLaw" = some m.cls := findClass_of_methodNamed B.named
  have htab := vx_table (x := yW4) B (hts0 _ List.mem_cons_self)
  subst hsz
  have hD := hD0.self (sz := s.heap.size)
  have hA : ∀ q : Nat, s.heap.size ≤ q → va_A (cW ad ca h) s.heap.size q := fun q h => Or.inr h
  have hl := lv_entry ([.ref 0, .int x1, .ref 146].map (cv ad)) (n := 4) (by rw [x_args_len]; exact Nat.le_of_ble_eq_true rfl)
  rw [lg_entry_eq]
  generalize (lg_sl ([.ref 0, .int x1, .ref 146].map (cv ad)) ++ List.replicate (4 - (lg_sl ([.ref 0, .int x1, .ref 146].map (cv ad))).length) Slot.unset).toArray = la at hl ⊢
  replace hl : lv_has la 4 [(0, .ref (ad 0)), (1, .int x1), (2, .ref (ad 146))] := hl
  have G : LG p s m c ([.ref 0, .int x1, .ref 146].map (cv ad)).toArray method_4_code 4 "DebtTableLaw" D ad adV (va_A (cW ad ca h) s.heap.size) := ⟨hx, hb, hml, hown, hts, hSt, hA⟩
  have O : LO D (va_A (cW ad ca h) s.heap.size) s ad ad ca h s.heap := ⟨ag_rf, hP, hD, hTy, hwh⟩
  refine lv_aload_n hx hb (show decode method_4_code 0 = .ok (.aload_n 2, 1) by decide +kernel) rfl (lv_at hl 2 rfl) ?_
  refine lv_iconst (v := nI 0) hx hb (show decode method_4_code 1 = .ok (.iconst 0, 1) by decide +kernel) rfl ?_
  refine lv_aload_n hx hb (show decode method_4_code 2 = .ok (.aload_n 0, 1) by decide +kernel) rfl (lv_at hl 0 rfl) ?_
  refine lv_iload_n hx hb (show decode method_4_code 3 = .ok (.iload_n 1, 1) by decide +kernel) rfl (lv_at hl 1 rfl) ?_
  rcases hcase with ⟨v, hC, hfo, rfl⟩ | ⟨pcT, ls2, hR, hT, hfo, rfl⟩
  · obtain ⟨hmo, hM⟩ := C_met HJ f1 f3 hC hwas hwh (by omega) (by omega)
    refine LO_cv (d := d + 4) (t := [.int x1]) (a := 0) (kc := 10) (rest := [.int (nI 0), .ref (ad 146)]) G O va_S.rf (show decode method_4_code 4 = .ok (.invokevirtual 15, 3) by decide +kernel) hl.1 (by unfold x_rcv; dsimp only; rw [x_at_eq, h0]; rfl) f2 f3 f4 f5 f6 f7 hM (by show d + 4 + 2 ≤ d + 6 + 1; omega) (by show 41 * (d + 4 + 2) ≤ 41 * (d + 6 + 1); omega) (by show 0 + (h.length - h.length) ≤ 1; omega) (by show 0 + 0 ≤ 6; omega) (by simp [Value.category]) (fun ad' ca' H1 locs1 o1 hag hin hkeep hsz hS1 => ?_)
    refine W.widen (k := 1) (n := 6) (by omega) (by omega) ?_
    refine lv_i2l hx hb (show decode method_4_code 7 = .ok (.i2l, 1) by decide +kernel) rfl ?_
    have e146 : ad' 146 = ad 146 := hag 146 (Or.inl (by omega))
    rw [← e146]
    refine va_last (D := D) hx hb (LO_K o1 hSt.1 h146) o1.2.1 o1.2.2.1 hS1 146 0 (cW_at (ad := ad') (ca := ca') h146) rfl (vp_in_nI (by omega) (by omega)) (show decode method_4_code 8 = .ok (.lastore, 1) by decide +kernel) (fun H2 locs2 hP2 hD2 hS2 => ?_)
    rw [nI_clamp (by omega)] at hP2 hD2
    have o2 : LO D (va_A (cW ad ca h) s.heap.size) s ad ad' ca' (h.set 146 (xRw (vp_updL fo 0 v.toInt64))) H2 := LO_set o1 h146 (by rw [cW_set]; exact hP2) (by rw [cW_set]; exact hD2) trivial
    rw [hset, ← hfo] at o2
    refine lv_goto (tgt := 15) hx hb (show decode method_4_code 9 = .ok (.goto 6, 3) by decide +kernel) (by rfl) ?_
    refine lv_iconst (v := nI 0) hx hb (show decode method_4_code 15 = .ok (.iconst 0, 1) by decide +kernel) rfl ?_
    exact W.iret (v := nI 0) hx hb hr (fun t ht hW => LO_fin o2 hag (by omega) hS2 ht hW) hS2.2.2 (show decode method_4_code 16 = .ok (.ireturn, 1) by decide +kernel)
  · rw [hfo, ← eh]
    have hcell : ∃ cellB : Cell, s.heap[ad 0]? = some cellB ∧ cellB.vm.isStatics = false ∧ s.vm.findClass (xy 121).cls = some cellB.cls := by
      obtain ⟨-, qq, hq1, hq2⟩ := f2
      rw [← hq2]
      exact va_recv hSt.1 O.2.1 hq1 (cW_at (ad := ad) (ca := ca) h0)
    have hpre : ∀ U : State, U.heap = s.heap → s.WarmedH U.vm → XP D ad adV ca h s.heap.size [.ref 0, .int x1] ([.ref 0, .int x1].map (cv ad)).toArray U := fun U hU hW => ⟨LO_pre G O va_S.rf [.ref 0, .int x1] U hU hW, XT_go hW hXT (fun a _ _ => by rw [hU]) (fun _ h => h)⟩
    refine LO_callX (mc := 1) (ms := 6) (a := (.ref (ad 0) :: [.int x1]).toArray) (rest := [.int (nI 0), .ref (ad 146)]) G O va_S.rf (vx_runV (C := (xy 121).cls) (As := [.int x1]) (rest := [.int (nI 0), .ref (ad 146)]) (Ts := TG) ⟨hx, hb, hml, hown, hts⟩ (xt_met HJ hd f1 f3 rfl hR hwas hwh (by omega) hT D ad adV ca s.heap.size) ⟨callB_of 1 hts (x_ws_good f3) rfl rfl rfl (hts _ f3.2.1) (hts _ f4) ⟨f3.2.2.2.1.1, f3.2.2.2.1.2, f7⟩ ⟨by show d + 4 + 1 + 1 ≤ d + 6 + 1; omega, by show 8 + (xmL 121 + 11) + 41 * (d + 4 + 1) ≤ 41 * (d + 6 + 1); have := f3.2.2.2.2.1; omega⟩, hts _ f5, hts _ f6⟩ ⟨XP_blind, hcell, hpre⟩ rfl rfl hl.1 rfl (lv_room (by simp [Value.category])) (show decode method_4_code 4 = .ok (.invokevirtual 15, 3) by decide +kernel) ⟨Nat.le_refl _, Nat.le_refl _⟩) (fun ad' ca' H1 locs1 q9 ce o1 hag hin hS1 hq9 hv9 hc9 => ?_)
    obtain ⟨x, hx1, hx2, hx3, hx4⟩ : ∃ x, tableOf hhW4 = [x] ∧ covers x 4 = true ∧ x.catchType = 13 ∧ x.handlerPc = 12 := ⟨_, rfl, rfl, rfl, rfl⟩
    refine xc_catch (own := "DebtTableLaw") (name := xnC) (E := xnC) hown (htab.trans hx1) hx2 (by rw [hx3]; decide) (by rw [hx3]; exact hts _ (show Cond.classLink "DebtTableLaw" 13 xnC ∈ TG from TG_at 1231 (by decide +kernel) (by decide +kernel))) (va_Nw.use rfl (hXT.2.2.2.2.2.2 _ (by simp [xnD]))) hq9 hv9 hc9 ?_
    rw [hx4]
    refine lv_astore_n hx hb (show decode method_4_code 12 = .ok (.astore_n 3, 1) by decide +kernel) rfl hl (by decide) rfl (fun la2 hl2 => ?_)
    refine lv_iconst (v := nI 1) hx hb (show decode method_4_code 13 = .ok (.iconst 1, 1) by decide +kernel) rfl ?_
    exact W.iret (v := nI 1) hx hb hr (fun t ht hW => LO_fin o1 hag (Nat.le_refl _) hS1 ht hW) hS1.2.2 (show decode method_4_code 14 = .ok (.ireturn, 1) by decide +kernel)
