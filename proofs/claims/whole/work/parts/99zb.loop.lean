/-! THE CLAIM OUT OF ONE WALK OF THE LAW'S BODY. Your part is whole_start (and what it stands on); all else here is the same for every law, but numbers. -/
def R_law : String := "DebtTableLaw"
def lw_P (b : Addr) (xs : List Int32) (args : Array Value) (s : State) : Prop := args = #[.ref b] ∧ s.IntsAt b xs ∧ xs.length ≤ 3072 ∧ (Jvm.Cond.and given_1 narrow_1).before args s = true
def lw_Q (_ : Array Value) (s : State) (o : Outcome) (t : State) : Prop := o = .returned (some (.int 1)) ∧ Framed s o t [] 601024 7293034
def lw_Z (below : List Frame) (a : Array Value) (s : State) : State → Prop := fun t => ∃ o, t.status = .running ∧ Ended t below o ∧ lw_Q a s o t
/-- the law's own end, with 1 on the stack, nothing written that was there before, its room as the claim has it -/
theorem lw_ret {p : Program} {l : Launch} {e : Env} {s : State} {m : MethodId} {below : List Frame} {meth : Method} {c : Code} {b : Nat} (hx : p.tables.exec = Jvm.exec) (hb : c.code = code) (hr : meth.sig.returnType = ret) (hlocks : meth.locks = false) {pc : Nat} {H : Heap} {ls : Array Slot} (hdg : decode code pc = .ok (.ireturn, 1)) : W p l e room_1 s m #[Value.ref b] below meth c H [] 601024 7293034 (lw_Z below #[Value.ref b] s) (F0 m pc ls [.int 1]) := by
  intro T hT X
  obtain ⟨fs, hret, hrun, hended, hW, hframe⟩ := X.leave (v := some (.int 1)) (hlocks := hlocks) (fun h => by rw [hr] at h; cases h)
  have hmeth' : T.vm.method? m = some meth := X.method'
  refine ⟨T.setFrames fs, ?_, .returned (some (.int 1)), hrun, hended, rfl, ⟨_, rfl⟩, hW, hframe⟩
  jvm_step X.here [X.here.top, hx, hb, hdg, hmeth', hr, ret, narrow_b1]
  (try refine ⟨rfl, ?_⟩); (try refine ⟨rfl, ?_⟩)
  first | (intro acts; rw [hret _ acts rfl rfl rfl]) | rw [hret _ _ rfl rfl rfl]
  exact Steps.refl _
/-- what holds at the law's entry: the machine, the code, the tables' words (any of lw_tbl by 'hts w (by decide +kernel)'), the script of L ints xs at the cell b, what the Statement gives of the start (any of its parts by flat_of_before) -/
def lw_At (p : Program) (s : State) (m : MethodId) (meth : Method) (c : Code) (b L : Nat) (xs : Nat → Int32) : Prop :=
  p.tables.exec = Jvm.exec ∧ c.code = code ∧ meth.sig.returnType = ret ∧ c.maxLocals = 7 ∧ s.vm.findClass R_law = some m.cls ∧ (∀ w ∈ lw_tbl, w.before #[Value.ref b] s = true) ∧ va_X b L xs s s.heap ∧ b < s.heap.size ∧ meth.locks = false ∧ (Jvm.Cond.and given_1 narrow_1).before #[Value.ref b] s = true
/-! THE LAW: what its throws stand on, at its start -/
theorem XT0 {s : State} {b : Nat} (hts : ∀ w ∈ lw_tbl, w.before #[Value.ref b] s = true) (hgv : (Jvm.Cond.and given_1 narrow_1).before #[Value.ref b] s = true) {D : va_G} {ad0 adV : Nat → Nat} (hSt : x_St D ad0 adV (fun q => s.heap.size ≤ q) s) : XT (fun q => s.heap.size ≤ q) s := by
  have hn : ∀ w ∈ nwL, w.before #[Value.ref b] s = true := flat_of_before _ hgv
  have hA : ∀ a : Nat, a < s.heap.size → ¬ (fun q => s.heap.size ≤ q) a := fun a ha h => absurd ha (Nat.not_lt.mpr h)
  have hat : ∀ {k : Nat} {w : Cond}, nwL[k]? = some w → w.before #[Value.ref b] s = true := fun h => hn _ (List.mem_of_getElem? h)
  have htb : ∀ {k : Nat} {w : Cond}, lw_tbl[k]? = some w → w.before #[Value.ref b] s = true := fun h => hts _ (List.mem_of_getElem? h)
  have hfc : s.vm.findClass "DebtTable" = some (D.1 10) := (hSt.1.1 10 _ rfl).2.1
  have str : ∀ {k : Nat} {tx : String}, (Cond.stringRef "DebtTable" k tx).before #[Value.ref b] s = true → ∃ a, vk_R "DebtTable" k tx a s := fun h => by
    obtain ⟨_, _, _, a, -, -, -, -, -, he⟩ := Cond.stringRef_spec hfc h
    exact ⟨a, vk_R.of h he⟩
  refine ⟨vx_Zqof (args := #[Value.ref b]) (htb (k := 1263) (w := .laysStatic Bundle.tN "UNASSIGNED_STACK" Bundle.steD) (by decide +kernel)) (htb (k := 124) (w := .initialized Bundle.tN) (by decide +kernel)) (hat (k := 332) (w := .isRef (.static Bundle.tN "UNASSIGNED_STACK" Bundle.steD)) (by decide +kernel)) hA,
    vx_Zqof (args := #[Value.ref b]) (htb (k := 1265) (w := .laysStatic Bundle.tN "SUPPRESSED_SENTINEL" Bundle.listD) (by decide +kernel)) (htb (k := 124) (w := .initialized Bundle.tN) (by decide +kernel)) (hat (k := 333) (w := .isRef (.static Bundle.tN "SUPPRESSED_SENTINEL" Bundle.listD)) (by decide +kernel)) hA,
    str (htb (k := 1275) (w := .stringRef "DebtTable" 132 "no such house") (by decide +kernel)), str (htb (k := 1304) (w := .stringRef "DebtTable" 165 "no such fact of a house") (by decide +kernel)), str (htb (k := 1319) (w := .stringRef "DebtTable" 289 "no such house or number") (by decide +kernel)), str (htb (k := 1320) (w := .stringRef "DebtTable" 291 x291) (by decide +kernel)), fun w hw => va_Nw.of (A := #[Value.ref b]) (xnD_tab w hw) ?_⟩
  simp only [xnD, List.mem_cons, List.not_mem_nil, or_false] at hw
  rcases hw with rfl | rfl | rfl | rfl
  · exact htb (k := 1240) (by decide +kernel)
  · exact htb (k := 1242) (by decide +kernel)
  · exact htb (k := 1244) (by decide +kernel)
  · exact htb (k := 1238) (by decide +kernel)
/-! THE LAW: its loop -/
theorem lw_d40 : decode code 40 = .ok (.tableswitch 1295 0 37 #[168, 241, 266, 279, 292, 360, 416, 453, 490, 515, 552, 601, 638, 663, 700, 725, 738, 763, 788, 801, 826, 851, 876, 889, 902, 915, 928, 996, 1021, 1046, 1083, 1132, 1157, 1182, 1195, 1220, 1245, 1270], 168) := by decide +kernel
section LWL
variable {p : Program} {l : Launch} {e : Env} {R9 : Room} {s : State} {m : MethodId} {args : Array Value} {below : List Frame} {meth : Method} {c : Code} {Q : State → Prop} {D : va_G} {ad0 adV : Nat → Nat} {A : Nat → Prop} {b L ax ar ao : Nat} {xs : Nat → Int32}

theorem lw_head (G : LG p s m c args code 7 "DebtTableLaw" D ad0 adV A) (hX : va_X b L xs s s.heap) (hbl : b < s.heap.size) (hbA : ¬ A b) (hL : L ≤ 3072) {i : Nat} (hi : i ≤ 3100) {la : Array Slot} {H : Heap} {locs : List Loc} {cells slots : Nat} (hl : lv_has la 7 [(0, .ref b), (1, .ref ax), (2, .ref ar), (3, .ref ao), (4, .int (nI i))]) (hS : va_S A s.heap H locs)
    (k1 : L < i + 6 → W p l e R9 s m args below meth c H locs cells slots Q (F0 m 1341 la [])) (k2 : i + 6 ≤ L → W p l e R9 s m args below meth c H locs cells slots Q (F0 m 40 la [.int (xs i &&& 63)])) : W p l e R9 s m args below meth c H locs cells slots Q (F0 m 23 la []) := by
  have hx := G.1
  have hb := G.2.1
  refine lv_iload (x := nI i) hx hb (show decode code 23 = .ok (.iload 4, 2) by decide +kernel) (lv_at hl 4 rfl) ?_
  refine lv_aload_n hx hb (show decode code 25 = .ok (.aload_n 0, 1) by decide +kernel) rfl (lv_at hl 0 rfl) ?_
  refine va_slen hx hb hX hbl hbA hS (show decode code 26 = .ok (.arraylength, 1) by decide +kernel) ?_
  refine lv_bipush (v := nI 6) hx hb (show decode code 27 = .ok (.bipush 6, 2) by decide +kernel) (by decide) ?_
  refine lv_isub hx hb (show decode code 29 = .ok (.isub, 1) by decide +kernel) ?_
  refine lv_icmp_gt (tgt := 1341) hx hb (show decode code 30 = .ok (.if_icmp .gt 1311, 3) by decide +kernel) (by rfl) (fun h => k1 ((gt6 (by omega) hL).mp h)) (fun h => ?_)
  have h6 : i + 6 ≤ L := Nat.not_lt.mp (fun z => h ((gt6 (by omega) hL).mpr z))
  refine lv_aload_n hx hb (show decode code 33 = .ok (.aload_n 0, 1) by decide +kernel) rfl (lv_at hl 0 rfl) ?_
  refine lv_iload (x := nI i) hx hb (show decode code 34 = .ok (.iload 4, 2) by decide +kernel) (lv_at hl 4 rfl) ?_
  refine va_sld hx hb hX hbl hbA hS (vp_in_nI (by omega) (by omega)) (show decode code 36 = .ok (.iaload, 1) by decide +kernel) ?_
  rw [nI_clamp (by omega)]
  refine lv_bipush (v := 63) hx hb (show decode code 37 = .ok (.bipush 63, 2) by decide +kernel) (by decide) ?_
  exact lv_iand hx hb (show decode code 39 = .ok (.iand, 1) by decide +kernel) (k2 h6)
theorem lw_case (HJ : x_Je l) (hz0 : ∀ k, 2000000 ≤ k → ad0 k = k - 2000000) (hst : l.stackTraces = false) (hXT : XT A s) (G : LG p s m c args code 7 "DebtTableLaw" D ad0 adV A) (hX : va_X b L xs s s.heap) (hbl : b < s.heap.size) (hbA : ¬ A b) (hL : L ≤ 3072) (hfr : 115 ≤ R9.frames) (hlo : 4700 ≤ R9.locals) {i : Nat} {la : Array Slot} {H : Heap} {locs : List Loc} {cells slots : Nat} (hi : i + 6 ≤ L) (hl : lv_has la 7 [(0, .ref b), (1, .ref ax), (2, .ref ar), (3, .ref ao), (4, .int (nI i))]) (hS : va_S A s.heap H locs) (hLS : LSt D A s ad0 ax ar ao H) (hcb : cells + 1 ≤ R9.cells) (hsb : slots + 8 ≤ R9.slots)
    (kk : ∀ (H1 : Heap) (locs1 : List Loc) (la1 : Array Slot), lv_has la1 7 [(0, .ref b), (1, .ref ax), (2, .ref ar), (3, .ref ao), (4, .int (nI i))] → LSt D A s ad0 ax ar ao H1 → va_S A s.heap H1 locs1 → W p l e R9 s m args below meth c H1 locs1 (cells + 1) (slots + 8) Q (F0 m 1335 la1 [])) : ∀ v : Nat, v < 64 → W p l e R9 s m args below meth c H locs cells slots Q (F0 m 40 la [.int (nI v)])
  | 0, _ => lv_tableIn (off := 168) (tgt := 208) G.1 G.2.1 lw_d40 (by decide) (by decide) (by decide +kernel) (by rfl) (lsc_0 HJ hz0 G hX hbl hbA hL (by omega) (by omega) i la H locs cells slots hi hl hS hLS hcb hsb kk)
  | 1, _ => lv_tableIn (off := 241) (tgt := 281) G.1 G.2.1 lw_d40 (by decide) (by decide) (by decide +kernel) (by rfl) (lsc_1 HJ hz0 G hX hbl hbA hL (by omega) (by omega) i la H locs cells slots hi hl hS hLS hcb hsb kk)
  | 2, _ => lv_tableIn (off := 266) (tgt := 306) G.1 G.2.1 lw_d40 (by decide) (by decide) (by decide +kernel) (by rfl) (lsc_2 HJ hz0 G hX hbl hbA hL (by omega) (by omega) i la H locs cells slots hi hl hS hLS hcb hsb kk)
  | 3, _ => lv_tableIn (off := 279) (tgt := 319) G.1 G.2.1 lw_d40 (by decide) (by decide) (by decide +kernel) (by rfl) (lsc_3 HJ hz0 G hX hbl hbA hL (by omega) (by omega) i la H locs cells slots hi hl hS hLS hcb hsb kk)
  | 4, _ => lv_tableIn (off := 292) (tgt := 332) G.1 G.2.1 lw_d40 (by decide) (by decide) (by decide +kernel) (by rfl) (lsc_4 HJ hst hXT G hX hbl hbA hL hfr hlo i la H locs cells slots hi hl hS hLS hcb hsb kk)
  | 5, _ => lv_tableIn (off := 360) (tgt := 400) G.1 G.2.1 lw_d40 (by decide) (by decide) (by decide +kernel) (by rfl) (lsc_5 HJ hst hXT G hX hbl hbA hL hfr hlo i la H locs cells slots hi hl hS hLS hcb hsb kk)
  | 6, _ => lv_tableIn (off := 416) (tgt := 456) G.1 G.2.1 lw_d40 (by decide) (by decide) (by decide +kernel) (by rfl) (lsc_6 HJ hz0 G hX hbl hbA hL (by omega) (by omega) i la H locs cells slots hi hl hS hLS hcb hsb kk)
  | 7, _ => lv_tableIn (off := 453) (tgt := 493) G.1 G.2.1 lw_d40 (by decide) (by decide) (by decide +kernel) (by rfl) (lsc_7 HJ hz0 G hX hbl hbA hL (by omega) (by omega) i la H locs cells slots hi hl hS hLS hcb hsb kk)
  | 8, _ => lv_tableIn (off := 490) (tgt := 530) G.1 G.2.1 lw_d40 (by decide) (by decide) (by decide +kernel) (by rfl) (lsc_8 HJ hz0 G hX hbl hbA hL (by omega) (by omega) i la H locs cells slots hi hl hS hLS hcb hsb kk)
  | 9, _ => lv_tableIn (off := 515) (tgt := 555) G.1 G.2.1 lw_d40 (by decide) (by decide) (by decide +kernel) (by rfl) (lsc_9 HJ hz0 G hX hbl hbA hL (by omega) (by omega) i la H locs cells slots hi hl hS hLS hcb hsb kk)
  | 10, _ => lv_tableIn (off := 552) (tgt := 592) G.1 G.2.1 lw_d40 (by decide) (by decide) (by decide +kernel) (by rfl) (lsc_10 HJ hz0 G hX hbl hbA hL (by omega) (by omega) i la H locs cells slots hi hl hS hLS hcb hsb kk)
  | 11, _ => lv_tableIn (off := 601) (tgt := 641) G.1 G.2.1 lw_d40 (by decide) (by decide) (by decide +kernel) (by rfl) (lsc_11 HJ hz0 G hX hbl hbA hL (by omega) (by omega) i la H locs cells slots hi hl hS hLS hcb hsb kk)
  | 12, _ => lv_tableIn (off := 638) (tgt := 678) G.1 G.2.1 lw_d40 (by decide) (by decide) (by decide +kernel) (by rfl) (lsc_12 HJ hz0 G hX hbl hbA hL (by omega) (by omega) i la H locs cells slots hi hl hS hLS hcb hsb kk)
  | 13, _ => lv_tableIn (off := 663) (tgt := 703) G.1 G.2.1 lw_d40 (by decide) (by decide) (by decide +kernel) (by rfl) (lsc_13 HJ hz0 G hX hbl hbA hL (by omega) (by omega) i la H locs cells slots hi hl hS hLS hcb hsb kk)
  | 14, _ => lv_tableIn (off := 700) (tgt := 740) G.1 G.2.1 lw_d40 (by decide) (by decide) (by decide +kernel) (by rfl) (lsc_14 HJ hz0 G hX hbl hbA hL (by omega) (by omega) i la H locs cells slots hi hl hS hLS hcb hsb kk)
  | 15, _ => lv_tableIn (off := 725) (tgt := 765) G.1 G.2.1 lw_d40 (by decide) (by decide) (by decide +kernel) (by rfl) (lsc_15 HJ hz0 G hX hbl hbA hL (by omega) (by omega) i la H locs cells slots hi hl hS hLS hcb hsb kk)
  | 16, _ => lv_tableIn (off := 738) (tgt := 778) G.1 G.2.1 lw_d40 (by decide) (by decide) (by decide +kernel) (by rfl) (lsc_16 HJ hz0 G hX hbl hbA hL (by omega) (by omega) i la H locs cells slots hi hl hS hLS hcb hsb kk)
  | 17, _ => lv_tableIn (off := 763) (tgt := 803) G.1 G.2.1 lw_d40 (by decide) (by decide) (by decide +kernel) (by rfl) (lsc_17 HJ hz0 G hX hbl hbA hL (by omega) (by omega) i la H locs cells slots hi hl hS hLS hcb hsb kk)
  | 18, _ => lv_tableIn (off := 788) (tgt := 828) G.1 G.2.1 lw_d40 (by decide) (by decide) (by decide +kernel) (by rfl) (lsc_18 HJ hz0 G hX hbl hbA hL (by omega) (by omega) i la H locs cells slots hi hl hS hLS hcb hsb kk)
  | 19, _ => lv_tableIn (off := 801) (tgt := 841) G.1 G.2.1 lw_d40 (by decide) (by decide) (by decide +kernel) (by rfl) (lsc_19 HJ hz0 G hX hbl hbA hL (by omega) (by omega) i la H locs cells slots hi hl hS hLS hcb hsb kk)
  | 20, _ => lv_tableIn (off := 826) (tgt := 866) G.1 G.2.1 lw_d40 (by decide) (by decide) (by decide +kernel) (by rfl) (lsc_20 HJ hz0 G hX hbl hbA hL (by omega) (by omega) i la H locs cells slots hi hl hS hLS hcb hsb kk)
  | 21, _ => lv_tableIn (off := 851) (tgt := 891) G.1 G.2.1 lw_d40 (by decide) (by decide) (by decide +kernel) (by rfl) (lsc_21 HJ hz0 G hX hbl hbA hL (by omega) (by omega) i la H locs cells slots hi hl hS hLS hcb hsb kk)
  | 22, _ => lv_tableIn (off := 876) (tgt := 916) G.1 G.2.1 lw_d40 (by decide) (by decide) (by decide +kernel) (by rfl) (lsc_22 HJ hz0 G hX hbl hbA hL (by omega) (by omega) i la H locs cells slots hi hl hS hLS hcb hsb kk)
  | 23, _ => lv_tableIn (off := 889) (tgt := 929) G.1 G.2.1 lw_d40 (by decide) (by decide) (by decide +kernel) (by rfl) (lsc_23 HJ hz0 G hX hbl hbA hL (by omega) (by omega) i la H locs cells slots hi hl hS hLS hcb hsb kk)
  | 24, _ => lv_tableIn (off := 902) (tgt := 942) G.1 G.2.1 lw_d40 (by decide) (by decide) (by decide +kernel) (by rfl) (lsc_24 HJ hz0 G hX hbl hbA hL (by omega) (by omega) i la H locs cells slots hi hl hS hLS hcb hsb kk)
  | 25, _ => lv_tableIn (off := 915) (tgt := 955) G.1 G.2.1 lw_d40 (by decide) (by decide) (by decide +kernel) (by rfl) (lsc_25 HJ hz0 G hX hbl hbA hL (by omega) (by omega) i la H locs cells slots hi hl hS hLS hcb hsb kk)
  | 26, _ => lv_tableIn (off := 928) (tgt := 968) G.1 G.2.1 lw_d40 (by decide) (by decide) (by decide +kernel) (by rfl) (lsc_26 HJ hst hXT G hX hbl hbA hL hfr hlo i la H locs cells slots hi hl hS hLS hcb hsb kk)
  | 27, _ => lv_tableIn (off := 996) (tgt := 1036) G.1 G.2.1 lw_d40 (by decide) (by decide) (by decide +kernel) (by rfl) (lsc_27 HJ hz0 G hX hbl hbA hL (by omega) (by omega) i la H locs cells slots hi hl hS hLS hcb hsb kk)
  | 28, _ => lv_tableIn (off := 1021) (tgt := 1061) G.1 G.2.1 lw_d40 (by decide) (by decide) (by decide +kernel) (by rfl) (lsc_28 HJ hz0 G hX hbl hbA hL (by omega) (by omega) i la H locs cells slots hi hl hS hLS hcb hsb kk)
  | 29, _ => lv_tableIn (off := 1046) (tgt := 1086) G.1 G.2.1 lw_d40 (by decide) (by decide) (by decide +kernel) (by rfl) (lsc_29 HJ hz0 G hX hbl hbA hL (by omega) (by omega) i la H locs cells slots hi hl hS hLS hcb hsb kk)
  | 30, _ => lv_tableIn (off := 1083) (tgt := 1123) G.1 G.2.1 lw_d40 (by decide) (by decide) (by decide +kernel) (by rfl) (lsc_30 HJ hz0 G hX hbl hbA hL (by omega) (by omega) i la H locs cells slots hi hl hS hLS hcb hsb kk)
  | 31, _ => lv_tableIn (off := 1132) (tgt := 1172) G.1 G.2.1 lw_d40 (by decide) (by decide) (by decide +kernel) (by rfl) (lsc_31 HJ hz0 G hX hbl hbA hL (by omega) (by omega) i la H locs cells slots hi hl hS hLS hcb hsb kk)
  | 32, _ => lv_tableIn (off := 1157) (tgt := 1197) G.1 G.2.1 lw_d40 (by decide) (by decide) (by decide +kernel) (by rfl) (lsc_32 HJ hz0 G hX hbl hbA hL (by omega) (by omega) i la H locs cells slots hi hl hS hLS hcb hsb kk)
  | 33, _ => lv_tableIn (off := 1182) (tgt := 1222) G.1 G.2.1 lw_d40 (by decide) (by decide) (by decide +kernel) (by rfl) (lsc_33 HJ hz0 G hX hbl hbA hL (by omega) (by omega) i la H locs cells slots hi hl hS hLS hcb hsb kk)
  | 34, _ => lv_tableIn (off := 1195) (tgt := 1235) G.1 G.2.1 lw_d40 (by decide) (by decide) (by decide +kernel) (by rfl) (lsc_34 HJ hz0 G hX hbl hbA hL (by omega) (by omega) i la H locs cells slots hi hl hS hLS hcb hsb kk)
  | 35, _ => lv_tableIn (off := 1220) (tgt := 1260) G.1 G.2.1 lw_d40 (by decide) (by decide) (by decide +kernel) (by rfl) (lsc_35 HJ hz0 G hX hbl hbA hL (by omega) (by omega) i la H locs cells slots hi hl hS hLS hcb hsb kk)
  | 36, _ => lv_tableIn (off := 1245) (tgt := 1285) G.1 G.2.1 lw_d40 (by decide) (by decide) (by decide +kernel) (by rfl) (lsc_36 HJ hz0 G hX hbl hbA hL (by omega) (by omega) i la H locs cells slots hi hl hS hLS hcb hsb kk)
  | 37, _ => lv_tableIn (off := 1270) (tgt := 1310) G.1 G.2.1 lw_d40 (by decide) (by decide) (by decide +kernel) (by rfl) (lsc_37 HJ hz0 G hX hbl hbA hL (by omega) (by omega) i la H locs cells slots hi hl hS hLS hcb hsb kk)
  | v + 38, hv => lv_tableOut (tgt := 1335) G.1 G.2.1 lw_d40 (Or.inr (by rw [nI_toInt (by omega)]; omega)) (by rfl) (W.widen (k := cells + 1) (n := slots + 8) (by omega) (by omega) (kk H locs la hl hLS hS))
theorem lw_loop (HJ : x_Je l) (hz0 : ∀ k, 2000000 ≤ k → ad0 k = k - 2000000) (hst : l.stackTraces = false) (hXT : XT A s) (G : LG p s m c args code 7 "DebtTableLaw" D ad0 adV A) (hX : va_X b L xs s s.heap) (hbl : b < s.heap.size) (hbA : ¬ A b) (hL : L ≤ 3072) (hfr : 115 ≤ R9.frames) (hlo : 4700 ≤ R9.locals) (K S : Nat) (hK : K ≤ R9.cells) (hS0 : S ≤ R9.slots)
    (kk : ∀ (H1 : Heap) (locs1 : List Loc) (la1 : Array Slot), va_S A s.heap H1 locs1 → W p l e R9 s m args below meth c H1 locs1 K S Q (F0 m 1341 la1 [])) : ∀ (n i : Nat) (la : Array Slot) (H : Heap) (locs : List Loc) (cells slots : Nat), L < i + 6 * n + 6 → i ≤ 3100 → lv_has la 7 [(0, .ref b), (1, .ref ax), (2, .ref ar), (3, .ref ao), (4, .int (nI i))] → va_S A s.heap H locs → LSt D A s ad0 ax ar ao H → cells + n ≤ K → slots + 8 * n ≤ S → W p l e R9 s m args below meth c H locs cells slots Q (F0 m 23 la []) := by
  intro n
  induction n with
  | zero =>
    intro i la H locs cells slots hn hi hl hS hLS hc1 hc2
    exact lw_head G hX hbl hbA hL hi hl hS (fun _ => W.widen (k := K) (n := S) (by omega) (by omega) (kk H locs la hS)) (fun h => by omega)
  | succ n ih =>
    intro i la H locs cells slots hn hi hl hS hLS hc1 hc2
    refine lw_head G hX hbl hbA hL hi hl hS (fun _ => W.widen (k := K) (n := S) (by omega) (by omega) (kk H locs la hS)) (fun h6 => ?_)
    obtain ⟨v, hv, e9⟩ := and63 (xs i)
    rw [e9]
    refine lw_case HJ hz0 hst hXT G hX hbl hbA hL hfr hlo h6 hl hS hLS (by omega) (by omega) (fun H1 locs1 la1 hl1 hLS1 hS1 => ?_) v hv
    refine lv_iinc (k := 4) (x := nI i) (v := nI (i + 6)) G.1 G.2.1 (show decode code 1335 = .ok (.iinc 4 6, 3) by decide +kernel) hl1 rfl (by rw [← nI_add]; rfl) (by decide) rfl (fun la2 hl2 => ?_)
    refine lv_goto (tgt := 23) G.1 G.2.1 (show decode code 1338 = .ok (.goto (-1315), 3) by decide +kernel) (by rfl) ?_
    replace hl2 : lv_has la2 7 [(4, .int (nI (i + 6))), (0, .ref b), (1, .ref ax), (2, .ref ar), (3, .ref ao)] := hl2
    have hl3 : lv_has la2 7 [(0, .ref b), (1, .ref ax), (2, .ref ar), (3, .ref ao), (4, .int (nI (i + 6)))] := ⟨hl2.1, hl2.2.1, fun q hq => hl2.2.2 q (by
      simp only [List.mem_cons, List.not_mem_nil, or_false] at hq ⊢
      rcases hq with h | h | h | h | h
      · exact Or.inr (Or.inl h)
      · exact Or.inr (Or.inr (Or.inl h))
      · exact Or.inr (Or.inr (Or.inr (Or.inl h)))
      · exact Or.inr (Or.inr (Or.inr (Or.inr h)))
      · exact Or.inl h)⟩
    exact ih (i + 6) la2 H1 locs1 (cells + 1) (slots + 8) (by omega) (by omega) hl3 hS1 hLS1 (by omega) (by omega)
end LWL
