/-! THE LAW: calls of what the abstract machine runs -/
theorem C_met {l : Launch} (HJ : x_Je l) {d j : Nat} {as vs : List Value} {sl sl2 : Nat} {h h2 : List AC} (hj : j < 282) (hJ : x_J j) (hc : C d j as sl h = some (vs, sl2, h2)) (hwas : ∀ v ∈ as, wv h.length v) (hwh : ∀ c ∈ h, wC h.length c) (hlt : h2.length < 1000000) (hbig : sl2 ≤ 60000000) : (h.length ≤ h2.length ∧ sl ≤ sl2) ∧ ∀ (D : va_G) (ad adV : Nat → Nat) (ca : Nat → ClassId) (sz : Nat), Met l (xy j) (x_ws j) (x_rm (d + 4) (h2.length - h.length) (sl2 - sl)) (x_Pc D ad adV ca h sz as) (x_Qg D ad h.length sl sl2 h2 vs (va_A (cW ad ca h) sz)) (h2.length - h.length) (sl2 - sl) (va_A (cW ad ca h) sz) := by
  unfold C at hc
  cases hR : R d j (x_ent j as sl h) with
  | none => rw [hR] at hc; cases hc
  | some z =>
    rw [hR] at hc
    obtain ⟨pc2, ls2, st2, sl3, h3⟩ := z
    dsimp only at hc
    cases hv : x_ret (xrk j) (xk j pc2).1 st2 with
    | none => rw [hv] at hc; cases hc
    | some vs' =>
      rw [hv] at hc
      cases hc
      obtain ⟨F, hF⟩ := R_iff.mp hR
      unfold x_ent at hF
      cases hble : Nat.ble (x_args as).length (xmL j) with
      | false => rw [hble] at hF; rw [run_dead rfl (xk_bad j)] at hF; cases hF
      | true =>
        rw [hble] at hF
        have hmo := run_mono xk_bad hF
        refine ⟨hmo, fun D ad adV ca sz => x_met (d := d + 4) (ls2 := ls2) hJ hv (x_retdg hj hv) (Nat.le_of_ble_eq_true hble) hwas hwh hmo ?_⟩
        intro p e s m args below meth c Q A C2 hend
        exact x_sne HJ F d j 0 (x_pad (xmL j) (x_args as)) [] sl h pc2 ls2 st2 sl2 h2 hj hF C2 (by show _ ≤ (h2.length - h.length) + h.length; omega) (by show _ ≤ (sl2 - sl) + sl; omega) hlt hbig hend
/-- what a frame outside the abstract machine stands on -/
def LG (p : Program) (s : State) (m : MethodId) (c : Code) (args : Array Value) (cc : ByteArray) (nL : Nat) (own : String) (D : va_G) (ad0 adV : Nat → Nat) (A : Nat → Prop) : Prop := p.tables.exec = Jvm.exec ∧ c.code = cc ∧ c.maxLocals = nL ∧ s.vm.findClass own = some m.cls ∧ (∀ w ∈ TG, w.before args s = true) ∧ x_St D ad0 adV A s ∧ ∀ q, s.heap.size ≤ q → A q
/-- the cells h lie in the heap H -/
def LO (D : va_G) (A : Nat → Prop) (s : State) (ad0 ad : Nat → Nat) (ca : Nat → ClassId) (h : List AC) (H : Heap) : Prop := ag 0 ad0 ad ∧ va_P D vwCl (cW ad ca h) H ∧ va_D A (cW ad ca h) ∧ (∀ k t q, h[k]? = some (.inl (t, q)) → ArrOfT s (ca k) (tyT t) ∧ va_RA s (ca k) (tyT t)) ∧ ∀ c ∈ h, wC h.length c
theorem cW_ad {ad : Nat → Nat} {ca : Nat → ClassId} {h : List AC} {i : Nat} (hi : i < h.length) : ∃ e, (cW ad ca h)[i]? = some (ad i, e) := by
  have : h[i]? = some h[i] := List.getElem?_eq_getElem hi
  exact ⟨_, cW_at this⟩
theorem LO_lt {D : va_G} {A : Nat → Prop} {s : State} {ad0 ad : Nat → Nat} {ca : Nat → ClassId} {h : List AC} {H : Heap} (hO : LO D A s ad0 ad ca h H) {i : Nat} (hi : i < h.length) : ad i < H.size ∧ A (ad i) := by
  obtain ⟨e, he⟩ := cW_ad (ad := ad) (ca := ca) hi
  exact ⟨(hO.2.1 i _ he).lt, hO.2.2.1.2 i _ he⟩
theorem LO_kept {D : va_G} {A : Nat → Prop} {s : State} {ad0 ad : Nat → Nat} {ca : Nat → ClassId} {h : List AC} {H H1 : Heap} (hO : LO D A s ad0 ad ca h H) (hk : ∀ i, i < h.length → H1[ad i]? = H[ad i]?) : LO D A s ad0 ad ca h H1 := by
  refine ⟨hO.1, hO.2.1.kept (fun k q hq => ?_), hO.2.2.1, hO.2.2.2⟩
  obtain ⟨c, h1, h2⟩ := cW_at' hq
  rw [h2]
  exact hk k (List.getElem?_eq_some_iff.mp h1).1
section LWC
variable {p : Program} {l : Launch} {e : Env} {R9 : Room} {s : State} {m : MethodId} {args : Array Value} {below : List Frame} {meth : Method} {c : Code} {Q : State → Prop} {cc : ByteArray} {nL : Nat} {own : String} {D : va_G} {ad0 adV : Nat → Nat} {A : Nat → Prop}
theorem LO_sub {ad : Nat → Nat} {ca : Nat → ClassId} {h : List AC} {H : Heap} {locs : List Loc} (hO : LO D A s ad0 ad ca h H) (hS : va_S A s.heap H locs) (hA : ∀ q, s.heap.size ≤ q → A q) : ∀ q, va_A (cW ad ca h) H.size q → A q := by
  intro q hq
  rcases hq with ⟨k, e9, hk⟩ | hq
  · exact hO.2.2.1.2 k (q, e9) hk
  · exact hA q (Nat.le_trans hS.1 hq)
theorem LO_pre {ad : Nat → Nat} {ca : Nat → ClassId} {h : List AC} {H : Heap} {locs : List Loc} (G : LG p s m c args cc nL own D ad0 adV A) (hO : LO D A s ad0 ad ca h H) (hS : va_S A s.heap H locs) (as : List Value) : ∀ U : State, U.heap = H → s.WarmedH U.vm → x_Pc D ad adV ca h H.size as (as.map (cv ad)).toArray U := by
  intro U hU hW
  obtain ⟨hx, hb, hml, hown, hts, hSt, hA⟩ := G
  refine ⟨rfl, by rw [hU], ⟨by rw [hU]; exact hO.2.1, hO.2.2.1.weaken (fun _ _ _ _ => trivial), fun k t q hk => ⟨arrOfT_moved hW.alike (hO.2.2.2.1 k t q hk).1, (hO.2.2.2.1 k t q hk).2.moved hW.alike⟩⟩, ?_⟩
  exact x_St_go (n := 0) hW hSt (fun a ha hna => by rw [hU]; exact hS.2.1 a ha hna) (LO_sub hO hS hA) hO.1
/-- behind a call -/
theorem LO_call {ad : Nat → Nat} {ca : Nat → ClassId} {h h2 : List AC} {H : Heap} {locs : List Loc} {cells slots pc sl2 mc ms : Nat} {la : Array Slot} {st0 rest vs : List Value} {a : Array Value} (G : LG p s m c args cc nL own D ad0 adV A) (hO : LO D A s ad0 ad ca h H) (hS : va_S A s.heap H locs)
    (hr : va_Run p l e R9 s m args below meth c H locs cells slots mc ms (F0 m pc la st0) rest (x_Qg D ad h.length 0 sl2 h2 vs (va_A (cW ad ca h) H.size) a) (va_A (cW ad ca h) H.size))
    (kk : ∀ (ad' : Nat → Nat) (ca' : Nat → ClassId) (H1 : Heap) (locs1 : List Loc), LO D A s ad0 ad' ca' h2 H1 → ag h.length ad ad' → (∀ i, i < h2.length → va_A (cW ad ca h) H.size (ad' i)) → (∀ q : Nat, q < H.size → ¬ va_A (cW ad ca h) H.size q → H1[q]? = H[q]?) → H.size ≤ H1.size → va_S A s.heap H1 locs1 → W p l e R9 s m args below meth c H1 locs1 (cells + mc) (slots + ms) Q (F0 m (pc + 3) la (vs.map (cv ad') ++ rest))) : W p l e R9 s m args below meth c H locs cells slots Q (F0 m pc la st0) := by
  obtain ⟨hx, hb, hml, hown, hts, hSt, hA⟩ := G
  have hsub := LO_sub hO hS hA
  intro T hT X
  obtain ⟨v, st₀, t, T', L, h0, X', hL, e1, e2, ⟨⟨v', u, hv, hvs, hag, hpure, hb9⟩, hz, hk⟩, st⟩ := hr T hT X
  cases hv
  rw [h0] at hz hk
  rw [hvs] at st
  have hvm : s.vm.Alike t.vm := by rw [← e2]; exact X'.warmed.alike
  have hO2 : LO D A s ad0 u.1 u.2 h2 T'.heap := ⟨ag_tr hO.1 hag (Nat.zero_le _), by rw [e1]; exact hb9.1, hb9.2.1.weaken (fun k q _ hq => hsub _ hq), fun k t9 q hk => ⟨arrOfT_moved hvm.symm (hb9.2.2 k t9 q hk).1, (hb9.2.2 k t9 q hk).2.moved hvm.symm⟩, hpure.2.2.1⟩
  obtain ⟨t2, a1, b1⟩ := kk u.1 u.2 T'.heap (locs ++ L) hO2 hag (fun i hi => by
      obtain ⟨e9, he⟩ := cW_ad (ad := u.1) (ca := u.2) hi
      exact hb9.2.1.2 i _ he) (fun q h1 h2 => by rw [e1]; exact hk q h1 h2) (by rw [e1]; exact hz)
    ⟨Nat.le_trans hS.1 (by rw [e1]; exact hz), fun q h1 h2 => by rw [e1, hk q (Nat.lt_of_lt_of_le h1 hS.1) (fun z => h2 (hsub q z))]; exact hS.2.1 q h1 h2, fun q hq => by
      rcases List.mem_append.mp hq with h | h
      · exact hS.2.2 q h
      · exact hsub _ (hL q h)⟩ T' rfl X'
  exact ⟨t2, st t2 a1, b1⟩
/-- a call of an instance's method -/
theorem LO_cv {ad : Nat → Nat} {ca : Nat → ClassId} {h h2 : List AC} {H : Heap} {locs : List Loc} {cells slots pc sl2 q0 j kc d a : Nat} {la : Array Slot} {t rest vs : List Value} (G : LG p s m c args cc nL own D ad0 adV A) (hO : LO D A s ad0 ad ca h H) (hS : va_S A s.heap H locs) (hdg : decode cc pc = .ok (.invokevirtual q0, 3)) (hla : la.size = nL)
    (hrc : x_rcv h kc (.ref a :: t) = true) (hV : kc ≠ 99 ∧ ∃ q, vwCl[kc]? = some q ∧ q.1 = (xy j).cls) (hJ : x_J j) (hl : Cond.methodLink own q0 (xy j) ∈ TG) (hs : Cond.instanceMethod (xy j) ∈ TG) (hse : Cond.selects (xy j).cls (xy j) (xy j) ∈ TG) (hnp : (parseMethodDescriptor (xy j).desc).map (fun d => d.parameters.length) = some t.length)
    (hM : ∀ (D : va_G) (ad adV : Nat → Nat) (ca : Nat → ClassId) (sz : Nat), Met l (xy j) (x_ws j) (x_rm d (h2.length - h.length) (sl2 - 0)) (x_Pc D ad adV ca h sz (.ref a :: t)) (x_Qg D ad h.length 0 sl2 h2 vs (va_A (cW ad ca h) sz)) (h2.length - h.length) (sl2 - 0) (va_A (cW ad ca h) sz))
    (hfr : d + 2 ≤ R9.frames) (hlo : 41 * (d + 2) ≤ R9.locals) (hcb : cells + (h2.length - h.length) ≤ R9.cells) (hsb : slots + sl2 ≤ R9.slots) (hcat : (rest.map fun v => v.category).sum ≤ 8)
    (kk : ∀ (ad' : Nat → Nat) (ca' : Nat → ClassId) (H1 : Heap) (locs1 : List Loc), LO D A s ad0 ad' ca' h2 H1 → ag h.length ad ad' → (∀ i, i < h2.length → va_A (cW ad ca h) H.size (ad' i)) → (∀ q : Nat, q < H.size → ¬ va_A (cW ad ca h) H.size q → H1[q]? = H[q]?) → H.size ≤ H1.size → va_S A s.heap H1 locs1 → W p l e R9 s m args below meth c H1 locs1 (cells + (h2.length - h.length)) (slots + sl2) Q (F0 m (pc + 3) la (vs.map (cv ad') ++ rest))) : W p l e R9 s m args below meth c H locs cells slots Q (F0 m pc la ((t.map (cv ad)).reverse ++ .ref (ad a) :: rest)) := by
  have G' := G
  obtain ⟨hx, hb, hml, hown, hts, hSt, hA⟩ := G
  have hcell : ∃ cellB : Cell, H[ad a]? = some cellB ∧ cellB.vm.isStatics = false ∧ s.vm.findClass (xy j).cls = some cellB.cls := by
    unfold x_rcv at hrc
    dsimp only at hrc
    split at hrc
    · rename_i ci fs hcell
      rw [x_at_eq] at hcell
      have e1 := Nat.eq_of_beq_eq_true hrc
      subst e1
      have he := cW_at (ad := ad) (ca := ca) hcell
      obtain ⟨-, q, hq1, hq2⟩ := hV
      rw [← hq2]
      exact va_recv hSt.1 hO.2.1 hq1 he
    · simp only [Bool.and_eq_true] at hrc
      exact absurd (Nat.eq_of_beq_eq_true hrc.1) hV.1
  have hpre := LO_pre G' hO hS (.ref a :: t)
  exact LO_call (a := (.ref (ad a) :: t.map (cv ad)).toArray) G' hO hS (va_runV (C := (xy j).cls) (As := t.map (cv ad)) (rest := rest) (Ts := TG) ⟨hx, hb, hml, hown, hts⟩ (hM D ad adV ca H.size) ⟨callB_of t.length hts (x_ws_good hJ) rfl rfl rfl (hts _ hJ.2.1) (hts _ hl) ⟨hJ.2.2.2.1.1, hJ.2.2.2.1.2, hnp⟩ ⟨by show d + 1 + 1 ≤ _; omega, by show 8 + (xmL j + 11) + 41 * (d + 1) ≤ _; have := hJ.2.2.2.2.1; omega⟩, hts _ hs, hts _ hse⟩ ⟨x_Pc_blind, hcell, hpre⟩ rfl (by simp) hla rfl (lv_room hcat) hdg ⟨by omega, by omega⟩) kk
/-- a constructor's call -/
theorem LO_ci {ad : Nat → Nat} {ca : Nat → ClassId} {h h2 : List AC} {H : Heap} {locs : List Loc} {cells slots pc sl2 q0 j d a : Nat} {la : Array Slot} {t rest vs : List Value} (G : LG p s m c args cc nL own D ad0 adV A) (hO : LO D A s ad0 ad ca h H) (hS : va_S A s.heap H locs) (hdg : decode cc pc = .ok (.invokespecial q0, 3)) (hla : la.size = nL)
    (hJ : x_J j) (hl : Cond.methodLink own q0 (xy j) ∈ TG) (hs : Cond.instanceMethod (xy j) ∈ TG) (hy1 : (xy j).name = "<init>") (hrt : xrt j = none) (hnp : (parseMethodDescriptor (xy j).desc).map (fun d => d.parameters.length) = some t.length)
    (hM : ∀ (D : va_G) (ad adV : Nat → Nat) (ca : Nat → ClassId) (sz : Nat), Met l (xy j) (x_ws j) (x_rm d (h2.length - h.length) (sl2 - 0)) (x_Pc D ad adV ca h sz (.ref a :: t)) (x_Qg D ad h.length 0 sl2 h2 vs (va_A (cW ad ca h) sz)) (h2.length - h.length) (sl2 - 0) (va_A (cW ad ca h) sz))
    (hfr : d + 2 ≤ R9.frames) (hlo : 41 * (d + 2) ≤ R9.locals) (hcb : cells + (h2.length - h.length) ≤ R9.cells) (hsb : slots + sl2 ≤ R9.slots) (hcat : (rest.map fun v => v.category).sum ≤ 8)
    (kk : ∀ (ad' : Nat → Nat) (ca' : Nat → ClassId) (H1 : Heap) (locs1 : List Loc), LO D A s ad0 ad' ca' h2 H1 → ag h.length ad ad' → (∀ i, i < h2.length → va_A (cW ad ca h) H.size (ad' i)) → (∀ q : Nat, q < H.size → ¬ va_A (cW ad ca h) H.size q → H1[q]? = H[q]?) → H.size ≤ H1.size → va_S A s.heap H1 locs1 → W p l e R9 s m args below meth c H1 locs1 (cells + (h2.length - h.length)) (slots + sl2) Q (F0 m (pc + 3) la (vs.map (cv ad') ++ rest))) : W p l e R9 s m args below meth c H locs cells slots Q (F0 m pc la ((t.map (cv ad)).reverse ++ .ref (ad a) :: rest)) := by
  have G' := G
  obtain ⟨hx, hb, hml, hown, hts, hSt, hA⟩ := G
  have hpre := LO_pre G' hO hS (.ref a :: t)
  have hws : x_ws j = Cond.code (xy j) (xb j) (xmL j) none :: TG := by unfold x_ws; rw [hrt]
  exact LO_call (a := (.ref (ad a) :: t.map (cv ad)).toArray) G' hO hS (va_runI (As := t.map (cv ad)) (rest := rest) (Ts := TG) ⟨hx, hb, hml, hown, hts⟩ (hM D ad adV ca H.size) ⟨callB_of t.length hts (x_ws_good hJ) hws rfl rfl (hts _ hJ.2.1) (hts _ hl) ⟨hJ.2.2.2.1.1, hJ.2.2.2.1.2, hnp⟩ ⟨by show d + 1 + 1 ≤ _; omega, by show 8 + (xmL j + 11) + 41 * (d + 1) ≤ _; have := hJ.2.2.2.2.1; omega⟩, hy1, hts _ hs⟩ ⟨x_Pc_blind, hpre⟩ rfl (by simp) hla rfl (lv_room hcat) hdg ⟨by omega, by omega⟩) kk
end LWC
