/-! A CALL IN A METHOD -/
section XCL
variable {p : Program} {l : Launch} {e : Env} {R9 : Room} {s : State} {m : MethodId} {args : Array Value} {below : List Frame} {meth : Method} {c : Code} {Q : State → Prop} {D : va_G} {ad0 adV : Nat → Nat} {A : Nat → Prop} {n0 s0 : Nat}
theorem x_sub {pc : Nat} {ls : XL} {st : List Value} {sl : Nat} {h : List AC} {ad : Nat → Nat} {ca : Nat → ClassId} {H : Heap} {locs : List Loc} {cells slots nL : Nat} {la : Array Slot} (hp : x_Ph D ad0 A n0 s0 nL s (pc, ls, st, sl, h) ad ca H locs cells slots la) (hA : ∀ q, s.heap.size ≤ q → A q) : ∀ q, va_A (cW ad ca h) H.size q → A q := by
  intro q hq
  rcases hq with ⟨k, e9, hk⟩ | hq
  · exact hp.2.2.1.2 k (q, e9) hk
  · exact hA q (Nat.le_trans hp.2.2.2.1.1 hq)
/-- what the callee asks for -/
theorem x_pre {i d : Nat} {pc : Nat} {ls : XL} {st : List Value} {sl : Nat} {h : List AC} {ad : Nat → Nat} {ca : Nat → ClassId} {H : Heap} {locs : List Loc} {cells slots nL : Nat} {la : Array Slot} (C : x_Cx i d D ad0 adV A p R9 s m args meth c) (hp : x_Ph D ad0 A n0 s0 nL s (pc, ls, st, sl, h) ad ca H locs cells slots la) (as : List Value) : ∀ U : State, U.heap = H → s.WarmedH U.vm → x_Pc D ad adV ca h H.size as (as.map (cv ad)).toArray U := by
  intro U hU hW
  obtain ⟨hx, hb, hml, hown, hts, hSt, hA, hnm, hfr, hlo⟩ := C
  refine ⟨rfl, by rw [hU], ⟨by rw [hU]; exact hp.2.1, hp.2.2.1.weaken (fun _ _ _ _ => trivial), fun k t q hk => ⟨arrOfT_moved hW.alike (hp.2.2.2.2.1 k t q hk).1, (hp.2.2.2.2.1 k t q hk).2.moved hW.alike⟩⟩, ?_⟩
  exact x_St_go (n := n0) hW hSt (fun a ha hna => by rw [hU]; exact hp.2.2.2.1.2.1 a ha hna) (x_sub hp hA) hp.1
/-- behind a call -/
theorem x_after {i d : Nat} {pc : Nat} {ls : XL} {st rest : List Value} {sl : Nat} {h : List AC} {ad : Nat → Nat} {ca : Nat → ClassId} {H : Heap} {locs : List Loc} {cells slots nL : Nat} {la : Array Slot} {sl2 : Nat} {h2 : List AC} {vs : List Value} {a : Array Value} {st0 : List Value} (C : x_Cx i d D ad0 adV A p R9 s m args meth c) (hp : x_Ph D ad0 A n0 s0 nL s (pc, ls, st, sl, h) ad ca H locs cells slots la) (hrest : ∀ v ∈ rest, wv h.length v)
    (hr : va_Run p l e R9 s m args below meth c H locs cells slots (h2.length - h.length) (sl2 - sl) (F0 m pc la st0) (rest.map (cv ad)) (x_Qg D ad h.length sl sl2 h2 vs (va_A (cW ad ca h) H.size) a) (va_A (cW ad ca h) H.size))
    (k1 : x_At p l e R9 s m args below meth c Q D ad0 A n0 s0 nL (pc + 3, ls, vs ++ rest, sl2, h2)) : W p l e R9 s m args below meth c H locs cells slots Q (F0 m pc la st0) := by
  obtain ⟨hx, hb, hml, hown, hts, hSt, hA, hnm, hfr, hlo⟩ := C
  have hsub := x_sub hp hA
  refine x_callg hr hp.2.2.2.1 (fun q _ h => hsub q h) hsub (fun u t H1 locs1 ht hvm hag hpure hWo hS1 => ?_)
  obtain ⟨q1, q2, q3, q4, q5, q6, q7, q8, q9, q10, q11⟩ := hp
  dsimp only at q5 q6 q7 q8 q9 q10 q11
  obtain ⟨hle, hsle, hwh2, hwvs⟩ := hpure
  have hph : x_Ph D ad0 A n0 s0 nL s (pc + 3, ls, vs ++ rest, sl2, h2) u.1 u.2 H1 locs1 (cells + (h2.length - h.length)) (slots + (sl2 - sl)) la := by
    refine ⟨ag_tr q1 hag (by omega), by rw [← ht]; exact hWo.1, hWo.2.1.weaken (fun k q _ hq => hsub _ hq), hS1, fun k t9 q hk => ⟨arrOfT_moved hvm.symm (hWo.2.2 k t9 q hk).1, (hWo.2.2 k t9 q hk).2.moved hvm.symm⟩, hwh2, fun o ho v hv => wv_le hle (q7 o ho v hv), ?_, ⟨by dsimp only; omega, by dsimp only; omega⟩, by dsimp only; rw [lvL_ag hag q7]; exact q10, q11⟩
    intro v hv
    rcases List.mem_append.mp hv with z | z
    · exact hwvs v z
    · exact wv_le hle (hrest v z)
  have := k1 u.1 u.2 H1 locs1 _ _ la hph
  dsimp only at this
  rw [List.map_append, map_cv_ag hag hrest] at this
  exact this
theorem x_split {st : List Value} {k : Nat} (hk : k ≤ st.length) : st = ((st.take k).reverse).reverse ++ st.drop k := by rw [List.reverse_reverse, List.take_append_drop]
theorem x_inv_some {k : Nat} {st : List Value} {o : Option XO} {q : XO} (h : x_inv k st o = some q) : k ≤ st.length ∧ ((st.drop k).map fun v => v.category).sum ≤ 8 ∧ o = some q := by
  unfold x_inv at h
  cases hb : (Nat.ble k st.length && Nat.ble (x_cat (st.drop k)) 8) with
  | false => rw [hb] at h; cases h
  | true =>
    rw [hb] at h
    simp only [Bool.and_eq_true] at hb
    exact ⟨Nat.le_of_ble_eq_true hb.1, by rw [← x_cat_eq]; exact Nat.le_of_ble_eq_true hb.2, h⟩
/-- a static call -/
theorem s_cs {i d : Nat} (C : x_Cx i (d + 1) D ad0 adV A p R9 s m args meth c) {q0 j k x : Nat} {as rest : List Value} {v : Int32} {pc : Nat} {ls : XL} {st : List Value} {sl : Nat} {h : List AC} (hdg : decode (xb i) pc = .ok (.invokestatic q0, 3)) (hst : as = (st.take k).reverse ∧ rest = st.drop k ∧ k ≤ st.length ∧ ((st.drop k).map fun v => v.category).sum ≤ 8)
    (hJ : x_J j) (hl : Cond.methodLink (xy i).cls q0 (xy j) ∈ TG) (hs : Cond.static (xy j) ∈ TG) (hnp : (parseMethodDescriptor (xy j).desc).map (fun d => d.parameters.length) = some k)
    {sl2 : Nat} {h2 : List AC} {vs : List Value} (hM : ∀ ad ca sz, (∀ v ∈ as, wv h.length v) → (∀ c ∈ h, wC h.length c) → ag n0 ad0 ad → Met l (xy j) (x_ws j) (x_rm d (h2.length - h.length) (sl2 - sl)) (x_Pc D ad adV ca h sz as) (x_Qg D ad h.length sl sl2 h2 vs (va_A (cW ad ca h) sz)) (h2.length - h.length) (sl2 - sl) (va_A (cW ad ca h) sz))
    (hcb : h2.length ≤ R9.cells + n0) (hsb : sl2 ≤ R9.slots + s0) (hmono : h.length ≤ h2.length ∧ sl ≤ sl2)
    (k1 : x_At p l e R9 s m args below meth c Q D ad0 A n0 s0 (xmL i) (pc + 3, ls, vs ++ rest, sl2, h2)) : x_At p l e R9 s m args below meth c Q D ad0 A n0 s0 (xmL i) (pc, ls, st, sl, h) := by
  obtain ⟨rfl, rfl, hkl, hcat⟩ := hst
  intro ad ca H locs cells slots la hp
  have C' := C
  obtain ⟨hx, hb, hml, hown, hts, hSt, hA, hnm, hfr, hlo⟩ := C
  have hcs := hp.2.2.2.2.2.2.2.2.1
  dsimp only at hcs
  have hwst : ∀ v ∈ st, wv h.length v := Ph_v hp
  have hwas : ∀ v ∈ (st.take k).reverse, wv h.length v := fun v hv => hwst v (List.mem_of_mem_take (List.mem_reverse.mp hv))
  have hwr : ∀ v ∈ st.drop k, wv h.length v := fun v hv => hwst v (List.mem_of_mem_drop hv)
  have hstack : (F0 m pc la (st.map (cv ad))).stack = (((st.take k).reverse).map (cv ad)).reverse ++ (st.drop k).map (cv ad) := by
    show st.map (cv ad) = _
    rw [← List.map_reverse, List.reverse_reverse, ← List.map_append, List.take_append_drop]
  refine x_after (a := (((st.take k).reverse).map (cv ad)).toArray) C' hp hwr (va_runS (As := ((st.take k).reverse).map (cv ad)) (rest := (st.drop k).map (cv ad)) (Ts := TG) ⟨hx, hb, hml, hown, hts⟩ (hM ad ca H.size hwas hp.2.2.2.2.2.1 hp.1) ⟨callB_of k hts (x_ws_good hJ) rfl rfl rfl (hts _ hJ.2.1) (hts _ hl) ⟨hJ.2.2.2.1.1, hJ.2.2.2.1.2, hnp⟩ ⟨by show d + 1 + 1 ≤ _; omega, by show 8 + (xmL j + 11) + 41 * (d + 1) ≤ _; have := hJ.2.2.2.2.1; omega⟩, hts _ hs⟩ ⟨x_Pc_blind, x_pre C' hp _⟩ rfl (by simp [List.length_take]; omega) (Ph_len hp) hstack (lv_room (by rw [cat_map]; exact hcat)) hdg ⟨by omega, by omega⟩) k1
/-- the receiver of a call is an object of the class C -/
def x_Vc (k : Nat) (C : String) : Prop := (k ≠ 99 ∧ ∃ q, vwCl[k]? = some q ∧ q.1 = C) ∨ (k = 99 ∧ C = "DebtTable$Word")
theorem x_rcv_cell {i d : Nat} {pc : Nat} {ls : XL} {st : List Value} {sl : Nat} {h : List AC} {ad : Nat → Nat} {ca : Nat → ClassId} {H : Heap} {locs : List Loc} {cells slots nL : Nat} {la : Array Slot} (C : x_Cx i d D ad0 adV A p R9 s m args meth c) (hp : x_Ph D ad0 A n0 s0 nL s (pc, ls, st, sl, h) ad ca H locs cells slots la) {k : Nat} {N : String} (hV : x_Vc k N) {as : List Value} (hr : x_rcv h k as = true) : ∃ a t, as = .ref a :: t ∧ ∃ cellB : Cell, H[ad a]? = some cellB ∧ cellB.vm.isStatics = false ∧ s.vm.findClass N = some cellB.cls := by
  obtain ⟨hx, hb, hml, hown, hts, hSt, hA, hnm, hfr, hlo⟩ := C
  unfold x_rcv at hr
  split at hr
  · rename_i a t
    refine ⟨a, t, rfl, ?_⟩
    split at hr
    · rename_i ci fs hcell
      rw [x_at_eq] at hcell
      have e1 := Nat.eq_of_beq_eq_true hr
      subst e1
      have he := cW_at (ad := ad) (ca := ca) hcell
      rcases hV with ⟨-, q, hq1, hq2⟩ | ⟨h99, -⟩
      · rw [← hq2]
        exact va_recv hSt.1 hp.2.1 hq1 he
      · exfalso
        obtain ⟨r, hr1, -⟩ := hp.2.1 a _ he
        rw [h99] at hr1
        have hr2 : vwCl[99]? = some r := hr1
        rw [show vwCl[99]? = none from rfl] at hr2
        cases hr2
    · simp only [Bool.and_eq_true] at hr
      have e1 := Nat.eq_of_beq_eq_true hr.1
      rcases hV with ⟨hne, -⟩ | ⟨-, hN⟩
      · exact absurd e1 hne
      · obtain ⟨w, hw, rfl⟩ := x_isw_of hr.2
        rw [hN]
        have hcon := x_con_ag hp.1 hSt.2.2.2
        exact va_recvE hcon.1 (i := w) (by simpa [x_nms] using hw) hp.2.2.2.1
  · cases hr
/-- a call of an instance's method -/
theorem s_cv {i d : Nat} (C : x_Cx i (d + 1) D ad0 adV A p R9 s m args meth c) {q0 j k kc : Nat} {as rest : List Value} {pc : Nat} {ls : XL} {st : List Value} {sl : Nat} {h : List AC} (hdg : decode (xb i) pc = .ok (.invokevirtual q0, 3)) (hst : as = (st.take k).reverse ∧ rest = st.drop k ∧ k ≤ st.length ∧ ((st.drop k).map fun v => v.category).sum ≤ 8) (hrc : x_rcv h kc as = true) (hV : x_Vc kc (xy j).cls)
    (hJ : x_J j) (hl : Cond.methodLink (xy i).cls q0 (xy j) ∈ TG) (hs : Cond.instanceMethod (xy j) ∈ TG) (hse : Cond.selects (xy j).cls (xy j) (xy j) ∈ TG) (hnp : (parseMethodDescriptor (xy j).desc).map (fun d => d.parameters.length + 1) = some k)
    {sl2 : Nat} {h2 : List AC} {vs : List Value} (hM : ∀ ad ca sz, (∀ v ∈ as, wv h.length v) → (∀ c ∈ h, wC h.length c) → ag n0 ad0 ad → Met l (xy j) (x_ws j) (x_rm d (h2.length - h.length) (sl2 - sl)) (x_Pc D ad adV ca h sz as) (x_Qg D ad h.length sl sl2 h2 vs (va_A (cW ad ca h) sz)) (h2.length - h.length) (sl2 - sl) (va_A (cW ad ca h) sz))
    (hcb : h2.length ≤ R9.cells + n0) (hsb : sl2 ≤ R9.slots + s0) (hmono : h.length ≤ h2.length ∧ sl ≤ sl2)
    (k1 : x_At p l e R9 s m args below meth c Q D ad0 A n0 s0 (xmL i) (pc + 3, ls, vs ++ rest, sl2, h2)) : x_At p l e R9 s m args below meth c Q D ad0 A n0 s0 (xmL i) (pc, ls, st, sl, h) := by
  obtain ⟨has, rfl, hkl, hcat⟩ := hst
  intro ad ca H locs cells slots la hp
  have C' := C
  obtain ⟨hx, hb, hml, hown, hts, hSt, hA, hnm, hfr, hlo⟩ := C
  have hcs := hp.2.2.2.2.2.2.2.2.1
  dsimp only at hcs
  have hwst : ∀ v ∈ st, wv h.length v := Ph_v hp
  have hwas : ∀ v ∈ as, wv h.length v := fun v hv => by rw [has] at hv; exact hwst v (List.mem_of_mem_take (List.mem_reverse.mp hv))
  have hwr : ∀ v ∈ st.drop k, wv h.length v := fun v hv => hwst v (List.mem_of_mem_drop hv)
  obtain ⟨a, t, hat, hcell⟩ := x_rcv_cell C' hp hV hrc
  have hlen : t.length + 1 = k := by
    have h1 : as.length = k := by rw [has]; simp [List.length_take]; omega
    rw [hat] at h1
    simpa using h1
  have hstack : (F0 m pc la (st.map (cv ad))).stack = (t.map (cv ad)).reverse ++ .ref (ad a) :: (st.drop k).map (cv ad) := by
    show st.map (cv ad) = _
    have h1 : st = (t.reverse ++ [.ref a]) ++ st.drop k := by
      have : st.take k = t.reverse ++ [.ref a] := by
        have h2 : (st.take k).reverse.reverse = (.ref a :: t).reverse := by rw [← has, hat]
        rw [List.reverse_reverse] at h2
        rw [h2]; simp
      rw [← this, List.take_append_drop]
    calc st.map (cv ad) = ((t.reverse ++ [Value.ref a]) ++ st.drop k).map (cv ad) := by rw [← h1]
      _ = _ := by simp [cv]
  have hpre := x_pre C' hp as
  rw [hat] at hpre
  have hM' := hM ad ca H.size hwas hp.2.2.2.2.2.1 hp.1
  rw [hat] at hM'
  refine x_after (a := (.ref (ad a) :: t.map (cv ad)).toArray) C' hp hwr (va_runV (C := (xy j).cls) (As := t.map (cv ad)) (rest := (st.drop k).map (cv ad)) (Ts := TG) ⟨hx, hb, hml, hown, hts⟩ hM' ⟨callB_of t.length hts (x_ws_good hJ) rfl rfl rfl (hts _ hJ.2.1) (hts _ hl) ⟨hJ.2.2.2.1.1, hJ.2.2.2.1.2, ?_⟩ ⟨by show d + 1 + 1 ≤ _; omega, by show 8 + (xmL j + 11) + 41 * (d + 1) ≤ _; have := hJ.2.2.2.2.1; omega⟩, hts _ hs, hts _ hse⟩ ⟨x_Pc_blind, hcell, hpre⟩ rfl (by simp) (Ph_len hp) hstack (lv_room (by rw [cat_map]; exact hcat)) hdg ⟨by omega, by omega⟩) k1
  cases hq : parseMethodDescriptor (xy j).desc with
  | none => rw [hq] at hnp; cases hnp
  | some sg =>
    rw [hq] at hnp
    simp only [Option.map_some, Option.some.injEq] at hnp ⊢
    omega
/-- a constructor's call -/
theorem s_ci {i d : Nat} (C : x_Cx i (d + 1) D ad0 adV A p R9 s m args meth c) {q0 j k kc : Nat} {as rest : List Value} {pc : Nat} {ls : XL} {st : List Value} {sl : Nat} {h : List AC} (hdg : decode (xb i) pc = .ok (.invokespecial q0, 3)) (hst : as = (st.take k).reverse ∧ rest = st.drop k ∧ k ≤ st.length ∧ ((st.drop k).map fun v => v.category).sum ≤ 8) (hrc : x_rcv h kc as = true)
    (hJ : x_J j) (hl : Cond.methodLink (xy i).cls q0 (xy j) ∈ TG ∨ ∃ host, Cond.methodLinkNest (xy i).cls q0 (xy j) host ∈ x_nst) (hs : Cond.instanceMethod (xy j) ∈ TG) (hy1 : (xy j).name = "<init>") (hrt : xrt j = none) (hnp : (parseMethodDescriptor (xy j).desc).map (fun d => d.parameters.length + 1) = some k)
    {sl2 : Nat} {h2 : List AC} {vs : List Value} (hM : ∀ ad ca sz, (∀ v ∈ as, wv h.length v) → (∀ c ∈ h, wC h.length c) → ag n0 ad0 ad → Met l (xy j) (x_ws j) (x_rm d (h2.length - h.length) (sl2 - sl)) (x_Pc D ad adV ca h sz as) (x_Qg D ad h.length sl sl2 h2 vs (va_A (cW ad ca h) sz)) (h2.length - h.length) (sl2 - sl) (va_A (cW ad ca h) sz))
    (hcb : h2.length ≤ R9.cells + n0) (hsb : sl2 ≤ R9.slots + s0) (hmono : h.length ≤ h2.length ∧ sl ≤ sl2)
    (k1 : x_At p l e R9 s m args below meth c Q D ad0 A n0 s0 (xmL i) (pc + 3, ls, vs ++ rest, sl2, h2)) : x_At p l e R9 s m args below meth c Q D ad0 A n0 s0 (xmL i) (pc, ls, st, sl, h) := by
  obtain ⟨has, rfl, hkl, hcat⟩ := hst
  intro ad ca H locs cells slots la hp
  have C' := C
  obtain ⟨hx, hb, hml, hown, hts, hSt, hA, hnm, hfr, hlo⟩ := C
  have hcs := hp.2.2.2.2.2.2.2.2.1
  dsimp only at hcs
  have hwst : ∀ v ∈ st, wv h.length v := Ph_v hp
  have hwas : ∀ v ∈ as, wv h.length v := fun v hv => by rw [has] at hv; exact hwst v (List.mem_of_mem_take (List.mem_reverse.mp hv))
  have hwr : ∀ v ∈ st.drop k, wv h.length v := fun v hv => hwst v (List.mem_of_mem_drop hv)
  have hat : ∃ a t, as = .ref a :: t := by
    unfold x_rcv at hrc
    split at hrc
    · exact ⟨_, _, rfl⟩
    · cases hrc
  obtain ⟨a, t, hat⟩ := hat
  have hlen : t.length + 1 = k := by
    have h1 : as.length = k := by rw [has]; simp [List.length_take]; omega
    rw [hat] at h1
    simpa using h1
  have hstack : (F0 m pc la (st.map (cv ad))).stack = (t.map (cv ad)).reverse ++ .ref (ad a) :: (st.drop k).map (cv ad) := by
    show st.map (cv ad) = _
    have h1 : st = (t.reverse ++ [.ref a]) ++ st.drop k := by
      have : st.take k = t.reverse ++ [.ref a] := by
        have h2 : (st.take k).reverse.reverse = (.ref a :: t).reverse := by rw [← has, hat]
        rw [List.reverse_reverse] at h2
        rw [h2]; simp
      rw [← this, List.take_append_drop]
    calc st.map (cv ad) = ((t.reverse ++ [Value.ref a]) ++ st.drop k).map (cv ad) := by rw [← h1]
      _ = _ := by simp [cv]
  have hpre := x_pre C' hp as
  rw [hat] at hpre
  have hM' := hM ad ca H.size hwas hp.2.2.2.2.2.1 hp.1
  rw [hat] at hM'
  have hnp' : (parseMethodDescriptor (xy j).desc).map (fun d => d.parameters.length) = some t.length := by
    cases hq : parseMethodDescriptor (xy j).desc with
    | none => rw [hq] at hnp; cases hnp
    | some sg =>
      rw [hq] at hnp
      simp only [Option.map_some, Option.some.injEq] at hnp ⊢
      omega
  have hws : x_ws j = Cond.code (xy j) (xb j) (xmL j) none :: TG := by unfold x_ws; rw [hrt]
  rcases hl with hl | ⟨host, hl⟩
  · exact x_after (a := (.ref (ad a) :: t.map (cv ad)).toArray) C' hp hwr (va_runI (As := t.map (cv ad)) (rest := (st.drop k).map (cv ad)) (Ts := TG) ⟨hx, hb, hml, hown, hts⟩ hM' ⟨callB_of t.length hts (x_ws_good hJ) hws rfl rfl (hts _ hJ.2.1) (hts _ hl) ⟨hJ.2.2.2.1.1, hJ.2.2.2.1.2, hnp'⟩ ⟨by show d + 1 + 1 ≤ _; omega, by show 8 + (xmL j + 11) + 41 * (d + 1) ≤ _; have := hJ.2.2.2.2.1; omega⟩, hy1, hts _ hs⟩ ⟨x_Pc_blind, hpre⟩ rfl (by simp) (Ph_len hp) hstack (lv_room (by rw [cat_map]; exact hcat)) hdg ⟨by omega, by omega⟩) k1
  · exact x_after (a := (.ref (ad a) :: t.map (cv ad)).toArray) C' hp hwr (va_runIN (As := t.map (cv ad)) (rest := (st.drop k).map (cv ad)) (Ts := TG) ⟨hx, hb, hml, hown, hts⟩ hM' ⟨va_cnB t.length hts (x_ws_good hJ) hws rfl rfl (hSt.2.1 _ hl) (hts _ hJ.2.1) ⟨hJ.2.2.2.1.1, hJ.2.2.2.1.2, hnp'⟩ ⟨by show d + 1 + 1 ≤ _; omega, by show 8 + (xmL j + 11) + 41 * (d + 1) ≤ _; have := hJ.2.2.2.2.1; omega⟩, hy1, hts _ hs⟩ ⟨x_Pc_blind, hpre⟩ rfl (by simp) (Ph_len hp) hstack (lv_room (by rw [cat_map]; exact hcat)) hdg ⟨by omega, by omega⟩) k1
end XCL
