/-! A METHOD'S CONTRACT OUT OF ITS RUN; A CALL OUT OF THE CONTRACT -/
def x_rm (d mc ms : Nat) : Room := { frames := d + 1, cells := mc, slots := ms, locals := 41 * (d + 1) }
def x_ws (j : Nat) : List Cond := Cond.code (xy j) (xb j) (xmL j) (xrt j) :: TG
def x_Cx (i d : Nat) (D : va_G) (ad0 adV : Nat → Nat) (A : Nat → Prop) (p : Program) (R9 : Room) (s : State) (m : MethodId) (args : Array Value) (meth : Method) (c : Code) : Prop :=
  p.tables.exec = Jvm.exec ∧ c.code = xb i ∧ c.maxLocals = xmL i ∧ s.vm.findClass (xy i).cls = some m.cls ∧ (∀ w ∈ TG, w.before args s = true) ∧ x_St D ad0 adV A s ∧ (∀ q, s.heap.size ≤ q → A q) ∧ meth.name = (xy i).name ∧ d + 1 ≤ R9.frames ∧ 41 * (d + 1) ≤ R9.locals
def x_rkok (k : Nat) (r : Option FieldType) : Prop := (k = 0 ∧ r = none) ∨ (k = 1 ∧ r = some .int) ∨ (k = 2 ∧ r = some .boolean) ∨ (k = 3 ∧ r = some .long) ∨ (k = 4 ∧ ∃ n, r = some (.object n))
/-- what the tables say of method j -/
def x_J (j : Nat) : Prop := Cond.code (xy j) (xb j) (xmL j) (xrt j) ∈ TG ∧ Cond.initialized (xy j).cls ∈ TG ∧ plainName (xy j).cls = true ∧ ((xy j).cls ≠ "java/lang/invoke/MethodHandle" ∧ (xy j).cls ≠ "java/lang/invoke/VarHandle") ∧ xmL j ≤ 22 ∧ x_rkok (xrk j) (xrt j)
theorem x_ws_good {j : Nat} (hJ : x_J j) : GoodIn TG (x_ws j) := fun w hw => by
  rcases List.mem_cons.mp hw with q | q
  · rw [q]; exact TG_good _ hJ.1
  · exact TG_good w q
theorem x_met {l : Launch} {d j : Nat} {as : List Value} {sl : Nat} {h : List AC} {pc2 : Nat} {ls2 : XL} {st2 : List Value} {sl2 : Nat} {h2 : List AC} {vs : List Value} (hJ : x_J j) (hvs : x_ret (xrk j) (xk j pc2).1 st2 = some vs) (hdg : decode (xb j) pc2 = .ok ((xk j pc2).1, 1)) (hble : (x_args as).length ≤ xmL j) (hwas : ∀ v ∈ as, wv h.length v) (hwh : ∀ c ∈ h, wC h.length c) (hmono : h.length ≤ h2.length ∧ sl ≤ sl2)
    {D : va_G} {ad adV : Nat → Nat} {ca : Nat → ClassId} {sz : Nat}
    (HR : ∀ p e s m args below meth c Q A, x_Cx j d D ad adV A p (x_rm d (h2.length - h.length) (sl2 - sl)) s m args meth c → x_At p l e (x_rm d (h2.length - h.length) (sl2 - sl)) s m args below meth c Q D ad A h.length sl (xmL j) (pc2, ls2, st2, sl2, h2) → x_At p l e (x_rm d (h2.length - h.length) (sl2 - sl)) s m args below meth c Q D ad A h.length sl (xmL j) (0, x_pad (xmL j) (x_args as), [], sl, h)) :
    Met l (xy j) (x_ws j) (x_rm d (h2.length - h.length) (sl2 - sl)) (x_Pc D ad adV ca h sz as) (x_Qg D ad h.length sl sl2 h2 vs (va_A (cW ad ca h) sz)) (h2.length - h.length) (sl2 - sl) (va_A (cW ad ca h) sz) := by
  refine Met.ofW (cc := xb j) (maxL := xmL j) (ret := xrt j) hJ.2.2.1 rfl ?_
  intro p e s m args below meth c s₁ B hml hv
  obtain ⟨rfl, hsz, ⟨hP, hD0, hT⟩, hSt⟩ := hv
  have hx := B.exec
  have hb := B.bytes
  have hr := B.returns
  have hts := atoms_spec (ws := x_ws j) B.pre
  have hown : s.vm.findClass (xy j).cls = some m.cls := findClass_of_methodNamed B.named
  have hlocks := B.notSynchronized
  have hin : meth.name = (xy j).name := (name_of_methodNamed B.named B.method).1
  subst hsz
  have hD := hD0.self (sz := s.heap.size)
  have hA : ∀ q : Nat, s.heap.size ≤ q → va_A (cW ad ca h) s.heap.size q := fun q h => Or.inr h
  have hl := lv_entry (as.map (cv ad)) (n := xmL j) (by rw [x_args_len]; exact hble)
  rw [lg_entry_eq]
  generalize (lg_sl (as.map (cv ad)) ++ List.replicate (xmL j - (lg_sl (as.map (cv ad))).length) Slot.unset).toArray = la at hl ⊢
  have hCx : x_Cx j d D ad adV (va_A (cW ad ca h) s.heap.size) p (x_rm d (h2.length - h.length) (sl2 - sl)) s m (as.map (cv ad)).toArray meth c :=
    ⟨hx, hb, hml, hown, fun w hw => hts w (List.mem_cons_of_mem _ hw), hSt, hA, hin, Nat.le_refl _, Nat.le_refl _⟩
  have hPh : x_Ph D ad (va_A (cW ad ca h) s.heap.size) h.length sl (xmL j) s (0, x_pad (xmL j) (x_args as), [], sl, h) ad ca s.heap [] 0 0 la := by
    refine ⟨ag_rf, hP, hD, va_S.rf, hT, hwh, x_pad_wf (x_args_wf hwas), fun v hv => (by cases hv), ⟨Nat.zero_add _, Nat.zero_add _⟩, ⟨hl.1, hl.2.1, ?_⟩, x_pad_len _ _ hble⟩
    rintro ⟨k, w⟩ hq
    obtain ⟨v, e1, e2⟩ := mem_lvL.mp hq
    dsimp only at e1 e2
    rw [e2]
    have := x_args_mem (ad := ad) 0 k v (x_pad_at _ _ k v e1)
    rw [Nat.zero_add] at this
    exact hl.2.2 _ this
  refine HR p e s m _ below meth c _ _ hCx ?_ ad ca s.heap [] 0 0 la hPh
  -- the end
  intro ad' ca' H' locs' cells slots la' hp
  obtain ⟨h1, h2', h3, h4, h5, h6, h7, h8, h9, h10, h11⟩ := hp
  dsimp only at h2' h3 h5 h6 h7 h8 h9
  have hc1 : cells = h2.length - h.length := by omega
  have hc2 : slots = sl2 - sl := by omega
  subst hc1; subst hc2
  have fin : ∀ (v : Option Value) (t : State), v.toList = vs.map (cv ad') → (∀ w ∈ vs, wv h2.length w) → t.heap = H' → s.WarmedH t.vm → x_Qg D ad h.length sl sl2 h2 vs (va_A (cW ad ca h) s.heap.size) (as.map (cv ad)).toArray s (.returned v) t := by
    intro v t hv hw ht hW
    refine ⟨⟨v, (ad', ca'), rfl, hv, h1, ⟨hmono.1, hmono.2, h6, hw⟩, by show va_P D vwCl (cW ad' ca' h2) t.heap; rw [ht]; exact h2', h3, fun k t9 q hk => ⟨arrOfT_moved hW.alike (h5 k t9 q hk).1, (h5 k t9 q hk).2.moved hW.alike⟩⟩, h4.F ht⟩
  have hfr := h4.2.2
  have hrk := hJ.2.2.2.2.2
  unfold x_ret at hvs
  split at hvs
  · rename_i h00 hins
    cases hvs
    rw [hins] at hdg
    rcases hrk with ⟨q, r⟩ | ⟨q, r⟩ | ⟨q, r⟩ | ⟨q, r⟩ | ⟨q, r⟩ <;> rw [h00] at q <;> first | (cases q; done) | skip
    exact W.vret hx hb (by rw [hr, r]) (fun t ht hW => fin none t rfl (fun w hw => by cases hw) ht hW) hfr hdg
  · rename_i v h00 hins
    cases hvs
    rw [hins] at hdg
    rcases hrk with ⟨q, r⟩ | ⟨q, r⟩ | ⟨q, r⟩ | ⟨q, r⟩ | ⟨q, r⟩ <;> rw [h00] at q <;> first | (cases q; done) | skip
    exact W.iret (v := v) hx hb (by rw [hr, r]) (fun t ht hW => fin (some (.int v)) t rfl (fun w hw => by rw [List.mem_singleton.mp hw]; trivial) ht hW) hfr hdg
  · rename_i v h00 hins
    cases hbv : (decide (v = 0) || decide (v = 1)) with
    | false => rw [hbv] at hvs; cases hvs
    | true =>
      rw [hbv] at hvs
      cases hvs
      rw [hins] at hdg
      simp only [Bool.or_eq_true, decide_eq_true_eq] at hbv
      rcases hrk with ⟨q, r⟩ | ⟨q, r⟩ | ⟨q, r⟩ | ⟨q, r⟩ | ⟨q, r⟩ <;> rw [h00] at q <;> first | (cases q; done) | skip
      exact W.zret (v := v) (ty := .boolean) hx hb (by rw [hr, r]) (by rcases hbv with rfl | rfl <;> rfl) (fun t ht hW => fin (some (.int v)) t rfl (fun w hw => by rw [List.mem_singleton.mp hw]; trivial) ht hW) hfr hdg
  · rename_i v h00 hins
    cases hvs
    rw [hins] at hdg
    rcases hrk with ⟨q, r⟩ | ⟨q, r⟩ | ⟨q, r⟩ | ⟨q, r⟩ | ⟨q, r⟩ <;> rw [h00] at q <;> first | (cases q; done) | skip
    exact W.lret (v := v) hx hb (by rw [hr, r]) (fun t ht hW => fin (some (.long v)) t rfl (fun w hw => by rw [List.mem_singleton.mp hw]; trivial) ht hW) hfr hdg
  · rename_i v h00 hins
    cases hvs
    rw [hins] at hdg
    rcases hrk with ⟨q, r⟩ | ⟨q, r⟩ | ⟨q, r⟩ | ⟨q, r⟩ | ⟨q, r⟩ <;> rw [h00] at q <;> first | (cases q; done) | skip
    obtain ⟨n, r⟩ := r
    exact W.aret (v := .ref (ad' v)) (rt := .object n) hx hb (by rw [hr, r]) (Or.inl ⟨n, rfl⟩) (Or.inr ⟨_, rfl⟩) (fun t ht hW => fin (some (.ref (ad' v))) t rfl (fun w hw => by rw [List.mem_singleton.mp hw]; exact h8 _ List.mem_cons_self) ht hW) hfr hdg
  · rename_i h00 hins
    cases hvs
    rw [hins] at hdg
    rcases hrk with ⟨q, r⟩ | ⟨q, r⟩ | ⟨q, r⟩ | ⟨q, r⟩ | ⟨q, r⟩ <;> rw [h00] at q <;> first | (cases q; done) | skip
    obtain ⟨n, r⟩ := r
    exact W.aret (v := .null) (rt := .object n) hx hb (by rw [hr, r]) (Or.inl ⟨n, rfl⟩) (Or.inl rfl) (fun t ht hW => fin (some .null) t rfl (fun w hw => by rw [List.mem_singleton.mp hw]; trivial) ht hW) hfr hdg
  · cases hvs
