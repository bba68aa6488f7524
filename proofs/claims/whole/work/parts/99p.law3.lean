/-! THE LAW: a call of the class, then the same of the reference -/
theorem va_no {ad : Nat → Nat} {ca : Nat → ClassId} {h : List AC} {H : Heap} {q : Nat} (h1 : ∀ i, i < h.length → ad i ≠ q) (h2 : q < H.size) : ¬ va_A (cW ad ca h) H.size q := by
  rintro (⟨k, e, hk⟩ | hk)
  · obtain ⟨c, h3, h4⟩ := cW_at' hk
    exact h1 k (List.getElem?_eq_some_iff.mp h3).1 (Prod.mk.inj h4).1.symm
  · omega
theorem cv_ints {ad : Nat → Nat} : ∀ {t : List Value}, (∀ v ∈ t, ∃ x, v = .int x) → t.map (cv ad) = t
  | [], _ => rfl
  | v :: t, h => by
    obtain ⟨x, rfl⟩ := h v List.mem_cons_self
    rw [List.map_cons, cv_ints (fun v hv => h v (List.mem_cons_of_mem _ hv))]
    rfl
section LWD
variable {p : Program} {l : Launch} {e : Env} {R9 : Room} {s : State} {m : MethodId} {args : Array Value} {below : List Frame} {meth : Method} {c : Code} {Q : State → Prop} {cc : ByteArray} {nL : Nat} {own : String} {D : va_G} {ad0 adV : Nat → Nat} {A : Nat → Prop}
theorem LX_c {hc hc2 hr : List AC} {adc adr ado adc' : Nat → Nat} {cac car cao cac' : Nat → ClassId} {fo : Nat → Int64} {H H1 : Heap} {ax ar ao : Nat} (o2 : LO D A s ad0 adr car hr H) (o3 : LO D A s ad0 ado cao [.inl (1, 1, .inr (.inl fo))] H) (d1 : ∀ i j, i < hc.length → j < hr.length → adc i ≠ adr j) (d2 : ∀ i, i < hc.length → adc i ≠ ado 0) (d3 : ∀ j, j < hr.length → adr j ≠ ado 0) (e1 : adc 0 = ax) (e2 : adr 0 = ar) (e3 : ado 0 = ao) (h0 : 0 < hc.length)
    (q1 : LO D A s ad0 adc' cac' hc2 H1) (q2 : ag hc.length adc adc') (q3 : ∀ i, i < hc2.length → va_A (cW adc cac hc) H.size (adc' i)) (q4 : ∀ q : Nat, q < H.size → ¬ va_A (cW adc cac hc) H.size q → H1[q]? = H[q]?) : LX D A s ad0 hc2 hr ax ar ao H1 := by
  have n2 : ∀ j, j < hr.length → ¬ va_A (cW adc cac hc) H.size (adr j) := fun j hj => va_no (fun i hi => d1 i j hi hj) (LO_lt o2 hj).1
  have n3 : ¬ va_A (cW adc cac hc) H.size (ado 0) := va_no d2 (LO_lt o3 (i := 0) (Nat.zero_lt_succ _)).1
  refine ⟨adc', adr, ado, cac', car, cao, fo, q1, LO_kept o2 (fun j hj => q4 _ (LO_lt o2 hj).1 (n2 j hj)), LO_kept o3 (fun i hi => ?_), fun i j hi hj h => n2 j hj (by rw [← h]; exact q3 i hi), fun i hi h => n3 (by rw [← h]; exact q3 i hi), d3, by rw [q2 0 (Or.inl h0)]; exact e1, e2, e3⟩
  have : i = 0 := by simp at hi; omega
  subst this
  exact q4 _ (LO_lt o3 (i := 0) (Nat.zero_lt_succ _)).1 n3
theorem LX_r {hc hr hr2 : List AC} {adc adr ado adr' : Nat → Nat} {cac car cao car' : Nat → ClassId} {fo : Nat → Int64} {H H1 : Heap} {ax ar ao : Nat} (o1 : LO D A s ad0 adc cac hc H) (o3 : LO D A s ad0 ado cao [.inl (1, 1, .inr (.inl fo))] H) (d1 : ∀ i j, i < hc.length → j < hr.length → adc i ≠ adr j) (d2 : ∀ i, i < hc.length → adc i ≠ ado 0) (d3 : ∀ j, j < hr.length → adr j ≠ ado 0) (e1 : adc 0 = ax) (e2 : adr 0 = ar) (e3 : ado 0 = ao) (h0 : 0 < hr.length)
    (q1 : LO D A s ad0 adr' car' hr2 H1) (q2 : ag hr.length adr adr') (q3 : ∀ i, i < hr2.length → va_A (cW adr car hr) H.size (adr' i)) (q4 : ∀ q : Nat, q < H.size → ¬ va_A (cW adr car hr) H.size q → H1[q]? = H[q]?) : LX D A s ad0 hc hr2 ax ar ao H1 := by
  have n2 : ∀ j, j < hc.length → ¬ va_A (cW adr car hr) H.size (adc j) := fun j hj => va_no (fun i hi h => d1 j i hj hi h.symm) (LO_lt o1 hj).1
  have n3 : ¬ va_A (cW adr car hr) H.size (ado 0) := va_no d3 (LO_lt o3 (i := 0) (Nat.zero_lt_succ _)).1
  refine ⟨adc, adr', ado, cac, car', cao, fo, LO_kept o1 (fun j hj => q4 _ (LO_lt o1 hj).1 (n2 j hj)), q1, LO_kept o3 (fun i hi => ?_), fun i j hi hj h => n2 i hi (by rw [h]; exact q3 j hj), d2, fun j hj h => n3 (by rw [← h]; exact q3 j hj), e1, by rw [q2 0 (Or.inl h0)]; exact e2, e3⟩
  have : i = 0 := by simp at hi; omega
  subst this
  exact q4 _ (LO_lt o3 (i := 0) (Nat.zero_lt_succ _)).1 n3
/-- a call of the class -/
theorem LS_c (HJ : x_Je l) (hz0 : ∀ k, 2000000 ≤ k → ad0 k = k - 2000000) {H : Heap} {locs : List Loc} {cells slots pc q0 jc jr d ax ar ao : Nat} {la : Array Slot} {t rest : List Value} (G : LG p s m c args cc nL own D ad0 adV A) (hS : va_S A s.heap H locs) (hLS : LSt D A s ad0 ax ar ao H) (hOk : Ok d jc jr (.ref 0 :: t)) (ht : ∀ v ∈ t, ∃ x, v = .int x) (hj : jc < 282) (hdg : decode cc pc = .ok (.invokevirtual q0, 3)) (hla : la.size = nL)
    (hV : (10 : Nat) ≠ 99 ∧ ∃ q, vwCl[10]? = some q ∧ q.1 = (xy jc).cls) (hJ : x_J jc) (hl : Cond.methodLink own q0 (xy jc) ∈ TG) (hs : Cond.instanceMethod (xy jc) ∈ TG) (hse : Cond.selects (xy jc).cls (xy jc) (xy jc) ∈ TG) (hnp : (parseMethodDescriptor (xy jc).desc).map (fun d => d.parameters.length) = some t.length)
    (hfr : d + 6 ≤ R9.frames) (hlo : 41 * (d + 6) ≤ R9.locals) (hcb : cells + 1 ≤ R9.cells) (hsb : slots + 8 ≤ R9.slots) (hcat : (rest.map fun v => v.category).sum ≤ 8)
    (kk : ∀ (v : Int32) (H1 : Heap) (locs1 : List Loc), LM D A s ad0 ax ar ao d jr (.ref 0 :: t) v H1 → va_S A s.heap H1 locs1 → W p l e R9 s m args below meth c H1 locs1 (cells + 1) (slots + 8) Q (F0 m (pc + 3) la (.int v :: rest))) : W p l e R9 s m args below meth c H locs cells slots Q (F0 m pc la (t.reverse ++ .ref ax :: rest)) := by
  obtain ⟨I, Ac, N, V, lt, tw, sp, sr, J, w, B, M, hR, adc, adr, ado, cac, car, cao, fo, o1, o2, o3, d1, d2, d3, e1, e2, e3⟩ := hLS
  obtain ⟨v, I', A', N', V', lt', tw', sp', sr', X', sl', J', w', B', M', c1, c2, hR', s1, s2, hX⟩ := hOk 0 0 I Ac N V lt tw sp sr J w B M hR
  have hl1 := CH_len I Ac N V lt tw sp sr []
  have hl2 := CH_len I' A' N' V' lt' tw' sp' sr' X'
  simp only [List.length_nil] at hl1
  have hwas : ∀ v ∈ (Value.ref 0 :: t), wv (CH I Ac N V lt tw sp sr []).length v := by
    intro v hv
    rcases List.mem_cons.mp hv with rfl | hv
    · exact Or.inl (by show (0 : Nat) < _; omega)
    · obtain ⟨x, rfl⟩ := ht v hv
      trivial
  obtain ⟨hmo, hM⟩ := C_met HJ hj hJ c1 hwas o1.2.2.2.2 (by omega) (by omega)
  have hk := LO_cv (e := e) (below := below) (meth := meth) (R9 := R9) (cells := cells) (slots := slots) (locs := locs) (pc := pc) (d := d + 4) (Q := Q) (t := t) (rest := rest) (a := 0) (kc := 10) G o1 hS hdg hla rfl hV hJ hl hs hse hnp hM hfr hlo (by omega) (by omega) hcat (fun ad' ca' H1 locs1 q1 q2 q3 q4 q5 q6 => by
    refine W.widen (k := cells + 1) (n := slots + 8) (by omega) (by omega) ?_
    obtain ⟨V2, tw2, hR2, hL2⟩ := LX_cut hR' hX hz0 (LX_c o2 o3 d1 d2 d3 e1 e2 e3 (by omega) q1 q2 q3 q4)
    exact kk v H1 locs1 ⟨I', A', N', V2, lt', tw2, sp', sr', J, J', w, w', B, B', M, M', hR2, c2, hL2⟩ q6)
  rw [cv_ints ht, e1] at hk
  exact hk
/-- a call of the reference -/
theorem LS_r (HJ : x_Je l) {H : Heap} {locs : List Loc} {cells slots pc q0 jr d ax ar ao : Nat} {v : Int32} {la : Array Slot} {t rest : List Value} (G : LG p s m c args cc nL own D ad0 adV A) (hS : va_S A s.heap H locs) (hLM : LM D A s ad0 ax ar ao d jr (.ref 0 :: t) v H) (ht : ∀ v ∈ t, ∃ x, v = .int x) (hj : jr < 282) (hdg : decode cc pc = .ok (.invokevirtual q0, 3)) (hla : la.size = nL)
    (hV : (11 : Nat) ≠ 99 ∧ ∃ q, vwCl[11]? = some q ∧ q.1 = (xy jr).cls) (hJ : x_J jr) (hl : Cond.methodLink own q0 (xy jr) ∈ TG) (hs : Cond.instanceMethod (xy jr) ∈ TG) (hse : Cond.selects (xy jr).cls (xy jr) (xy jr) ∈ TG) (hnp : (parseMethodDescriptor (xy jr).desc).map (fun d => d.parameters.length) = some t.length)
    (hfr : d + 6 ≤ R9.frames) (hlo : 41 * (d + 6) ≤ R9.locals) (hcb : cells ≤ R9.cells) (hsb : slots ≤ R9.slots) (hcat : (rest.map fun v => v.category).sum ≤ 8)
    (kk : ∀ (H1 : Heap) (locs1 : List Loc), LSt D A s ad0 ax ar ao H1 → va_S A s.heap H1 locs1 → W p l e R9 s m args below meth c H1 locs1 cells slots Q (F0 m (pc + 3) la (.int v :: rest))) : W p l e R9 s m args below meth c H locs cells slots Q (F0 m pc la (t.reverse ++ .ref ar :: rest)) := by
  obtain ⟨I, Ac, N, V, lt, tw, sp, sr, J, J', w, w', B, B', M, M', hR, c2, adc, adr, ado, cac, car, cao, fo, o1, o2, o3, d1, d2, d3, e1, e2, e3⟩ := hLM
  have hwas : ∀ v ∈ (Value.ref 0 :: t), wv (RH J w B M).length v := by
    intro v hv
    rcases List.mem_cons.mp hv with rfl | hv
    · exact Or.inl (Nat.zero_lt_succ _)
    · obtain ⟨x, rfl⟩ := ht v hv
      trivial
  obtain ⟨hmo, hM⟩ := C_met HJ hj hJ c2 hwas o2.2.2.2.2 (by rw [RH_len]; decide) (by omega)
  have hk := LO_cv (e := e) (below := below) (meth := meth) (R9 := R9) (cells := cells) (slots := slots) (locs := locs) (pc := pc) (d := d + 4) (Q := Q) (t := t) (rest := rest) (a := 0) (kc := 11) G o2 hS hdg hla rfl hV hJ hl hs hse hnp hM hfr hlo (by show cells + 0 ≤ _; omega) (by omega) hcat (fun ad' ca' H1 locs1 q1 q2 q3 q4 q5 q6 => by
    exact kk H1 locs1 ⟨I, Ac, N, V, lt, tw, sp, sr, J', w', B', M', hR, LX_r o1 o3 d1 d2 d3 e1 e2 e3 (Nat.zero_lt_succ _) q1 q2 q3 q4⟩ q6)
  rw [cv_ints ht, e2] at hk
  exact hk
end LWD
