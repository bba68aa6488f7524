/-! MAKING CELLS, SWITCHES, CONSTANTS -/
section XMK
variable {p : Program} {l : Launch} {e : Env} {R9 : Room} {s : State} {m : MethodId} {args : Array Value} {below : List Frame} {meth : Method} {c : Code} {Q : State → Prop} {D : va_G} {ad0 : Nat → Nat} {A : Nat → Prop} {n0 s0 nL : Nat} {cc : ByteArray}
def up1 {α : Type} (f : Nat → α) (k : Nat) (v : α) : Nat → α := fun j => if j = k then v else f j
theorem up1_s {α : Type} {f : Nat → α} {k : Nat} {v : α} : up1 f k v k = v := by simp [up1]
theorem up1_n {α : Type} {f : Nat → α} {k j : Nat} {v : α} (h : j ≠ k) : up1 f k v j = f j := by simp [up1, h]
theorem lvL_ag {n : Nat} {ad ad' : Nat → Nat} {ls : XL} (h : ag n ad ad') (hw : wL n ls) : lvL ad' ls = lvL ad ls := by
  unfold lvL
  congr 1
  apply List.ext_getElem?
  intro j
  simp only [List.getElem?_mapIdx]
  cases e : ls[j]? with
  | none => rfl
  | some o =>
    cases o with
    | none => rfl
    | some v =>
      simp only [Option.map_some, Option.some.injEq, Prod.mk.injEq, true_and]
      exact cv_ag h (hw (some v) (List.mem_of_getElem? e) v rfl)
/-- one more cell -/
theorem Ph_push {pc pc' : Nat} {ls : XL} {st st' : List Value} {sl sl' : Nat} {h : List AC} {ad : Nat → Nat} {ca : Nat → ClassId} {H H1 : Heap} {locs locs1 : List Loc} {cells slots ns : Nat} {la : Array Slot} (hp : x_Ph D ad0 A n0 s0 nL s (pc, ls, st, sl, h) ad ca H locs cells slots la) {q : Nat} {cA : ClassId} {c1 : AC} {e1 : va_E} (hlt : h.length < 1000000) (he : e1 = cE (up1 ad h.length q) (up1 ca h.length cA) h.length c1) (hty : ∀ t r, c1 = .inl (t, r) → ArrOfT s cA (tyT t) ∧ va_RA s cA (tyT t)) (hw : wC (h.length + 1) c1) (hs : ∀ v ∈ st', wv (h.length + 1) v) (hsl : sl' = sl + ns)
    (hP : va_P D vwCl (cW ad ca h ++ [(q, e1)]) H1) (hD : va_D A (cW ad ca h ++ [(q, e1)])) (hS : va_S A s.heap H1 locs1) : x_Ph D ad0 A n0 s0 nL s (pc', ls, st', sl', h ++ [c1]) (up1 ad h.length q) (up1 ca h.length cA) H1 locs1 (cells + 1) (slots + ns) la := by
  obtain ⟨h1, h2, h3, h4, h5, h6, h7, h8, h9, h10, h11⟩ := hp
  dsimp only at h5 h6 h7 h8 h9 h10 h11
  have hg : ag h.length ad (up1 ad h.length q) := fun k hk => up1_n (by omega)
  have hc9 : ∀ k, k < h.length → up1 ca h.length cA k = ca k := fun k hk => up1_n (by omega)
  have hW : cW (up1 ad h.length q) (up1 ca h.length cA) (h ++ [c1]) = cW ad ca h ++ [(q, e1)] := by
    rw [cW_app, cW_ag hg hc9 h6, up1_s, he]
  have hlen : (h ++ [c1]).length = h.length + 1 := by simp
  refine ⟨ag_tr h1 hg (by omega), by show va_P D vwCl (cW _ _ (h ++ [c1])) H1; rw [hW]; exact hP, by show va_D A (cW _ _ (h ++ [c1])); rw [hW]; exact hD, hS, ?_, ?_, ?_, ?_, ?_, ?_, h11⟩
  · intro k t r hk
    dsimp only at hk
    by_cases hkl : k < h.length
    · rw [List.getElem?_append_left hkl] at hk
      rw [hc9 k hkl]
      exact h5 k t r hk
    · have hkl2 : k = h.length := by
        have := (List.getElem?_eq_some_iff.mp hk).1
        rw [hlen] at this
        omega
      subst hkl2
      rw [List.getElem?_concat_length] at hk
      rw [up1_s]
      exact hty t r (Option.some.inj hk)
  · intro x hx
    show wC (h ++ [c1]).length x
    rw [hlen]
    rcases List.mem_append.mp hx with q | q
    · exact wC_le (by omega) (h6 x q)
    · rw [List.mem_singleton.mp q]; exact hw
  · show wL (h ++ [c1]).length ls
    rw [hlen]
    exact fun o ho v hv => wv_le (by omega) (h7 o ho v hv)
  · show ∀ v ∈ st', wv (h ++ [c1]).length v
    rw [hlen]; exact hs
  · show cells + 1 + n0 = (h ++ [c1]).length ∧ slots + ns + s0 = sl'
    rw [hlen]; omega
  · show lv_has la nL (lvL (up1 ad h.length q) ls)
    rw [lvL_ag hg h7]; exact h10
theorem st_push {n : Nat} {ad : Nat → Nat} {q : Nat} {st : List Value} (hlt : n < 1000000) (hw : ∀ v ∈ st, wv n v) : st.map (cv (up1 ad n q)) = st.map (cv ad) := map_cv_ag (n := n) (fun k hk => up1_n (by omega)) hw
theorem s_new (hx : p.tables.exec = Jvm.exec) (hb : c.code = cc) {own : String} {Ts : List Cond} (hts : ∀ w ∈ Ts, w.before args s = true) (hown : s.vm.findClass own = some m.cls) (hK : va_K D vwCl [] s) (hA : ∀ q, s.heap.size ≤ q → A q) {q0 : Nat} {ci k : Nat} {v : Int32} {pc : Nat} {ls : XL} {st : List Value} {sl : Nat} {h : List AC} {b : Bool} {x1 x2 : XR} (hdg : decode cc pc = .ok (.new q0, 3)) (hd : dec (.new q0) (pc + 3) [ci, k] v pc ls st sl h = some (.inl (b, x1, x2)))
    {C : String} {T : u_T} (hc : vwCl[ci]? = some (C, T, k)) (hin : ∀ w ∈ u_ws C T k, w ∈ Ts) (ty0 : Nat → FieldType) (hty : ∀ j, j < k → parseFieldDescriptor (T j).2.2.1 = some (ty0 j)) (hcl : (Cond.classLink own q0 C).before args s = true) (hinst : (Cond.instantiable C k).before args s = true) (hini : (Cond.initialized C).before args s = true) (hdf : ∀ j, j < k → defaultValue (ty0 j) = vp_V (x_dfl ci) j) (hsc : ∀ v ∈ x_dfl ci, cv ad0 v = v ∧ ∀ ad n, cv ad v = v ∧ wv n v)
    (hlt : h.length < 1000000) (hcb : h.length + 1 ≤ R9.cells + n0) (hsb : sl + k ≤ R9.slots + s0)
    (k1 : b = true → x_At p l e R9 s m args below meth c Q D ad0 A n0 s0 nL x1) : x_At p l e R9 s m args below meth c Q D ad0 A n0 s0 nL (pc, ls, st, sl, h) := by
  simp only [dec] at hd
  cases h99 : Nat.beq ci 99 with
  | true => rw [h99] at hd; cases hd
  | false =>
    rw [h99] at hd
    obtain ⟨rfl, rfl⟩ := x_nx_eq hd
    intro ad ca H locs cells slots la hp
    have hcs := hp.2.2.2.2.2.2.2.2.1
    dsimp only at hcs
    refine va_new (D := D) (fs := x_dfl ci) hx hb hts hin ty0 hty hown hcl hinst hini hK hp.2.1 hp.2.2.1 hp.2.2.2.1 hA hc hdf (by omega) (by omega) hdg (fun q H1 hP hD hS => ?_)
    have hmap : (x_dfl ci).map (cv (up1 ad h.length q)) = x_dfl ci := by
      rw [List.map_congr_left (g := id) (fun v hv => ((hsc v hv).2 _ 0).1)]
      simp
    have hP1 := Ph_push (pc' := pc + 3) (st' := .ref h.length :: st) (sl' := sl + k) (ns := k) (cA := 0) (c1 := .inr (ci, x_dfl ci)) hp hlt (by simp only [cE]; rw [hmap]) (fun t r e => by cases e) (fun v hv => ((hsc v hv).2 ad0 _).2) (w_c (Or.inl (Nat.lt_succ_self _)) (fun v hv => wv_le (Nat.le_succ _) (Ph_v hp v hv))) rfl hP hD hS
    have := k1 rfl _ _ H1 locs (cells + 1) (slots + k) la hP1
    simp only [List.map_cons, cv, up1_s, st_push hlt (Ph_v hp)] at this
    exact this
theorem s_newarray (hx : p.tables.exec = Jvm.exec) (hb : c.code = cc) (hK : va_K D vwCl [] s) (hA : ∀ q, s.heap.size ≤ q → A q) {at0 : ArrayType} {t : Nat} {v : Int32} {pc : Nat} {ls : XL} {st : List Value} {sl : Nat} {h : List AC} {b : Bool} {x1 x2 : XR} (hdg : decode cc pc = .ok (.newarray at0, 2)) (hd : dec (.newarray at0) (pc + 2) [t] v pc ls st sl h = some (.inl (b, x1, x2)))
    (hty : newarray.typeOf at0 = tyT t) (ht : t < 4) (harr : (Cond.arrayClass (newarray.typeOf at0)).before args s = true)
    (hlt : h.length < 1000000) (hcb : x1.2.2.2.2.length ≤ R9.cells + n0) (hsb : x1.2.2.2.1 ≤ R9.slots + s0) (hbig : x1.2.2.2.1 ≤ 60000000)
    (k1 : b = true → x_At p l e R9 s m args below meth c Q D ad0 A n0 s0 nL x1) : x_At p l e R9 s m args below meth c Q D ad0 A n0 s0 nL (pc, ls, st, sl, h) := by
  simp only [dec] at hd
  split at hd
  · rename_i x st t' heq
    cases heq
    cases hx0 : decide (x < 0) with
    | true => rw [hx0] at hd; cases hd
    | false =>
      rw [hx0] at hd
      obtain ⟨rfl, rfl⟩ := x_nx_eq hd
      intro ad ca H locs cells slots la hp
      have hcs := hp.2.2.2.2.2.2.2.2.1
      dsimp only at hcs hcb hsb hbig
      simp only [List.length_append, List.length_cons, List.length_nil] at hcb
      have hcomp : componentBytes (tyT t) ≤ 8 := by
        rcases (show t = 0 ∨ t = 1 ∨ t = 2 ∨ t = 3 by omega) with rfl | rfl | rfl | rfl <;> decide
      refine va_newa (D := D) (ty := tyT t) (N' := x.toNatClampNeg) (a0 := (x.toNatClampNeg, cond (Nat.beq t 1) (.inr (.inl (fun _ => 0))) (.inl (fun _ => 0)))) hx hb harr hty hK hp.2.1 hp.2.2.1 hp.2.2.2.1 hA ?_ (by simpa using hx0) rfl ?_ (by omega) (by omega) hdg (fun q cA H1 hK1 hP hD hS => ?_)
      · intro cA
        rcases (show t = 0 ∨ t = 1 ∨ t = 2 ∨ t = 3 by omega) with rfl | rfl | rfl | rfl <;> rfl
      · have : x.toNatClampNeg * componentBytes (tyT t) ≤ x.toNatClampNeg * 8 := Nat.mul_le_mul_left _ hcomp
        omega
      · have hA1 : ArrOfT s cA (tyT t) ∧ va_RA s cA (tyT t) := hK1.2 0 (cA, tyT t) rfl
        have hP1 := Ph_push (pc' := pc + 2) (st' := .ref h.length :: st) (sl' := sl + x.toNatClampNeg) (ns := x.toNatClampNeg) (cA := cA) (c1 := .inl (t, x.toNatClampNeg, cond (Nat.beq t 1) (.inr (.inl (fun _ => 0))) (.inl (fun _ => 0)))) hp hlt ?_ (fun t2 r e => by cases e; exact hA1) ?_ (w_c (Or.inl (Nat.lt_succ_self _)) (fun v hv => wv_le (Nat.le_succ _) (Ph_v hp v (List.mem_cons_of_mem _ hv)))) rfl hP hD hS
        · have := k1 rfl _ _ H1 locs (cells + 1) (slots + x.toNatClampNeg) la hP1
          simp only [List.map_cons, cv, up1_s, st_push hlt (w_t (Ph_v hp))] at this
          exact this
        · rcases (show t = 0 ∨ t = 1 ∨ t = 2 ∨ t = 3 by omega) with rfl | rfl | rfl | rfl <;> (simp only [cE, up1_s]; rfl)
        · rcases (show t = 0 ∨ t = 1 ∨ t = 2 ∨ t = 3 by omega) with rfl | rfl | rfl | rfl <;> trivial
  · cases hd
theorem s_anewarray (hx : p.tables.exec = Jvm.exec) (hb : c.code = cc) {own : String} (hown : s.vm.findClass own = some m.cls) (hK : va_K D vwCl [] s) (hA : ∀ q, s.heap.size ≤ q → A q) {q0 : Nat} {t : Nat} {v : Int32} {pc : Nat} {ls : XL} {st : List Value} {sl : Nat} {h : List AC} {b : Bool} {x1 x2 : XR} (hdg : decode cc pc = .ok (.anewarray q0, 3)) (hd : dec (.anewarray q0) (pc + 3) [t] v pc ls st sl h = some (.inl (b, x1, x2)))
    {C : String} (hty : tyT t = .object C) (hcl : (Cond.classLink own q0 C).before args s = true) (hao : va_AO C s)
    (hlt : h.length < 1000000) (hcb : x1.2.2.2.2.length ≤ R9.cells + n0) (hsb : x1.2.2.2.1 ≤ R9.slots + s0) (hbig : x1.2.2.2.1 ≤ 60000000)
    (k1 : b = true → x_At p l e R9 s m args below meth c Q D ad0 A n0 s0 nL x1) : x_At p l e R9 s m args below meth c Q D ad0 A n0 s0 nL (pc, ls, st, sl, h) := by
  simp only [dec] at hd
  split at hd
  · rename_i x st t' heq
    cases heq
    cases hx0 : decide (x < 0) with
    | true => rw [hx0] at hd; cases hd
    | false =>
      rw [hx0] at hd
      obtain ⟨rfl, rfl⟩ := x_nx_eq hd
      intro ad ca H locs cells slots la hp
      have hcs := hp.2.2.2.2.2.2.2.2.1
      dsimp only at hcs hcb hsb hbig
      simp only [List.length_append, List.length_cons, List.length_nil] at hcb
      refine va_newq (D := D) (N' := x.toNatClampNeg) hx hb hown hcl hao hK hp.2.1 hp.2.2.1 hp.2.2.2.1 hA (by simpa using hx0) rfl (by omega) (by omega) (by omega) hdg (fun q cA H1 hK1 hP hD hS => ?_)
      have hA1 : ArrOfT s cA (tyT t) ∧ va_RA s cA (tyT t) := by rw [hty]; exact hK1.2 0 (cA, .object C) rfl
      have hP1 := Ph_push (pc' := pc + 3) (st' := .ref h.length :: st) (sl' := sl + x.toNatClampNeg) (ns := x.toNatClampNeg) (cA := cA) (c1 := .inl (t, x.toNatClampNeg, .inr (.inr (.inr (.inr (fun _ => none)))))) hp hlt (by simp only [cE, up1_s]; rfl) (fun t2 r e => by cases e; exact hA1) (fun j k e => by cases e) (w_c (Or.inl (Nat.lt_succ_self _)) (fun v hv => wv_le (Nat.le_succ _) (Ph_v hp v (List.mem_cons_of_mem _ hv)))) rfl hP hD hS
      have := k1 rfl _ _ H1 locs (cells + 1) (slots + x.toNatClampNeg) la hP1
      simp only [List.map_cons, cv, up1_s, st_push hlt (w_t (Ph_v hp))] at this
      exact this
  · cases hd
theorem cat_map (ad : Nat → Nat) (st : List Value) : (((st.map (cv ad)).map fun v => v.category).sum) = ((st.map fun v => v.category).sum) := by
  induction st with
  | nil => rfl
  | cons a t ih => simp only [List.map_cons, List.sum_cons, cat_cv, ih]
theorem i0 : (0 : Int32).toNatClampNeg = 0 := by decide
theorem cl_of {k : Int32} {n : Nat} (h : k = Int32.ofNat n) (hn : n ≤ 4096) : k.toNatClampNeg = n ∧ ¬ k < 0 := by
  subst h
  exact ⟨nI_clamp (n := n) (by omega), nI_pos (n := n) (by omega)⟩
theorem s_arraycopy (hx : p.tables.exec = Jvm.exec) (hb : c.code = cc) (hml : c.maxLocals = nL) {own : String} (hown : s.vm.findClass own = some m.cls) (hK : va_K D vwCl [] s) {q0 : Nat} {pc : Nat} {ls : XL} {st : List Value} {sl : Nat} {h : List AC} {b : Bool} {x1 x2 : XR} (hdg : decode cc pc = .ok (.invokestatic q0, 3)) (hd : x_cpy (pc + 3) ls st sl h = some (.inl (b, x1, x2)))
    (hlink : (Cond.methodLink own q0 arraycopyName).before args s = true) (hnat : (Cond.native arraycopyName).before args s = true) (hstat : (Cond.static arraycopyName).before args s = true) (hini : (Cond.initialized "java/lang/System").before args s = true)
    (hframes : 1 ≤ R9.frames) (hlocals : 41 ≤ R9.locals) (hst : ((st.drop 5).map fun v => v.category).sum ≤ 8)
    (k1 : b = true → x_At p l e R9 s m args below meth c Q D ad0 A n0 s0 nL x1) (k2 : b = false → x2.1 ≠ 65535) : x_At p l e R9 s m args below meth c Q D ad0 A n0 s0 nL (pc, ls, st, sl, h) := by
  unfold x_cpy at hd
  have hnw : nativeFrameWords "java/lang/System" "arraycopy" 5 + 11 ≤ 33 := by decide
  split at hd
  · rename_i k dp d sp s9 st
    have hst' : ((st.map (fun v => v.category)).sum) ≤ 8 := hst
    split at hd
    · rename_i m1 f m2 g hs hd9
      cases hsd : (!Nat.beq s9 d && Nat.ble m1 4096) with
      | false => rw [hsd] at hd; cases hd
      | true =>
        rw [hsd] at hd
        obtain ⟨hdl, hd⟩ := x_pk_some hd
        obtain ⟨rfl, rfl, rfl⟩ := x_br_eq hd
        intro ad ca H locs cells slots la hp
        cases hc9 : (decide (sp = 0) && decide (dp = 0) && decide (k = Int32.ofNat m1) && Nat.beq m1 m2) with
        | false => exact absurd rfl (k2 hc9)
        | true =>
          have hk1 := k1 hc9
          simp only [Bool.and_eq_true, decide_eq_true_eq] at hc9 hsd
          obtain ⟨⟨⟨rfl, rfl⟩, hk⟩, hm⟩ := hc9
          have hm12 := Nat.eq_of_beq_eq_true hm
          subst hm12
          have hle := Nat.le_of_ble_eq_true hsd.2
          obtain ⟨hkc, hkn⟩ := cl_of hk hle
          rw [x_at_eq] at hs hd9
          have hKK : va_K D vwCl [(ca s9, tyT 0), (ca d, tyT 0)] s := (Ph_K hp hK hs).app (Ph_K hp hK hd9)
          refine va_copyi (D := D) (ty := .int) hx hb (hml.trans (Ph_len hp).symm) hown hlink hnat hstat hini hKK hp.2.1 hp.2.2.1 hp.2.2.2.1 s9 d 0 1 (cW_at (ad := ad) (ca := ca) hs) (cW_at (ad := ad) (ca := ca) hd9) rfl rfl rfl (by decide) (by decide) hkn (by rw [i0, hkc]; omega) (by rw [i0, hkc]; omega) (fun _ _ => rfl) hframes (by rw [cat_map]; omega) hdg (fun H1 locs1 hP hD hS => ?_)
          rw [i0, hkc] at hP hD
          exact hk1 ad ca H1 locs1 cells slots la (Ph_set (c1 := .inl (0, m1, .inl (va_cpy f g 0 0 m1))) hp hd9 (fun t q e => by cases e; exact ⟨_, rfl⟩) trivial (w_t (w_t (w_t (w_t (w_t (Ph_v hp)))))) hP hD hS)
    · rename_i m1 f m2 g hs hd9
      cases hsd : (!Nat.beq s9 d && Nat.ble m1 4096) with
      | false => rw [hsd] at hd; cases hd
      | true =>
        rw [hsd] at hd
        obtain ⟨hdl, hd⟩ := x_pk_some hd
        obtain ⟨rfl, rfl, rfl⟩ := x_br_eq hd
        intro ad ca H locs cells slots la hp
        cases hc9 : (decide (sp = 0) && decide (dp = 0) && decide (k = Int32.ofNat m1) && Nat.beq m1 m2) with
        | false => exact absurd rfl (k2 hc9)
        | true =>
          have hk1 := k1 hc9
          simp only [Bool.and_eq_true, decide_eq_true_eq] at hc9 hsd
          obtain ⟨⟨⟨rfl, rfl⟩, hk⟩, hm⟩ := hc9
          have hm12 := Nat.eq_of_beq_eq_true hm
          subst hm12
          have hle := Nat.le_of_ble_eq_true hsd.2
          obtain ⟨hkc, hkn⟩ := cl_of hk hle
          rw [x_at_eq] at hs hd9
          have hKK : va_K D vwCl [(ca s9, tyT 1), (ca d, tyT 1)] s := (Ph_K hp hK hs).app (Ph_K hp hK hd9)
          refine va_copyl (D := D) (ty := .long) hx hb (hml.trans (Ph_len hp).symm) hown hlink hnat hstat hini hKK hp.2.1 hp.2.2.1 hp.2.2.2.1 s9 d 0 1 (cW_at (ad := ad) (ca := ca) hs) (cW_at (ad := ad) (ca := ca) hd9) rfl rfl rfl (by decide) (by decide) hkn (by rw [i0, hkc]; omega) (by rw [i0, hkc]; omega) (fun _ _ => rfl) hframes (by rw [cat_map]; omega) hdg (fun H1 locs1 hP hD hS => ?_)
          rw [i0, hkc] at hP hD
          exact hk1 ad ca H1 locs1 cells slots la (Ph_set (c1 := .inl (1, m1, .inr (.inl (va_cpy f g 0 0 m1)))) hp hd9 (fun t q e => by cases e; exact ⟨_, rfl⟩) trivial (w_t (w_t (w_t (w_t (w_t (Ph_v hp)))))) hP hD hS)
    · cases hd
  · cases hd
theorem x_cat_eq (st : List Value) : x_cat st = (st.map fun v => v.category).sum := by
  induction st with
  | nil => rfl
  | cons a t ih => simp only [x_cat, List.map_cons, List.sum_cons, ih]
theorem s_objInit (hx : p.tables.exec = Jvm.exec) (hb : c.code = cc) (hml : c.maxLocals = nL) {own : String} (hown : s.vm.findClass own = some m.cls) {q0 r0 : Nat} {v : Int32} {pc : Nat} {ls : XL} {st : List Value} {sl : Nat} {h : List AC} {b : Bool} {x1 x2 : XR} (hdg : decode cc pc = .ok (.invokespecial q0, 3)) (hd : dec (.invokespecial q0) (pc + 3) [1000, r0] v pc ls st sl h = some (.inl (b, x1, x2)))
    (hlink : (Cond.methodLink own q0 Lib.objectInit).before args s = true) (hinst : (Cond.instanceMethod Lib.objectInit).before args s = true) (hcode : (Cond.code Lib.objectInit ⟨#[0xb1]⟩ 1 none).before args s = true)
    (hframes : 1 ≤ R9.frames) (hlocals : 41 ≤ R9.locals)
    (k1 : b = true → x_At p l e R9 s m args below meth c Q D ad0 A n0 s0 nL x1) : x_At p l e R9 s m args below meth c Q D ad0 A n0 s0 nL (pc, ls, st, sl, h) := by
  simp only [dec] at hd
  split at hd
  · rename_i a st
    cases hc8 : Nat.ble (x_cat st) 8 with
    | false => rw [hc8] at hd; cases hd
    | true =>
      rw [hc8] at hd
      obtain ⟨rfl, rfl⟩ := x_nx_eq hd
      intro ad ca H locs cells slots la hp
      have hst' : ((st.map (fun v => v.category)).sum) ≤ 8 := by rw [← x_cat_eq]; exact Nat.le_of_ble_eq_true hc8
      refine W.objInit hx hb hown hlink hinst hcode rfl ((Ph_len hp).trans hml.symm) rfl hdg hframes ?_ (k1 rfl ad ca H locs cells slots la (Ph_st hp (w_t (Ph_v hp))))
      have := lv_room (m := m) (pc := pc) (ls := la) (rest := List.map (cv ad) (Value.ref a :: st)) (st := st.map (cv ad)) (by rw [cat_map]; exact hst')
      show 2 * (F0 m pc la (List.map (cv ad) (Value.ref a :: st))).monitorRoom + ((st.map (cv ad)).map fun v => v.category).sum + 12 ≤ R9.locals
      omega
  · cases hd
theorem s_mmax (hx : p.tables.exec = Jvm.exec) (hb : c.code = cc) (hml : c.maxLocals = nL) {own : String} (hown : s.vm.findClass own = some m.cls) {q0 r0 : Nat} {v : Int32} {pc : Nat} {ls : XL} {st : List Value} {sl : Nat} {h : List AC} {b : Bool} {x1 x2 : XR} (hdg : decode cc pc = .ok (.invokestatic q0, 3)) (hd : dec (.invokestatic q0) (pc + 3) [1005, r0] v pc ls st sl h = some (.inl (b, x1, x2)))
    (hlink : (Cond.methodLink own q0 Lib.Math.max.name).before args s = true) (hstat : (Cond.static Lib.Math.max.name).before args s = true) (hini : (Cond.initialized "java/lang/Math").before args s = true) (hcode : (Cond.code Lib.Math.max.name Lib.Math.max.code 2 (some .int)).before args s = true)
    (hframes : 1 ≤ R9.frames) (hlocals : 41 ≤ R9.locals) (hcb : h.length ≤ R9.cells + n0) (hsb : sl ≤ R9.slots + s0)
    (k1 : b = true → x_At p l e R9 s m args below meth c Q D ad0 A n0 s0 nL x1) : x_At p l e R9 s m args below meth c Q D ad0 A n0 s0 nL (pc, ls, st, sl, h) := by
  simp only [dec] at hd
  split at hd
  · rename_i y x st
    cases hc8 : Nat.ble (x_cat st) 8 with
    | false => rw [hc8] at hd; cases hd
    | true =>
      rw [hc8] at hd
      obtain ⟨rfl, rfl⟩ := x_nx_eq hd
      intro ad ca H locs cells slots la hp
      have hcs := hp.2.2.2.2.2.2.2.2.1
      dsimp only at hcs
      have hst' : ((st.map (fun v => v.category)).sum) ≤ 8 := by rw [← x_cat_eq]; exact Nat.le_of_ble_eq_true hc8
      exact va_mmax hx hb (hml.trans (Ph_len hp).symm) hown hlink hstat hini hcode hframes (by rw [cat_map]; omega) (by omega) (by omega) hdg (k1 rfl ad ca H locs cells slots la (Ph_st hp (w_c trivial (w_t (w_t (Ph_v hp))))))
  · cases hd
theorem s_mmin (hx : p.tables.exec = Jvm.exec) (hb : c.code = cc) (hml : c.maxLocals = nL) {own : String} (hown : s.vm.findClass own = some m.cls) {q0 r0 : Nat} {v : Int32} {pc : Nat} {ls : XL} {st : List Value} {sl : Nat} {h : List AC} {b : Bool} {x1 x2 : XR} (hdg : decode cc pc = .ok (.invokestatic q0, 3)) (hd : dec (.invokestatic q0) (pc + 3) [1006, r0] v pc ls st sl h = some (.inl (b, x1, x2)))
    (hlink : (Cond.methodLink own q0 Lib.Math.min.name).before args s = true) (hstat : (Cond.static Lib.Math.min.name).before args s = true) (hini : (Cond.initialized "java/lang/Math").before args s = true) (hcode : (Cond.code Lib.Math.min.name Lib.Math.min.code 2 (some .int)).before args s = true)
    (hframes : 1 ≤ R9.frames) (hlocals : 41 ≤ R9.locals) (hcb : h.length ≤ R9.cells + n0) (hsb : sl ≤ R9.slots + s0)
    (k1 : b = true → x_At p l e R9 s m args below meth c Q D ad0 A n0 s0 nL x1) : x_At p l e R9 s m args below meth c Q D ad0 A n0 s0 nL (pc, ls, st, sl, h) := by
  simp only [dec] at hd
  split at hd
  · rename_i y x st
    cases hc8 : Nat.ble (x_cat st) 8 with
    | false => rw [hc8] at hd; cases hd
    | true =>
      rw [hc8] at hd
      obtain ⟨rfl, rfl⟩ := x_nx_eq hd
      intro ad ca H locs cells slots la hp
      have hcs := hp.2.2.2.2.2.2.2.2.1
      dsimp only at hcs
      have hst' : ((st.map (fun v => v.category)).sum) ≤ 8 := by rw [← x_cat_eq]; exact Nat.le_of_ble_eq_true hc8
      exact va_mmin hx hb (hml.trans (Ph_len hp).symm) hown hlink hstat hini hcode hframes (by rw [cat_map]; omega) (by omega) (by omega) hdg (k1 rfl ad ca H locs cells slots la (Ph_st hp (w_c trivial (w_t (w_t (Ph_v hp))))))
  · cases hd
theorem s_ldc (hx : p.tables.exec = Jvm.exec) (hb : c.code = cc) {own : String} (hown : s.vm.findClass own = some m.cls) {q0 : Nat} {v : Int32} {pc : Nat} {ls : XL} {st : List Value} {sl : Nat} {h : List AC} {b : Bool} {x1 x2 : XR} (hdg : decode cc pc = .ok (.ldc q0, 2)) (hd : dec (.ldc q0) (pc + 2) [] v pc ls st sl h = some (.inl (b, x1, x2))) (hk : (Cond.constant own q0 v).before args s = true)
    (k1 : b = true → x_At p l e R9 s m args below meth c Q D ad0 A n0 s0 nL x1) : x_At p l e R9 s m args below meth c Q D ad0 A n0 s0 nL (pc, ls, st, sl, h) := by
  obtain ⟨rfl, rfl⟩ := x_nx_eq hd
  intro ad ca H locs cells slots la hp
  exact lv_ldc hx hb hown hk hdg (k1 rfl ad ca H locs cells slots la (Ph_st hp (w_c trivial (Ph_v hp))))
theorem s_ldcw (hx : p.tables.exec = Jvm.exec) (hb : c.code = cc) {own : String} (hown : s.vm.findClass own = some m.cls) {q0 : Nat} {v : Int32} {pc : Nat} {ls : XL} {st : List Value} {sl : Nat} {h : List AC} {b : Bool} {x1 x2 : XR} (hdg : decode cc pc = .ok (.ldc_w q0, 3)) (hd : dec (.ldc_w q0) (pc + 3) [] v pc ls st sl h = some (.inl (b, x1, x2))) (hk : (Cond.constant own q0 v).before args s = true)
    (k1 : b = true → x_At p l e R9 s m args below meth c Q D ad0 A n0 s0 nL x1) : x_At p l e R9 s m args below meth c Q D ad0 A n0 s0 nL (pc, ls, st, sl, h) := by
  obtain ⟨rfl, rfl⟩ := x_nx_eq hd
  intro ad ca H locs cells slots la hp
  exact lv_ldcw hx hb hown hk hdg (k1 rfl ad ca H locs cells slots la (Ph_st hp (w_c trivial (Ph_v hp))))
theorem s_ldc2 (hx : p.tables.exec = Jvm.exec) (hb : c.code = cc) {own : String} (hown : s.vm.findClass own = some m.cls) {q0 : Nat} {aux : List Nat} {v : Int32} {pc : Nat} {ls : XL} {st : List Value} {sl : Nat} {h : List AC} {b : Bool} {x1 x2 : XR} (hdg : decode cc pc = .ok (.ldc2_w q0, 3)) (hd : dec (.ldc2_w q0) (pc + 3) aux v pc ls st sl h = some (.inl (b, x1, x2))) (hk : (Cond.constantLong own q0 v.toInt64).before args s = true)
    (k1 : b = true → x_At p l e R9 s m args below meth c Q D ad0 A n0 s0 nL x1) : x_At p l e R9 s m args below meth c Q D ad0 A n0 s0 nL (pc, ls, st, sl, h) := by
  obtain ⟨rfl, rfl⟩ := x_nx_eq hd
  intro ad ca H locs cells slots la hp
  exact lv_ldc2 hx hb hown hk hdg (k1 rfl ad ca H locs cells slots la (Ph_st hp (w_c trivial (Ph_v hp))))
theorem s_tsw (hx : p.tables.exec = Jvm.exec) (hb : c.code = cc) {df lo hi : Int} {offs : Array Int} {len nx : Nat} {aux : List Nat} {v : Int32} {pc : Nat} {ls : XL} {st : List Value} {sl : Nat} {h : List AC} {b : Bool} {x1 x2 : XR} (hdg : decode cc pc = .ok (.tableswitch df lo hi offs, len)) (hd : dec (.tableswitch df lo hi offs) nx aux v pc ls st sl h = some (.inl (b, x1, x2)))
    (hsz : (offs.size : Int) = hi - lo + 1) (hpos : 0 ≤ (pc : Int) + df ∧ ∀ o ∈ offs.toList, 0 ≤ (pc : Int) + o)
    (k1 : b = true → x_At p l e R9 s m args below meth c Q D ad0 A n0 s0 nL x1) : x_At p l e R9 s m args below meth c Q D ad0 A n0 s0 nL (pc, ls, st, sl, h) := by
  simp only [dec] at hd
  split at hd
  · rename_i x st
    obtain ⟨rfl, rfl⟩ := x_nx_eq hd
    intro ad ca H locs cells slots la hp
    have hk := k1 rfl ad ca H locs cells slots la (Ph_st hp (w_t (Ph_v hp)))
    dsimp only at hk
    unfold x_tsw at hk
    cases hq : (decide (x.toInt < lo) || decide (hi < x.toInt)) with
    | true =>
      rw [hq] at hk
      simp only [Bool.or_eq_true, decide_eq_true_eq] at hq
      refine lv_tableOut hx hb hdg hq ?_ hk
      dsimp only [cond_true]
      omega
    | false =>
      rw [hq] at hk
      simp only [Bool.or_eq_false_iff, decide_eq_false_iff_not] at hq
      have hlt : (x.toInt - lo).toNat < offs.size := by omega
      have hget : offs[(x.toInt - lo).toNat]? = some (offs.toList.getD (x.toInt - lo).toNat 0) := by
        rw [← Array.getElem?_toList]
        rw [List.getD_eq_getElem?_getD, List.getElem?_eq_getElem (by simpa using hlt)]
        rfl
      refine lv_tableIn hx hb hdg hq.1 hq.2 hget ?_ hk
      have hm : offs.toList.getD (x.toInt - lo).toNat 0 ∈ offs.toList := by
        rw [← Array.getElem?_toList] at hget
        exact List.mem_of_getElem? hget
      have := hpos.2 _ hm
      dsimp only [cond_false]
      omega
  · cases hd
theorem s_lsw (hx : p.tables.exec = Jvm.exec) (hb : c.code = cc) {df : Int} {ps : Array (Int × Int)} {len nx : Nat} {aux : List Nat} {v : Int32} {pc : Nat} {ls : XL} {st : List Value} {sl : Nat} {h : List AC} {b : Bool} {x1 x2 : XR} (hdg : decode cc pc = .ok (.lookupswitch df ps, len)) (hd : dec (.lookupswitch df ps) nx aux v pc ls st sl h = some (.inl (b, x1, x2)))
    (hps : (ps.toList.zip (ps.toList.drop 1)).all (fun (a, next) => a.1 < next.1) = true) (hpos : ∀ x, 0 ≤ (pc : Int) + Op.lookupswitch.offset ps.toList df x)
    (k1 : b = true → x_At p l e R9 s m args below meth c Q D ad0 A n0 s0 nL x1) : x_At p l e R9 s m args below meth c Q D ad0 A n0 s0 nL (pc, ls, st, sl, h) := by
  simp only [dec] at hd
  split at hd
  · rename_i x st
    obtain ⟨rfl, rfl⟩ := x_nx_eq hd
    intro ad ca H locs cells slots la hp
    have hk := k1 rfl ad ca H locs cells slots la (Ph_st hp (w_t (Ph_v hp)))
    refine lv_lookup hx hb hdg hps rfl ?_ hk
    have := hpos x.toInt
    omega
  · cases hd
end XMK
