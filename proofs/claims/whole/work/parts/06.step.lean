/-! ONE INSTRUCTION OF THE ABSTRACT MACHINE IS ONE OF THE MACHINE -/
def lvL (ad : Nat → Nat) (ls : XL) : List (Nat × Value) := (ls.mapIdx (fun k o => o.map (fun v => (k, cv ad v)))).filterMap id
theorem mem_lvL {ad : Nat → Nat} {ls : XL} {q : Nat × Value} : q ∈ lvL ad ls ↔ ∃ v, ls[q.1]? = some (some v) ∧ q.2 = cv ad v := by
  obtain ⟨j, w⟩ := q
  simp only [lvL, List.mem_filterMap, id_eq, List.mem_mapIdx]
  constructor
  · rintro ⟨o, ⟨k, hk, e⟩, he⟩
    cases hv : ls[k] with
    | none => rw [hv] at e; rw [← e] at he; simp at he
    | some v =>
      rw [hv] at e
      rw [← e] at he
      simp only [Option.map_some, Option.some.injEq, Prod.mk.injEq] at he
      obtain ⟨h1, h2⟩ := he
      subst h1
      exact ⟨v, by rw [List.getElem?_eq_getElem hk, hv], h2.symm⟩
  · rintro ⟨v, h1, h2⟩
    obtain ⟨hk, e⟩ := List.getElem?_eq_some_iff.mp h1
    exact ⟨some (j, w), ⟨j, hk, by simp only [e, Option.map_some, h2]⟩, rfl⟩
theorem cat_cv (ad : Nat → Nat) (v : Value) : (cv ad v).category = v.category := by cases v <;> rfl
/-- where the machine stands -/
def x_Ph (D : va_G) (ad0 : Nat → Nat) (A : Nat → Prop) (n0 s0 nL : Nat) (s : State) (x : XR) (ad : Nat → Nat) (ca : Nat → ClassId) (H : Heap) (locs : List Loc) (cells slots : Nat) (la : Array Slot) : Prop :=
  ag n0 ad0 ad ∧ va_P D vwCl (cW ad ca x.2.2.2.2) H ∧ va_D A (cW ad ca x.2.2.2.2) ∧ va_S A s.heap H locs ∧ (∀ k t q, x.2.2.2.2[k]? = some (.inl (t, q)) → ArrOfT s (ca k) (tyT t) ∧ va_RA s (ca k) (tyT t)) ∧ (∀ c ∈ x.2.2.2.2, wC x.2.2.2.2.length c) ∧ wL x.2.2.2.2.length x.2.1 ∧ (∀ v ∈ x.2.2.1, wv x.2.2.2.2.length v) ∧ (cells + n0 = x.2.2.2.2.length ∧ slots + s0 = x.2.2.2.1) ∧ lv_has la nL (lvL ad x.2.1) ∧ x.2.1.length = nL
/-- from every place that x stands for the machine comes to Q -/
def x_At (p : Program) (l : Launch) (e : Env) (R9 : Room) (s : State) (m : MethodId) (args : Array Value) (below : List Frame) (meth : Method) (c : Code) (Q : State → Prop) (D : va_G) (ad0 : Nat → Nat) (A : Nat → Prop) (n0 s0 nL : Nat) (x : XR) : Prop :=
  ∀ ad ca H locs cells slots la, x_Ph D ad0 A n0 s0 nL s x ad ca H locs cells slots la → W p l e R9 s m args below meth c H locs cells slots Q (F0 m x.1 la (x.2.2.1.map (cv ad)))
section XST
variable {p : Program} {l : Launch} {e : Env} {R9 : Room} {s : State} {m : MethodId} {args : Array Value} {below : List Frame} {meth : Method} {c : Code} {Q : State → Prop} {D : va_G} {ad0 : Nat → Nat} {A : Nat → Prop} {n0 s0 nL : Nat} {cc : ByteArray}
theorem Ph_st {pc pc' : Nat} {ls : XL} {st st' : List Value} {sl : Nat} {h : List AC} {ad : Nat → Nat} {ca : Nat → ClassId} {H : Heap} {locs : List Loc} {cells slots : Nat} {la : Array Slot} (hp : x_Ph D ad0 A n0 s0 nL s (pc, ls, st, sl, h) ad ca H locs cells slots la) (hs : ∀ v ∈ st', wv h.length v) : x_Ph D ad0 A n0 s0 nL s (pc', ls, st', sl, h) ad ca H locs cells slots la := by
  obtain ⟨h1, h2, h3, h4, h5, h6, h7, h8, h9, h10, h11⟩ := hp
  exact ⟨h1, h2, h3, h4, h5, h6, h7, hs, h9, h10, h11⟩
theorem Ph_v {pc : Nat} {ls : XL} {st : List Value} {sl : Nat} {h : List AC} {ad : Nat → Nat} {ca : Nat → ClassId} {H : Heap} {locs : List Loc} {cells slots : Nat} {la : Array Slot} (hp : x_Ph D ad0 A n0 s0 nL s (pc, ls, st, sl, h) ad ca H locs cells slots la) : ∀ v ∈ st, wv h.length v := hp.2.2.2.2.2.2.2.1
theorem Ph_ld {pc : Nat} {ls : XL} {st : List Value} {sl : Nat} {h : List AC} {ad : Nat → Nat} {ca : Nat → ClassId} {H : Heap} {locs : List Loc} {cells slots : Nat} {la : Array Slot} (hp : x_Ph D ad0 A n0 s0 nL s (pc, ls, st, sl, h) ad ca H locs cells slots la) {k : Nat} {v : Value} (e : x_at ls k = some (some v)) : la[k]? = some (.val (cv ad v)) ∧ wv h.length v := by
  rw [x_at_eq] at e
  refine ⟨hp.2.2.2.2.2.2.2.2.2.1.2.2 (k, cv ad v) (mem_lvL.mpr ⟨v, e, rfl⟩), ?_⟩
  exact hp.2.2.2.2.2.2.1 (some v) (List.mem_of_getElem? e) v rfl
theorem Ph_s1 {pc pc' : Nat} {ls : XL} {st st' : List Value} {sl : Nat} {h : List AC} {ad : Nat → Nat} {ca : Nat → ClassId} {H : Heap} {locs : List Loc} {cells slots : Nat} {la : Array Slot} (hp : x_Ph D ad0 A n0 s0 nL s (pc, ls, st, sl, h) ad ca H locs cells slots la) {k : Nat} {v : Value} (hf : x_free ls k = true) (hk : k < ls.length) (hv : wv h.length v) (hs : ∀ v ∈ st', wv h.length v) {la' : Array Slot} (hl : lv_has la' nL ((k, cv ad v) :: (lvL ad ls).filter (fun q => !(q.1 == k) && !(q.1 + 1 == k && q.2.category == 2)))) : x_Ph D ad0 A n0 s0 nL s (pc', ls.set k (some v), st', sl, h) ad ca H locs cells slots la' := by
  obtain ⟨h1, h2, h3, h4, h5, h6, h7, h8, h9, h10, h11⟩ := hp
  refine ⟨h1, h2, h3, h4, h5, h6, ?_, hs, h9, ⟨hl.1, hl.2.1, ?_⟩, by simpa using h11⟩
  · intro o ho w hw
    rcases List.mem_or_eq_of_mem_set ho with q | q
    · exact h7 o q w hw
    · rw [q] at hw; cases hw; exact hv
  · rintro ⟨j, w⟩ hq
    obtain ⟨u, e1, e2⟩ := mem_lvL.mp hq
    dsimp only at e1 e2
    refine hl.2.2 (j, w) ?_
    by_cases hj : k = j
    · subst hj
      rw [List.getElem?_set_self hk] at e1
      cases e1
      rw [e2]
      exact List.mem_cons_self
    · rw [List.getElem?_set_ne hj] at e1
      refine List.mem_cons_of_mem _ (List.mem_filter.mpr ⟨mem_lvL.mpr ⟨u, e1, e2⟩, ?_⟩)
      simp only [Bool.and_eq_true, Bool.not_eq_true', beq_eq_false_iff_ne, Bool.and_eq_false_imp, beq_iff_eq]
      refine ⟨fun z => hj z.symm, fun z => ?_⟩
      subst z
      rw [e2, cat_cv]
      simp only [x_free, x_at_eq, e1, Bool.not_eq_true'] at hf
      cases u <;> first | rfl | (simp [x_isL] at hf)
      all_goals simp [Value.category]
theorem Ph_s2 {pc pc' : Nat} {ls : XL} {st st' : List Value} {sl : Nat} {h : List AC} {ad : Nat → Nat} {ca : Nat → ClassId} {H : Heap} {locs : List Loc} {cells slots : Nat} {la : Array Slot} (hp : x_Ph D ad0 A n0 s0 nL s (pc, ls, st, sl, h) ad ca H locs cells slots la) {k : Nat} {v : Value} (hf : x_free ls k = true) (hk : k + 1 < ls.length) (hv : wv h.length v) (hs : ∀ v ∈ st', wv h.length v) {la' : Array Slot} (hl : lv_has la' nL ((k, cv ad v) :: (lvL ad ls).filter (fun q => !(q.1 == k) && (!(q.1 == k + 1) && !(q.1 + 1 == k && q.2.category == 2))))) : x_Ph D ad0 A n0 s0 nL s (pc', (ls.set k (some v)).set (k + 1) none, st', sl, h) ad ca H locs cells slots la' := by
  obtain ⟨h1, h2, h3, h4, h5, h6, h7, h8, h9, h10, h11⟩ := hp
  refine ⟨h1, h2, h3, h4, h5, h6, ?_, hs, h9, ⟨hl.1, hl.2.1, ?_⟩, by simpa using h11⟩
  · intro o ho w hw
    rcases List.mem_or_eq_of_mem_set ho with q | q
    · rcases List.mem_or_eq_of_mem_set q with q | q
      · exact h7 o q w hw
      · rw [q] at hw; cases hw; exact hv
    · rw [q] at hw; cases hw
  · rintro ⟨j, w⟩ hq
    obtain ⟨u, e1, e2⟩ := mem_lvL.mp hq
    dsimp only at e1 e2
    refine hl.2.2 (j, w) ?_
    by_cases hj1 : k + 1 = j
    · subst hj1
      rw [List.getElem?_set_self (by simpa using hk)] at e1
      cases e1
    · rw [List.getElem?_set_ne hj1] at e1
      by_cases hj : k = j
      · subst hj
        rw [List.getElem?_set_self (by omega)] at e1
        cases e1
        rw [e2]
        exact List.mem_cons_self
      · rw [List.getElem?_set_ne hj] at e1
        refine List.mem_cons_of_mem _ (List.mem_filter.mpr ⟨mem_lvL.mpr ⟨u, e1, e2⟩, ?_⟩)
        simp only [Bool.and_eq_true, Bool.not_eq_true', beq_eq_false_iff_ne, Bool.and_eq_false_imp, beq_iff_eq]
        refine ⟨fun z => hj z.symm, fun z => hj1 z.symm, fun z => ?_⟩
        subst z
        rw [e2, cat_cv]
        simp only [x_free, x_at_eq, e1, Bool.not_eq_true'] at hf
        cases u <;> first | rfl | (simp [x_isL] at hf)
        all_goals simp [Value.category]
theorem w_c {n : Nat} {a : Value} {st : List Value} (h1 : wv n a) (h2 : ∀ v ∈ st, wv n v) : ∀ v ∈ a :: st, wv n v := fun v hv => by
  rcases List.mem_cons.mp hv with q | q
  · rw [q]; exact h1
  · exact h2 v q
theorem w_t {n : Nat} {a : Value} {st : List Value} (h : ∀ v ∈ a :: st, wv n v) : ∀ v ∈ st, wv n v := fun v hv => h v (List.mem_cons_of_mem _ hv)
theorem w_h {n : Nat} {a : Value} {st : List Value} (h : ∀ v ∈ a :: st, wv n v) : wv n a := h a List.mem_cons_self
theorem x_st1_some {ls : XL} {k : Nat} {v : Value} {f : XL → Option XO} {o : XO} (h : x_st1 ls k v f = some o) : x_free ls k = true ∧ k < ls.length ∧ f (ls.set k (some v)) = some o := by
  unfold x_st1 at h
  cases hf : x_free ls k with
  | false => rw [hf] at h; cases h
  | true => rw [hf] at h; exact ⟨rfl, x_pk_some h⟩
theorem x_st2_some {ls : XL} {k : Nat} {v : Value} {f : XL → Option XO} {o : XO} (h : x_st2 ls k v f = some o) : x_free ls k = true ∧ k + 1 < ls.length ∧ f ((ls.set k (some v)).set (k + 1) none) = some o := by
  unfold x_st2 at h
  cases hf : x_free ls k with
  | false => rw [hf] at h; cases h
  | true =>
    rw [hf] at h
    obtain ⟨h1, h2⟩ := x_pk_some h
    obtain ⟨h3, h4⟩ := x_pk_some h2
    exact ⟨rfl, by simpa using h3, h4⟩
theorem x_nx_eq {x : XR} {b : Bool} {x1 x2 : XR} (h : x_nx x = some (.inl (b, x1, x2))) : b = true ∧ x1 = x := by
  unfold x_nx at h
  cases h
  exact ⟨rfl, rfl⟩
theorem x_br_eq {b0 : Bool} {y1 y2 : XR} {b : Bool} {x1 x2 : XR} (h : x_br b0 y1 y2 = some (.inl (b, x1, x2))) : b = b0 ∧ x1 = y1 ∧ x2 = y2 := by
  unfold x_br at h
  cases h
  exact ⟨rfl, rfl, rfl⟩
theorem s_iadd (hx : p.tables.exec = Jvm.exec) (hb : c.code = cc) {aux : List Nat} {v : Int32} {pc : Nat} {ls : XL} {st : List Value} {sl : Nat} {h : List AC} {b : Bool} {x1 x2 : XR} (hdg : decode cc pc = .ok (.iadd, 1)) (hd : dec (.iadd) (pc + 1) aux v pc ls st sl h = some (.inl (b, x1, x2))) (k1 : b = true → x_At p l e R9 s m args below meth c Q D ad0 A n0 s0 nL x1) (k2 : b = false → x2.1 ≠ 65535 ∧ x_At p l e R9 s m args below meth c Q D ad0 A n0 s0 nL x2) : x_At p l e R9 s m args below meth c Q D ad0 A n0 s0 nL (pc, ls, st, sl, h) := by
  simp only [dec] at hd
  split at hd
  · rename_i y x st
    obtain ⟨rfl, rfl⟩ := x_nx_eq hd
    intro ad ca H locs cells slots la hp
    exact lv_iadd hx hb hdg (k1 rfl ad ca H locs cells slots la (Ph_st hp (w_c trivial (w_t (w_t (Ph_v hp))))))
  · cases hd

theorem s_isub (hx : p.tables.exec = Jvm.exec) (hb : c.code = cc) {aux : List Nat} {v : Int32} {pc : Nat} {ls : XL} {st : List Value} {sl : Nat} {h : List AC} {b : Bool} {x1 x2 : XR} (hdg : decode cc pc = .ok (.isub, 1)) (hd : dec (.isub) (pc + 1) aux v pc ls st sl h = some (.inl (b, x1, x2))) (k1 : b = true → x_At p l e R9 s m args below meth c Q D ad0 A n0 s0 nL x1) (k2 : b = false → x2.1 ≠ 65535 ∧ x_At p l e R9 s m args below meth c Q D ad0 A n0 s0 nL x2) : x_At p l e R9 s m args below meth c Q D ad0 A n0 s0 nL (pc, ls, st, sl, h) := by
  simp only [dec] at hd
  split at hd
  · rename_i y x st
    obtain ⟨rfl, rfl⟩ := x_nx_eq hd
    intro ad ca H locs cells slots la hp
    exact lv_isub hx hb hdg (k1 rfl ad ca H locs cells slots la (Ph_st hp (w_c trivial (w_t (w_t (Ph_v hp))))))
  · cases hd

theorem s_imul (hx : p.tables.exec = Jvm.exec) (hb : c.code = cc) {aux : List Nat} {v : Int32} {pc : Nat} {ls : XL} {st : List Value} {sl : Nat} {h : List AC} {b : Bool} {x1 x2 : XR} (hdg : decode cc pc = .ok (.imul, 1)) (hd : dec (.imul) (pc + 1) aux v pc ls st sl h = some (.inl (b, x1, x2))) (k1 : b = true → x_At p l e R9 s m args below meth c Q D ad0 A n0 s0 nL x1) (k2 : b = false → x2.1 ≠ 65535 ∧ x_At p l e R9 s m args below meth c Q D ad0 A n0 s0 nL x2) : x_At p l e R9 s m args below meth c Q D ad0 A n0 s0 nL (pc, ls, st, sl, h) := by
  simp only [dec] at hd
  split at hd
  · rename_i y x st
    obtain ⟨rfl, rfl⟩ := x_nx_eq hd
    intro ad ca H locs cells slots la hp
    exact lv_imul hx hb hdg (k1 rfl ad ca H locs cells slots la (Ph_st hp (w_c trivial (w_t (w_t (Ph_v hp))))))
  · cases hd

theorem s_iand (hx : p.tables.exec = Jvm.exec) (hb : c.code = cc) {aux : List Nat} {v : Int32} {pc : Nat} {ls : XL} {st : List Value} {sl : Nat} {h : List AC} {b : Bool} {x1 x2 : XR} (hdg : decode cc pc = .ok (.iand, 1)) (hd : dec (.iand) (pc + 1) aux v pc ls st sl h = some (.inl (b, x1, x2))) (k1 : b = true → x_At p l e R9 s m args below meth c Q D ad0 A n0 s0 nL x1) (k2 : b = false → x2.1 ≠ 65535 ∧ x_At p l e R9 s m args below meth c Q D ad0 A n0 s0 nL x2) : x_At p l e R9 s m args below meth c Q D ad0 A n0 s0 nL (pc, ls, st, sl, h) := by
  simp only [dec] at hd
  split at hd
  · rename_i y x st
    obtain ⟨rfl, rfl⟩ := x_nx_eq hd
    intro ad ca H locs cells slots la hp
    exact lv_iand hx hb hdg (k1 rfl ad ca H locs cells slots la (Ph_st hp (w_c trivial (w_t (w_t (Ph_v hp))))))
  · cases hd

theorem s_ior (hx : p.tables.exec = Jvm.exec) (hb : c.code = cc) {aux : List Nat} {v : Int32} {pc : Nat} {ls : XL} {st : List Value} {sl : Nat} {h : List AC} {b : Bool} {x1 x2 : XR} (hdg : decode cc pc = .ok (.ior, 1)) (hd : dec (.ior) (pc + 1) aux v pc ls st sl h = some (.inl (b, x1, x2))) (k1 : b = true → x_At p l e R9 s m args below meth c Q D ad0 A n0 s0 nL x1) (k2 : b = false → x2.1 ≠ 65535 ∧ x_At p l e R9 s m args below meth c Q D ad0 A n0 s0 nL x2) : x_At p l e R9 s m args below meth c Q D ad0 A n0 s0 nL (pc, ls, st, sl, h) := by
  simp only [dec] at hd
  split at hd
  · rename_i y x st
    obtain ⟨rfl, rfl⟩ := x_nx_eq hd
    intro ad ca H locs cells slots la hp
    exact lv_ior hx hb hdg (k1 rfl ad ca H locs cells slots la (Ph_st hp (w_c trivial (w_t (w_t (Ph_v hp))))))
  · cases hd

theorem s_ixor (hx : p.tables.exec = Jvm.exec) (hb : c.code = cc) {aux : List Nat} {v : Int32} {pc : Nat} {ls : XL} {st : List Value} {sl : Nat} {h : List AC} {b : Bool} {x1 x2 : XR} (hdg : decode cc pc = .ok (.ixor, 1)) (hd : dec (.ixor) (pc + 1) aux v pc ls st sl h = some (.inl (b, x1, x2))) (k1 : b = true → x_At p l e R9 s m args below meth c Q D ad0 A n0 s0 nL x1) (k2 : b = false → x2.1 ≠ 65535 ∧ x_At p l e R9 s m args below meth c Q D ad0 A n0 s0 nL x2) : x_At p l e R9 s m args below meth c Q D ad0 A n0 s0 nL (pc, ls, st, sl, h) := by
  simp only [dec] at hd
  split at hd
  · rename_i y x st
    obtain ⟨rfl, rfl⟩ := x_nx_eq hd
    intro ad ca H locs cells slots la hp
    exact lv_ixor hx hb hdg (k1 rfl ad ca H locs cells slots la (Ph_st hp (w_c trivial (w_t (w_t (Ph_v hp))))))
  · cases hd

theorem s_ishl (hx : p.tables.exec = Jvm.exec) (hb : c.code = cc) {aux : List Nat} {v : Int32} {pc : Nat} {ls : XL} {st : List Value} {sl : Nat} {h : List AC} {b : Bool} {x1 x2 : XR} (hdg : decode cc pc = .ok (.ishl, 1)) (hd : dec (.ishl) (pc + 1) aux v pc ls st sl h = some (.inl (b, x1, x2))) (k1 : b = true → x_At p l e R9 s m args below meth c Q D ad0 A n0 s0 nL x1) (k2 : b = false → x2.1 ≠ 65535 ∧ x_At p l e R9 s m args below meth c Q D ad0 A n0 s0 nL x2) : x_At p l e R9 s m args below meth c Q D ad0 A n0 s0 nL (pc, ls, st, sl, h) := by
  simp only [dec] at hd
  split at hd
  · rename_i y x st
    obtain ⟨rfl, rfl⟩ := x_nx_eq hd
    intro ad ca H locs cells slots la hp
    exact lv_ishl hx hb hdg (k1 rfl ad ca H locs cells slots la (Ph_st hp (w_c trivial (w_t (w_t (Ph_v hp))))))
  · cases hd

theorem s_ishr (hx : p.tables.exec = Jvm.exec) (hb : c.code = cc) {aux : List Nat} {v : Int32} {pc : Nat} {ls : XL} {st : List Value} {sl : Nat} {h : List AC} {b : Bool} {x1 x2 : XR} (hdg : decode cc pc = .ok (.ishr, 1)) (hd : dec (.ishr) (pc + 1) aux v pc ls st sl h = some (.inl (b, x1, x2))) (k1 : b = true → x_At p l e R9 s m args below meth c Q D ad0 A n0 s0 nL x1) (k2 : b = false → x2.1 ≠ 65535 ∧ x_At p l e R9 s m args below meth c Q D ad0 A n0 s0 nL x2) : x_At p l e R9 s m args below meth c Q D ad0 A n0 s0 nL (pc, ls, st, sl, h) := by
  simp only [dec] at hd
  split at hd
  · rename_i y x st
    obtain ⟨rfl, rfl⟩ := x_nx_eq hd
    intro ad ca H locs cells slots la hp
    exact lv_ishr hx hb hdg (k1 rfl ad ca H locs cells slots la (Ph_st hp (w_c trivial (w_t (w_t (Ph_v hp))))))
  · cases hd

theorem s_iushr (hx : p.tables.exec = Jvm.exec) (hb : c.code = cc) {aux : List Nat} {v : Int32} {pc : Nat} {ls : XL} {st : List Value} {sl : Nat} {h : List AC} {b : Bool} {x1 x2 : XR} (hdg : decode cc pc = .ok (.iushr, 1)) (hd : dec (.iushr) (pc + 1) aux v pc ls st sl h = some (.inl (b, x1, x2))) (k1 : b = true → x_At p l e R9 s m args below meth c Q D ad0 A n0 s0 nL x1) (k2 : b = false → x2.1 ≠ 65535 ∧ x_At p l e R9 s m args below meth c Q D ad0 A n0 s0 nL x2) : x_At p l e R9 s m args below meth c Q D ad0 A n0 s0 nL (pc, ls, st, sl, h) := by
  simp only [dec] at hd
  split at hd
  · rename_i y x st
    obtain ⟨rfl, rfl⟩ := x_nx_eq hd
    intro ad ca H locs cells slots la hp
    exact lv_iushr hx hb hdg rfl (k1 rfl ad ca H locs cells slots la (Ph_st hp (w_c trivial (w_t (w_t (Ph_v hp))))))
  · cases hd

theorem s_ladd (hx : p.tables.exec = Jvm.exec) (hb : c.code = cc) {aux : List Nat} {v : Int32} {pc : Nat} {ls : XL} {st : List Value} {sl : Nat} {h : List AC} {b : Bool} {x1 x2 : XR} (hdg : decode cc pc = .ok (.ladd, 1)) (hd : dec (.ladd) (pc + 1) aux v pc ls st sl h = some (.inl (b, x1, x2))) (k1 : b = true → x_At p l e R9 s m args below meth c Q D ad0 A n0 s0 nL x1) (k2 : b = false → x2.1 ≠ 65535 ∧ x_At p l e R9 s m args below meth c Q D ad0 A n0 s0 nL x2) : x_At p l e R9 s m args below meth c Q D ad0 A n0 s0 nL (pc, ls, st, sl, h) := by
  simp only [dec] at hd
  split at hd
  · rename_i y x st
    obtain ⟨rfl, rfl⟩ := x_nx_eq hd
    intro ad ca H locs cells slots la hp
    exact lv_ladd hx hb hdg (k1 rfl ad ca H locs cells slots la (Ph_st hp (w_c trivial (w_t (w_t (Ph_v hp))))))
  · cases hd

theorem s_lsub (hx : p.tables.exec = Jvm.exec) (hb : c.code = cc) {aux : List Nat} {v : Int32} {pc : Nat} {ls : XL} {st : List Value} {sl : Nat} {h : List AC} {b : Bool} {x1 x2 : XR} (hdg : decode cc pc = .ok (.lsub, 1)) (hd : dec (.lsub) (pc + 1) aux v pc ls st sl h = some (.inl (b, x1, x2))) (k1 : b = true → x_At p l e R9 s m args below meth c Q D ad0 A n0 s0 nL x1) (k2 : b = false → x2.1 ≠ 65535 ∧ x_At p l e R9 s m args below meth c Q D ad0 A n0 s0 nL x2) : x_At p l e R9 s m args below meth c Q D ad0 A n0 s0 nL (pc, ls, st, sl, h) := by
  simp only [dec] at hd
  split at hd
  · rename_i y x st
    obtain ⟨rfl, rfl⟩ := x_nx_eq hd
    intro ad ca H locs cells slots la hp
    exact lv_lsub hx hb hdg (k1 rfl ad ca H locs cells slots la (Ph_st hp (w_c trivial (w_t (w_t (Ph_v hp))))))
  · cases hd

theorem s_lmul (hx : p.tables.exec = Jvm.exec) (hb : c.code = cc) {aux : List Nat} {v : Int32} {pc : Nat} {ls : XL} {st : List Value} {sl : Nat} {h : List AC} {b : Bool} {x1 x2 : XR} (hdg : decode cc pc = .ok (.lmul, 1)) (hd : dec (.lmul) (pc + 1) aux v pc ls st sl h = some (.inl (b, x1, x2))) (k1 : b = true → x_At p l e R9 s m args below meth c Q D ad0 A n0 s0 nL x1) (k2 : b = false → x2.1 ≠ 65535 ∧ x_At p l e R9 s m args below meth c Q D ad0 A n0 s0 nL x2) : x_At p l e R9 s m args below meth c Q D ad0 A n0 s0 nL (pc, ls, st, sl, h) := by
  simp only [dec] at hd
  split at hd
  · rename_i y x st
    obtain ⟨rfl, rfl⟩ := x_nx_eq hd
    intro ad ca H locs cells slots la hp
    exact lv_lmul hx hb hdg (k1 rfl ad ca H locs cells slots la (Ph_st hp (w_c trivial (w_t (w_t (Ph_v hp))))))
  · cases hd

theorem s_land (hx : p.tables.exec = Jvm.exec) (hb : c.code = cc) {aux : List Nat} {v : Int32} {pc : Nat} {ls : XL} {st : List Value} {sl : Nat} {h : List AC} {b : Bool} {x1 x2 : XR} (hdg : decode cc pc = .ok (.land, 1)) (hd : dec (.land) (pc + 1) aux v pc ls st sl h = some (.inl (b, x1, x2))) (k1 : b = true → x_At p l e R9 s m args below meth c Q D ad0 A n0 s0 nL x1) (k2 : b = false → x2.1 ≠ 65535 ∧ x_At p l e R9 s m args below meth c Q D ad0 A n0 s0 nL x2) : x_At p l e R9 s m args below meth c Q D ad0 A n0 s0 nL (pc, ls, st, sl, h) := by
  simp only [dec] at hd
  split at hd
  · rename_i y x st
    obtain ⟨rfl, rfl⟩ := x_nx_eq hd
    intro ad ca H locs cells slots la hp
    exact lv_land hx hb hdg (k1 rfl ad ca H locs cells slots la (Ph_st hp (w_c trivial (w_t (w_t (Ph_v hp))))))
  · cases hd

theorem s_lor (hx : p.tables.exec = Jvm.exec) (hb : c.code = cc) {aux : List Nat} {v : Int32} {pc : Nat} {ls : XL} {st : List Value} {sl : Nat} {h : List AC} {b : Bool} {x1 x2 : XR} (hdg : decode cc pc = .ok (.lor, 1)) (hd : dec (.lor) (pc + 1) aux v pc ls st sl h = some (.inl (b, x1, x2))) (k1 : b = true → x_At p l e R9 s m args below meth c Q D ad0 A n0 s0 nL x1) (k2 : b = false → x2.1 ≠ 65535 ∧ x_At p l e R9 s m args below meth c Q D ad0 A n0 s0 nL x2) : x_At p l e R9 s m args below meth c Q D ad0 A n0 s0 nL (pc, ls, st, sl, h) := by
  simp only [dec] at hd
  split at hd
  · rename_i y x st
    obtain ⟨rfl, rfl⟩ := x_nx_eq hd
    intro ad ca H locs cells slots la hp
    exact lv_lor hx hb hdg (k1 rfl ad ca H locs cells slots la (Ph_st hp (w_c trivial (w_t (w_t (Ph_v hp))))))
  · cases hd

theorem s_lshl (hx : p.tables.exec = Jvm.exec) (hb : c.code = cc) {aux : List Nat} {v : Int32} {pc : Nat} {ls : XL} {st : List Value} {sl : Nat} {h : List AC} {b : Bool} {x1 x2 : XR} (hdg : decode cc pc = .ok (.lshl, 1)) (hd : dec (.lshl) (pc + 1) aux v pc ls st sl h = some (.inl (b, x1, x2))) (k1 : b = true → x_At p l e R9 s m args below meth c Q D ad0 A n0 s0 nL x1) (k2 : b = false → x2.1 ≠ 65535 ∧ x_At p l e R9 s m args below meth c Q D ad0 A n0 s0 nL x2) : x_At p l e R9 s m args below meth c Q D ad0 A n0 s0 nL (pc, ls, st, sl, h) := by
  simp only [dec] at hd
  split at hd
  · rename_i y x st
    obtain ⟨rfl, rfl⟩ := x_nx_eq hd
    intro ad ca H locs cells slots la hp
    exact lv_lshl hx hb hdg rfl (k1 rfl ad ca H locs cells slots la (Ph_st hp (w_c trivial (w_t (w_t (Ph_v hp))))))
  · cases hd

theorem s_lushr (hx : p.tables.exec = Jvm.exec) (hb : c.code = cc) {aux : List Nat} {v : Int32} {pc : Nat} {ls : XL} {st : List Value} {sl : Nat} {h : List AC} {b : Bool} {x1 x2 : XR} (hdg : decode cc pc = .ok (.lushr, 1)) (hd : dec (.lushr) (pc + 1) aux v pc ls st sl h = some (.inl (b, x1, x2))) (k1 : b = true → x_At p l e R9 s m args below meth c Q D ad0 A n0 s0 nL x1) (k2 : b = false → x2.1 ≠ 65535 ∧ x_At p l e R9 s m args below meth c Q D ad0 A n0 s0 nL x2) : x_At p l e R9 s m args below meth c Q D ad0 A n0 s0 nL (pc, ls, st, sl, h) := by
  simp only [dec] at hd
  split at hd
  · rename_i y x st
    obtain ⟨rfl, rfl⟩ := x_nx_eq hd
    intro ad ca H locs cells slots la hp
    exact lv_lushr hx hb hdg rfl (k1 rfl ad ca H locs cells slots la (Ph_st hp (w_c trivial (w_t (w_t (Ph_v hp))))))
  · cases hd

theorem s_idiv (hx : p.tables.exec = Jvm.exec) (hb : c.code = cc) {aux : List Nat} {v : Int32} {pc : Nat} {ls : XL} {st : List Value} {sl : Nat} {h : List AC} {b : Bool} {x1 x2 : XR} (hdg : decode cc pc = .ok (.idiv, 1)) (hd : dec (.idiv) (pc + 1) aux v pc ls st sl h = some (.inl (b, x1, x2))) (k1 : b = true → x_At p l e R9 s m args below meth c Q D ad0 A n0 s0 nL x1) (k2 : b = false → x2.1 ≠ 65535 ∧ x_At p l e R9 s m args below meth c Q D ad0 A n0 s0 nL x2) : x_At p l e R9 s m args below meth c Q D ad0 A n0 s0 nL (pc, ls, st, sl, h) := by
  simp only [dec] at hd
  split at hd
  · rename_i y x st
    obtain ⟨rfl, rfl, rfl⟩ := x_br_eq hd
    intro ad ca H locs cells slots la hp
    by_cases hy : y = 0
    · exact absurd rfl (k2 (by simp [hy])).1
    · exact lv_idiv hx hb hdg hy (k1 (by simp [hy]) ad ca H locs cells slots la (Ph_st hp (w_c trivial (w_t (w_t (Ph_v hp))))))
  · cases hd

theorem s_irem (hx : p.tables.exec = Jvm.exec) (hb : c.code = cc) {aux : List Nat} {v : Int32} {pc : Nat} {ls : XL} {st : List Value} {sl : Nat} {h : List AC} {b : Bool} {x1 x2 : XR} (hdg : decode cc pc = .ok (.irem, 1)) (hd : dec (.irem) (pc + 1) aux v pc ls st sl h = some (.inl (b, x1, x2))) (k1 : b = true → x_At p l e R9 s m args below meth c Q D ad0 A n0 s0 nL x1) (k2 : b = false → x2.1 ≠ 65535 ∧ x_At p l e R9 s m args below meth c Q D ad0 A n0 s0 nL x2) : x_At p l e R9 s m args below meth c Q D ad0 A n0 s0 nL (pc, ls, st, sl, h) := by
  simp only [dec] at hd
  split at hd
  · rename_i y x st
    obtain ⟨rfl, rfl, rfl⟩ := x_br_eq hd
    intro ad ca H locs cells slots la hp
    by_cases hy : y = 0
    · exact absurd rfl (k2 (by simp [hy])).1
    · exact lv_irem hx hb hdg hy (k1 (by simp [hy]) ad ca H locs cells slots la (Ph_st hp (w_c trivial (w_t (w_t (Ph_v hp))))))
  · cases hd

theorem s_ldiv (hx : p.tables.exec = Jvm.exec) (hb : c.code = cc) {aux : List Nat} {v : Int32} {pc : Nat} {ls : XL} {st : List Value} {sl : Nat} {h : List AC} {b : Bool} {x1 x2 : XR} (hdg : decode cc pc = .ok (.ldiv, 1)) (hd : dec (.ldiv) (pc + 1) aux v pc ls st sl h = some (.inl (b, x1, x2))) (k1 : b = true → x_At p l e R9 s m args below meth c Q D ad0 A n0 s0 nL x1) (k2 : b = false → x2.1 ≠ 65535 ∧ x_At p l e R9 s m args below meth c Q D ad0 A n0 s0 nL x2) : x_At p l e R9 s m args below meth c Q D ad0 A n0 s0 nL (pc, ls, st, sl, h) := by
  simp only [dec] at hd
  split at hd
  · rename_i y x st
    obtain ⟨rfl, rfl, rfl⟩ := x_br_eq hd
    intro ad ca H locs cells slots la hp
    by_cases hy : y = 0
    · exact absurd rfl (k2 (by simp [hy])).1
    · exact lv_ldiv hx hb hdg hy (k1 (by simp [hy]) ad ca H locs cells slots la (Ph_st hp (w_c trivial (w_t (w_t (Ph_v hp))))))
  · cases hd

theorem s_lrem (hx : p.tables.exec = Jvm.exec) (hb : c.code = cc) {aux : List Nat} {v : Int32} {pc : Nat} {ls : XL} {st : List Value} {sl : Nat} {h : List AC} {b : Bool} {x1 x2 : XR} (hdg : decode cc pc = .ok (.lrem, 1)) (hd : dec (.lrem) (pc + 1) aux v pc ls st sl h = some (.inl (b, x1, x2))) (k1 : b = true → x_At p l e R9 s m args below meth c Q D ad0 A n0 s0 nL x1) (k2 : b = false → x2.1 ≠ 65535 ∧ x_At p l e R9 s m args below meth c Q D ad0 A n0 s0 nL x2) : x_At p l e R9 s m args below meth c Q D ad0 A n0 s0 nL (pc, ls, st, sl, h) := by
  simp only [dec] at hd
  split at hd
  · rename_i y x st
    obtain ⟨rfl, rfl, rfl⟩ := x_br_eq hd
    intro ad ca H locs cells slots la hp
    by_cases hy : y = 0
    · exact absurd rfl (k2 (by simp [hy])).1
    · exact lv_lrem hx hb hdg hy (k1 (by simp [hy]) ad ca H locs cells slots la (Ph_st hp (w_c trivial (w_t (w_t (Ph_v hp))))))
  · cases hd

theorem s_ineg (hx : p.tables.exec = Jvm.exec) (hb : c.code = cc) {aux : List Nat} {v : Int32} {pc : Nat} {ls : XL} {st : List Value} {sl : Nat} {h : List AC} {b : Bool} {x1 x2 : XR} (hdg : decode cc pc = .ok (.ineg, 1)) (hd : dec (.ineg) (pc + 1) aux v pc ls st sl h = some (.inl (b, x1, x2))) (k1 : b = true → x_At p l e R9 s m args below meth c Q D ad0 A n0 s0 nL x1) (k2 : b = false → x2.1 ≠ 65535 ∧ x_At p l e R9 s m args below meth c Q D ad0 A n0 s0 nL x2) : x_At p l e R9 s m args below meth c Q D ad0 A n0 s0 nL (pc, ls, st, sl, h) := by
  simp only [dec] at hd
  split at hd
  · obtain ⟨rfl, rfl⟩ := x_nx_eq hd
    intro ad ca H locs cells slots la hp
    exact lv_ineg hx hb hdg (k1 rfl ad ca H locs cells slots la (Ph_st hp (w_c trivial (w_t (Ph_v hp)))))
  · cases hd

theorem s_lcmp (hx : p.tables.exec = Jvm.exec) (hb : c.code = cc) {aux : List Nat} {v : Int32} {pc : Nat} {ls : XL} {st : List Value} {sl : Nat} {h : List AC} {b : Bool} {x1 x2 : XR} (hdg : decode cc pc = .ok (.lcmp, 1)) (hd : dec (.lcmp) (pc + 1) aux v pc ls st sl h = some (.inl (b, x1, x2))) (k1 : b = true → x_At p l e R9 s m args below meth c Q D ad0 A n0 s0 nL x1) (k2 : b = false → x2.1 ≠ 65535 ∧ x_At p l e R9 s m args below meth c Q D ad0 A n0 s0 nL x2) : x_At p l e R9 s m args below meth c Q D ad0 A n0 s0 nL (pc, ls, st, sl, h) := by
  simp only [dec] at hd
  split at hd
  · obtain ⟨rfl, rfl⟩ := x_nx_eq hd
    intro ad ca H locs cells slots la hp
    exact W.lcmp hx hb hdg (k1 rfl ad ca H locs cells slots la (Ph_st hp (w_c trivial (w_t (w_t (Ph_v hp))))))
  · cases hd

theorem s_i2l (hx : p.tables.exec = Jvm.exec) (hb : c.code = cc) {aux : List Nat} {v : Int32} {pc : Nat} {ls : XL} {st : List Value} {sl : Nat} {h : List AC} {b : Bool} {x1 x2 : XR} (hdg : decode cc pc = .ok (.i2l, 1)) (hd : dec (.i2l) (pc + 1) aux v pc ls st sl h = some (.inl (b, x1, x2))) (k1 : b = true → x_At p l e R9 s m args below meth c Q D ad0 A n0 s0 nL x1) (k2 : b = false → x2.1 ≠ 65535 ∧ x_At p l e R9 s m args below meth c Q D ad0 A n0 s0 nL x2) : x_At p l e R9 s m args below meth c Q D ad0 A n0 s0 nL (pc, ls, st, sl, h) := by
  simp only [dec] at hd
  split at hd
  · obtain ⟨rfl, rfl⟩ := x_nx_eq hd
    intro ad ca H locs cells slots la hp
    exact lv_i2l hx hb hdg rfl (k1 rfl ad ca H locs cells slots la (Ph_st hp (w_c trivial (w_t (Ph_v hp)))))
  · cases hd

theorem s_l2i (hx : p.tables.exec = Jvm.exec) (hb : c.code = cc) {aux : List Nat} {v : Int32} {pc : Nat} {ls : XL} {st : List Value} {sl : Nat} {h : List AC} {b : Bool} {x1 x2 : XR} (hdg : decode cc pc = .ok (.l2i, 1)) (hd : dec (.l2i) (pc + 1) aux v pc ls st sl h = some (.inl (b, x1, x2))) (k1 : b = true → x_At p l e R9 s m args below meth c Q D ad0 A n0 s0 nL x1) (k2 : b = false → x2.1 ≠ 65535 ∧ x_At p l e R9 s m args below meth c Q D ad0 A n0 s0 nL x2) : x_At p l e R9 s m args below meth c Q D ad0 A n0 s0 nL (pc, ls, st, sl, h) := by
  simp only [dec] at hd
  split at hd
  · obtain ⟨rfl, rfl⟩ := x_nx_eq hd
    intro ad ca H locs cells slots la hp
    exact lv_l2i hx hb hdg rfl (k1 rfl ad ca H locs cells slots la (Ph_st hp (w_c trivial (w_t (Ph_v hp)))))
  · cases hd

theorem s_i2b (hx : p.tables.exec = Jvm.exec) (hb : c.code = cc) {aux : List Nat} {v : Int32} {pc : Nat} {ls : XL} {st : List Value} {sl : Nat} {h : List AC} {b : Bool} {x1 x2 : XR} (hdg : decode cc pc = .ok (.i2b, 1)) (hd : dec (.i2b) (pc + 1) aux v pc ls st sl h = some (.inl (b, x1, x2))) (k1 : b = true → x_At p l e R9 s m args below meth c Q D ad0 A n0 s0 nL x1) (k2 : b = false → x2.1 ≠ 65535 ∧ x_At p l e R9 s m args below meth c Q D ad0 A n0 s0 nL x2) : x_At p l e R9 s m args below meth c Q D ad0 A n0 s0 nL (pc, ls, st, sl, h) := by
  simp only [dec] at hd
  split at hd
  · obtain ⟨rfl, rfl⟩ := x_nx_eq hd
    intro ad ca H locs cells slots la hp
    exact lv_i2b hx hb hdg rfl (k1 rfl ad ca H locs cells slots la (Ph_st hp (w_c trivial (w_t (Ph_v hp)))))
  · cases hd

theorem s_i2c (hx : p.tables.exec = Jvm.exec) (hb : c.code = cc) {aux : List Nat} {v : Int32} {pc : Nat} {ls : XL} {st : List Value} {sl : Nat} {h : List AC} {b : Bool} {x1 x2 : XR} (hdg : decode cc pc = .ok (.i2c, 1)) (hd : dec (.i2c) (pc + 1) aux v pc ls st sl h = some (.inl (b, x1, x2))) (k1 : b = true → x_At p l e R9 s m args below meth c Q D ad0 A n0 s0 nL x1) (k2 : b = false → x2.1 ≠ 65535 ∧ x_At p l e R9 s m args below meth c Q D ad0 A n0 s0 nL x2) : x_At p l e R9 s m args below meth c Q D ad0 A n0 s0 nL (pc, ls, st, sl, h) := by
  simp only [dec] at hd
  split at hd
  · obtain ⟨rfl, rfl⟩ := x_nx_eq hd
    intro ad ca H locs cells slots la hp
    exact lv_i2c hx hb hdg rfl (k1 rfl ad ca H locs cells slots la (Ph_st hp (w_c trivial (w_t (Ph_v hp)))))
  · cases hd

theorem s_dup (hx : p.tables.exec = Jvm.exec) (hb : c.code = cc) {aux : List Nat} {v : Int32} {pc : Nat} {ls : XL} {st : List Value} {sl : Nat} {h : List AC} {b : Bool} {x1 x2 : XR} (hdg : decode cc pc = .ok (.dup, 1)) (hd : dec (.dup) (pc + 1) aux v pc ls st sl h = some (.inl (b, x1, x2))) (k1 : b = true → x_At p l e R9 s m args below meth c Q D ad0 A n0 s0 nL x1) (k2 : b = false → x2.1 ≠ 65535 ∧ x_At p l e R9 s m args below meth c Q D ad0 A n0 s0 nL x2) : x_At p l e R9 s m args below meth c Q D ad0 A n0 s0 nL (pc, ls, st, sl, h) := by
  simp only [dec] at hd
  split at hd
  · obtain ⟨rfl, rfl⟩ := x_nx_eq hd
    intro ad ca H locs cells slots la hp
    exact lv_dup hx hb hdg rfl (k1 rfl ad ca H locs cells slots la (Ph_st hp (w_c trivial (Ph_v hp))))
  · obtain ⟨rfl, rfl⟩ := x_nx_eq hd
    intro ad ca H locs cells slots la hp
    exact lv_dup hx hb hdg rfl (k1 rfl ad ca H locs cells slots la (Ph_st hp (w_c (w_h (Ph_v hp)) (Ph_v hp))))
  · cases hd

theorem s_dup2 (hx : p.tables.exec = Jvm.exec) (hb : c.code = cc) {aux : List Nat} {v : Int32} {pc : Nat} {ls : XL} {st : List Value} {sl : Nat} {h : List AC} {b : Bool} {x1 x2 : XR} (hdg : decode cc pc = .ok (.dup2, 1)) (hd : dec (.dup2) (pc + 1) aux v pc ls st sl h = some (.inl (b, x1, x2))) (k1 : b = true → x_At p l e R9 s m args below meth c Q D ad0 A n0 s0 nL x1) (k2 : b = false → x2.1 ≠ 65535 ∧ x_At p l e R9 s m args below meth c Q D ad0 A n0 s0 nL x2) : x_At p l e R9 s m args below meth c Q D ad0 A n0 s0 nL (pc, ls, st, sl, h) := by
  simp only [dec] at hd
  split at hd
  · obtain ⟨rfl, rfl⟩ := x_nx_eq hd
    intro ad ca H locs cells slots la hp
    exact lv_dup2_11 hx hb hdg rfl rfl (k1 rfl ad ca H locs cells slots la (Ph_st hp (w_c trivial (w_c (w_h (w_t (Ph_v hp))) (Ph_v hp)))))
  · cases hd

theorem s_pop (hx : p.tables.exec = Jvm.exec) (hb : c.code = cc) {aux : List Nat} {v : Int32} {pc : Nat} {ls : XL} {st : List Value} {sl : Nat} {h : List AC} {b : Bool} {x1 x2 : XR} (hdg : decode cc pc = .ok (.pop, 1)) (hd : dec (.pop) (pc + 1) aux v pc ls st sl h = some (.inl (b, x1, x2))) (k1 : b = true → x_At p l e R9 s m args below meth c Q D ad0 A n0 s0 nL x1) (k2 : b = false → x2.1 ≠ 65535 ∧ x_At p l e R9 s m args below meth c Q D ad0 A n0 s0 nL x2) : x_At p l e R9 s m args below meth c Q D ad0 A n0 s0 nL (pc, ls, st, sl, h) := by
  simp only [dec] at hd
  split at hd
  · obtain ⟨rfl, rfl⟩ := x_nx_eq hd
    intro ad ca H locs cells slots la hp
    exact lv_pop hx hb hdg rfl (k1 rfl ad ca H locs cells slots la (Ph_st hp (w_t (Ph_v hp))))
  · obtain ⟨rfl, rfl⟩ := x_nx_eq hd
    intro ad ca H locs cells slots la hp
    exact lv_pop hx hb hdg rfl (k1 rfl ad ca H locs cells slots la (Ph_st hp (w_t (Ph_v hp))))
  · cases hd

theorem s_iconst (hx : p.tables.exec = Jvm.exec) (hb : c.code = cc) {q0 : Int} {aux : List Nat} {v : Int32} {pc : Nat} {ls : XL} {st : List Value} {sl : Nat} {h : List AC} {b : Bool} {x1 x2 : XR} (hv0 : Int32.ofInt q0 = v) (hdg : decode cc pc = .ok (.iconst q0, 1)) (hd : dec (.iconst q0) (pc + 1) aux v pc ls st sl h = some (.inl (b, x1, x2))) (k1 : b = true → x_At p l e R9 s m args below meth c Q D ad0 A n0 s0 nL x1) (k2 : b = false → x2.1 ≠ 65535 ∧ x_At p l e R9 s m args below meth c Q D ad0 A n0 s0 nL x2) : x_At p l e R9 s m args below meth c Q D ad0 A n0 s0 nL (pc, ls, st, sl, h) := by
  obtain ⟨rfl, rfl⟩ := x_nx_eq hd
  intro ad ca H locs cells slots la hp
  exact lv_iconst hx hb hdg hv0 (k1 rfl ad ca H locs cells slots la (Ph_st hp (w_c trivial (Ph_v hp))))

theorem s_bipush (hx : p.tables.exec = Jvm.exec) (hb : c.code = cc) {q0 : Int} {aux : List Nat} {v : Int32} {pc : Nat} {ls : XL} {st : List Value} {sl : Nat} {h : List AC} {b : Bool} {x1 x2 : XR} (hv0 : (Int8.ofInt q0).toInt32 = v) (hdg : decode cc pc = .ok (.bipush q0, 2)) (hd : dec (.bipush q0) (pc + 2) aux v pc ls st sl h = some (.inl (b, x1, x2))) (k1 : b = true → x_At p l e R9 s m args below meth c Q D ad0 A n0 s0 nL x1) (k2 : b = false → x2.1 ≠ 65535 ∧ x_At p l e R9 s m args below meth c Q D ad0 A n0 s0 nL x2) : x_At p l e R9 s m args below meth c Q D ad0 A n0 s0 nL (pc, ls, st, sl, h) := by
  obtain ⟨rfl, rfl⟩ := x_nx_eq hd
  intro ad ca H locs cells slots la hp
  exact lv_bipush hx hb hdg hv0 (k1 rfl ad ca H locs cells slots la (Ph_st hp (w_c trivial (Ph_v hp))))

theorem s_sipush (hx : p.tables.exec = Jvm.exec) (hb : c.code = cc) {q0 : Int} {aux : List Nat} {v : Int32} {pc : Nat} {ls : XL} {st : List Value} {sl : Nat} {h : List AC} {b : Bool} {x1 x2 : XR} (hv0 : (Int16.ofInt q0).toInt32 = v) (hdg : decode cc pc = .ok (.sipush q0, 3)) (hd : dec (.sipush q0) (pc + 3) aux v pc ls st sl h = some (.inl (b, x1, x2))) (k1 : b = true → x_At p l e R9 s m args below meth c Q D ad0 A n0 s0 nL x1) (k2 : b = false → x2.1 ≠ 65535 ∧ x_At p l e R9 s m args below meth c Q D ad0 A n0 s0 nL x2) : x_At p l e R9 s m args below meth c Q D ad0 A n0 s0 nL (pc, ls, st, sl, h) := by
  obtain ⟨rfl, rfl⟩ := x_nx_eq hd
  intro ad ca H locs cells slots la hp
  exact lv_sipush hx hb hdg hv0 (k1 rfl ad ca H locs cells slots la (Ph_st hp (w_c trivial (Ph_v hp))))

theorem s_lconst (hx : p.tables.exec = Jvm.exec) (hb : c.code = cc) {q0 : Fin 2} {aux : List Nat} {v : Int32} {pc : Nat} {ls : XL} {st : List Value} {sl : Nat} {h : List AC} {b : Bool} {x1 x2 : XR} (hdg : decode cc pc = .ok (.lconst q0, 1)) (hd : dec (.lconst q0) (pc + 1) aux v pc ls st sl h = some (.inl (b, x1, x2))) (k1 : b = true → x_At p l e R9 s m args below meth c Q D ad0 A n0 s0 nL x1) (k2 : b = false → x2.1 ≠ 65535 ∧ x_At p l e R9 s m args below meth c Q D ad0 A n0 s0 nL x2) : x_At p l e R9 s m args below meth c Q D ad0 A n0 s0 nL (pc, ls, st, sl, h) := by
  obtain ⟨rfl, rfl⟩ := x_nx_eq hd
  intro ad ca H locs cells slots la hp
  exact lv_lconst hx hb hdg rfl (k1 rfl ad ca H locs cells slots la (Ph_st hp (w_c trivial (Ph_v hp))))

theorem s_null (hx : p.tables.exec = Jvm.exec) (hb : c.code = cc) {aux : List Nat} {v : Int32} {pc : Nat} {ls : XL} {st : List Value} {sl : Nat} {h : List AC} {b : Bool} {x1 x2 : XR} (hdg : decode cc pc = .ok (.aconst_null, 1)) (hd : dec (.aconst_null) (pc + 1) aux v pc ls st sl h = some (.inl (b, x1, x2))) (k1 : b = true → x_At p l e R9 s m args below meth c Q D ad0 A n0 s0 nL x1) (k2 : b = false → x2.1 ≠ 65535 ∧ x_At p l e R9 s m args below meth c Q D ad0 A n0 s0 nL x2) : x_At p l e R9 s m args below meth c Q D ad0 A n0 s0 nL (pc, ls, st, sl, h) := by
  obtain ⟨rfl, rfl⟩ := x_nx_eq hd
  intro ad ca H locs cells slots la hp
  exact lv_null hx hb hdg (k1 rfl ad ca H locs cells slots la (Ph_st hp (w_c trivial (Ph_v hp))))

theorem s_iload (hx : p.tables.exec = Jvm.exec) (hb : c.code = cc) {q0 : Nat} {aux : List Nat} {v : Int32} {pc : Nat} {ls : XL} {st : List Value} {sl : Nat} {h : List AC} {b : Bool} {x1 x2 : XR} (hdg : decode cc pc = .ok (.iload q0, 2)) (hd : dec (.iload q0) (pc + 2) aux v pc ls st sl h = some (.inl (b, x1, x2))) (k1 : b = true → x_At p l e R9 s m args below meth c Q D ad0 A n0 s0 nL x1) (k2 : b = false → x2.1 ≠ 65535 ∧ x_At p l e R9 s m args below meth c Q D ad0 A n0 s0 nL x2) : x_At p l e R9 s m args below meth c Q D ad0 A n0 s0 nL (pc, ls, st, sl, h) := by
  simp only [dec] at hd
  split at hd
  · rename_i x he
    obtain ⟨rfl, rfl⟩ := x_nx_eq hd
    intro ad ca H locs cells slots la hp
    exact lv_iload hx hb hdg (Ph_ld hp he).1 (k1 rfl ad ca H locs cells slots la (Ph_st hp (w_c trivial (Ph_v hp))))
  · cases hd

theorem s_iload_n (hx : p.tables.exec = Jvm.exec) (hb : c.code = cc) {q0 : Fin 4} {aux : List Nat} {v : Int32} {pc : Nat} {ls : XL} {st : List Value} {sl : Nat} {h : List AC} {b : Bool} {x1 x2 : XR} (hdg : decode cc pc = .ok (.iload_n q0, 1)) (hd : dec (.iload_n q0) (pc + 1) aux v pc ls st sl h = some (.inl (b, x1, x2))) (k1 : b = true → x_At p l e R9 s m args below meth c Q D ad0 A n0 s0 nL x1) (k2 : b = false → x2.1 ≠ 65535 ∧ x_At p l e R9 s m args below meth c Q D ad0 A n0 s0 nL x2) : x_At p l e R9 s m args below meth c Q D ad0 A n0 s0 nL (pc, ls, st, sl, h) := by
  simp only [dec] at hd
  split at hd
  · rename_i x he
    obtain ⟨rfl, rfl⟩ := x_nx_eq hd
    intro ad ca H locs cells slots la hp
    exact lv_iload_n hx hb hdg rfl (Ph_ld hp he).1 (k1 rfl ad ca H locs cells slots la (Ph_st hp (w_c trivial (Ph_v hp))))
  · cases hd

theorem s_lload (hx : p.tables.exec = Jvm.exec) (hb : c.code = cc) {q0 : Nat} {aux : List Nat} {v : Int32} {pc : Nat} {ls : XL} {st : List Value} {sl : Nat} {h : List AC} {b : Bool} {x1 x2 : XR} (hdg : decode cc pc = .ok (.lload q0, 2)) (hd : dec (.lload q0) (pc + 2) aux v pc ls st sl h = some (.inl (b, x1, x2))) (k1 : b = true → x_At p l e R9 s m args below meth c Q D ad0 A n0 s0 nL x1) (k2 : b = false → x2.1 ≠ 65535 ∧ x_At p l e R9 s m args below meth c Q D ad0 A n0 s0 nL x2) : x_At p l e R9 s m args below meth c Q D ad0 A n0 s0 nL (pc, ls, st, sl, h) := by
  simp only [dec] at hd
  split at hd
  · rename_i x he
    obtain ⟨rfl, rfl⟩ := x_nx_eq hd
    intro ad ca H locs cells slots la hp
    exact lv_lload hx hb hdg (Ph_ld hp he).1 (k1 rfl ad ca H locs cells slots la (Ph_st hp (w_c trivial (Ph_v hp))))
  · cases hd

theorem s_lload_n (hx : p.tables.exec = Jvm.exec) (hb : c.code = cc) {q0 : Fin 4} {aux : List Nat} {v : Int32} {pc : Nat} {ls : XL} {st : List Value} {sl : Nat} {h : List AC} {b : Bool} {x1 x2 : XR} (hdg : decode cc pc = .ok (.lload_n q0, 1)) (hd : dec (.lload_n q0) (pc + 1) aux v pc ls st sl h = some (.inl (b, x1, x2))) (k1 : b = true → x_At p l e R9 s m args below meth c Q D ad0 A n0 s0 nL x1) (k2 : b = false → x2.1 ≠ 65535 ∧ x_At p l e R9 s m args below meth c Q D ad0 A n0 s0 nL x2) : x_At p l e R9 s m args below meth c Q D ad0 A n0 s0 nL (pc, ls, st, sl, h) := by
  simp only [dec] at hd
  split at hd
  · rename_i x he
    obtain ⟨rfl, rfl⟩ := x_nx_eq hd
    intro ad ca H locs cells slots la hp
    exact lv_lload_n hx hb hdg rfl (Ph_ld hp he).1 (k1 rfl ad ca H locs cells slots la (Ph_st hp (w_c trivial (Ph_v hp))))
  · cases hd

theorem s_aload (hx : p.tables.exec = Jvm.exec) (hb : c.code = cc) {q0 : Nat} {aux : List Nat} {v : Int32} {pc : Nat} {ls : XL} {st : List Value} {sl : Nat} {h : List AC} {b : Bool} {x1 x2 : XR} (hdg : decode cc pc = .ok (.aload q0, 2)) (hd : dec (.aload q0) (pc + 2) aux v pc ls st sl h = some (.inl (b, x1, x2))) (k1 : b = true → x_At p l e R9 s m args below meth c Q D ad0 A n0 s0 nL x1) (k2 : b = false → x2.1 ≠ 65535 ∧ x_At p l e R9 s m args below meth c Q D ad0 A n0 s0 nL x2) : x_At p l e R9 s m args below meth c Q D ad0 A n0 s0 nL (pc, ls, st, sl, h) := by
  simp only [dec] at hd
  split at hd
  · rename_i a he
    obtain ⟨rfl, rfl⟩ := x_nx_eq hd
    intro ad ca H locs cells slots la hp
    exact lv_aload hx hb hdg (Ph_ld hp he).1 (k1 rfl ad ca H locs cells slots la (Ph_st hp (w_c (Ph_ld hp he).2 (Ph_v hp))))
  · rename_i he
    obtain ⟨rfl, rfl⟩ := x_nx_eq hd
    intro ad ca H locs cells slots la hp
    exact lv_aloadN hx hb hdg (Ph_ld hp he).1 (k1 rfl ad ca H locs cells slots la (Ph_st hp (w_c trivial (Ph_v hp))))
  · cases hd

theorem s_aload_n (hx : p.tables.exec = Jvm.exec) (hb : c.code = cc) {q0 : Fin 4} {aux : List Nat} {v : Int32} {pc : Nat} {ls : XL} {st : List Value} {sl : Nat} {h : List AC} {b : Bool} {x1 x2 : XR} (hdg : decode cc pc = .ok (.aload_n q0, 1)) (hd : dec (.aload_n q0) (pc + 1) aux v pc ls st sl h = some (.inl (b, x1, x2))) (k1 : b = true → x_At p l e R9 s m args below meth c Q D ad0 A n0 s0 nL x1) (k2 : b = false → x2.1 ≠ 65535 ∧ x_At p l e R9 s m args below meth c Q D ad0 A n0 s0 nL x2) : x_At p l e R9 s m args below meth c Q D ad0 A n0 s0 nL (pc, ls, st, sl, h) := by
  simp only [dec] at hd
  split at hd
  · rename_i a he
    obtain ⟨rfl, rfl⟩ := x_nx_eq hd
    intro ad ca H locs cells slots la hp
    exact lv_aload_n hx hb hdg rfl (Ph_ld hp he).1 (k1 rfl ad ca H locs cells slots la (Ph_st hp (w_c (Ph_ld hp he).2 (Ph_v hp))))
  · rename_i he
    obtain ⟨rfl, rfl⟩ := x_nx_eq hd
    intro ad ca H locs cells slots la hp
    exact lv_aload_nN hx hb hdg rfl (Ph_ld hp he).1 (k1 rfl ad ca H locs cells slots la (Ph_st hp (w_c trivial (Ph_v hp))))
  · cases hd

theorem s_istore (hx : p.tables.exec = Jvm.exec) (hb : c.code = cc) {q0 : Nat} {aux : List Nat} {v : Int32} {pc : Nat} {ls : XL} {st : List Value} {sl : Nat} {h : List AC} {b : Bool} {x1 x2 : XR} (hdg : decode cc pc = .ok (.istore q0, 2)) (hd : dec (.istore q0) (pc + 2) aux v pc ls st sl h = some (.inl (b, x1, x2))) (k1 : b = true → x_At p l e R9 s m args below meth c Q D ad0 A n0 s0 nL x1) (k2 : b = false → x2.1 ≠ 65535 ∧ x_At p l e R9 s m args below meth c Q D ad0 A n0 s0 nL x2) : x_At p l e R9 s m args below meth c Q D ad0 A n0 s0 nL (pc, ls, st, sl, h) := by
  simp only [dec] at hd
  split at hd
  · rename_i x st
    obtain ⟨hf, hk, hd⟩ := x_st1_some hd
    obtain ⟨rfl, rfl⟩ := x_nx_eq hd
    intro ad ca H locs cells slots la hp
    have hlen : ls.length = nL := hp.2.2.2.2.2.2.2.2.2.2
    refine lv_istore (lv := lvL ad ls) hx hb hdg hp.2.2.2.2.2.2.2.2.2.1 (by omega) rfl (fun la' hl => ?_)
    exact k1 rfl ad ca H locs cells slots la' (Ph_s1 (v := .int x) hp hf hk trivial (fun v hv => Ph_v hp v (List.mem_cons_of_mem _ hv)) hl)
  · cases hd

theorem s_lstore (hx : p.tables.exec = Jvm.exec) (hb : c.code = cc) {q0 : Nat} {aux : List Nat} {v : Int32} {pc : Nat} {ls : XL} {st : List Value} {sl : Nat} {h : List AC} {b : Bool} {x1 x2 : XR} (hdg : decode cc pc = .ok (.lstore q0, 2)) (hd : dec (.lstore q0) (pc + 2) aux v pc ls st sl h = some (.inl (b, x1, x2))) (k1 : b = true → x_At p l e R9 s m args below meth c Q D ad0 A n0 s0 nL x1) (k2 : b = false → x2.1 ≠ 65535 ∧ x_At p l e R9 s m args below meth c Q D ad0 A n0 s0 nL x2) : x_At p l e R9 s m args below meth c Q D ad0 A n0 s0 nL (pc, ls, st, sl, h) := by
  simp only [dec] at hd
  split at hd
  · rename_i x st
    obtain ⟨hf, hk, hd⟩ := x_st2_some hd
    obtain ⟨rfl, rfl⟩ := x_nx_eq hd
    intro ad ca H locs cells slots la hp
    have hlen : ls.length = nL := hp.2.2.2.2.2.2.2.2.2.2
    refine lv_lstore (lv := lvL ad ls) hx hb hdg hp.2.2.2.2.2.2.2.2.2.1 (by omega) rfl (fun la' hl => ?_)
    exact k1 rfl ad ca H locs cells slots la' (Ph_s2 (v := .long x) hp hf hk trivial (fun v hv => Ph_v hp v (List.mem_cons_of_mem _ hv)) hl)
  · cases hd

theorem s_astore (hx : p.tables.exec = Jvm.exec) (hb : c.code = cc) {q0 : Nat} {aux : List Nat} {v : Int32} {pc : Nat} {ls : XL} {st : List Value} {sl : Nat} {h : List AC} {b : Bool} {x1 x2 : XR} (hdg : decode cc pc = .ok (.astore q0, 2)) (hd : dec (.astore q0) (pc + 2) aux v pc ls st sl h = some (.inl (b, x1, x2))) (k1 : b = true → x_At p l e R9 s m args below meth c Q D ad0 A n0 s0 nL x1) (k2 : b = false → x2.1 ≠ 65535 ∧ x_At p l e R9 s m args below meth c Q D ad0 A n0 s0 nL x2) : x_At p l e R9 s m args below meth c Q D ad0 A n0 s0 nL (pc, ls, st, sl, h) := by
  simp only [dec] at hd
  split at hd
  · rename_i x st
    obtain ⟨hf, hk, hd⟩ := x_st1_some hd
    obtain ⟨rfl, rfl⟩ := x_nx_eq hd
    intro ad ca H locs cells slots la hp
    have hlen : ls.length = nL := hp.2.2.2.2.2.2.2.2.2.2
    refine lv_astore (lv := lvL ad ls) hx hb hdg hp.2.2.2.2.2.2.2.2.2.1 (by omega) rfl (fun la' hl => ?_)
    exact k1 rfl ad ca H locs cells slots la' (Ph_s1 hp hf hk (Ph_v hp _ List.mem_cons_self) (fun v hv => Ph_v hp v (List.mem_cons_of_mem _ hv)) hl)
  · rename_i st
    obtain ⟨hf, hk, hd⟩ := x_st1_some hd
    obtain ⟨rfl, rfl⟩ := x_nx_eq hd
    intro ad ca H locs cells slots la hp
    have hlen : ls.length = nL := hp.2.2.2.2.2.2.2.2.2.2
    refine lv_astoreN (lv := lvL ad ls) hx hb hdg hp.2.2.2.2.2.2.2.2.2.1 (by omega) rfl (fun la' hl => ?_)
    exact k1 rfl ad ca H locs cells slots la' (Ph_s1 (v := .null) hp hf hk trivial (fun v hv => Ph_v hp v (List.mem_cons_of_mem _ hv)) hl)
  · cases hd

theorem s_istore_n (hx : p.tables.exec = Jvm.exec) (hb : c.code = cc) {q0 : Fin 4} {aux : List Nat} {v : Int32} {pc : Nat} {ls : XL} {st : List Value} {sl : Nat} {h : List AC} {b : Bool} {x1 x2 : XR} (hdg : decode cc pc = .ok (.istore_n q0, 1)) (hd : dec (.istore_n q0) (pc + 1) aux v pc ls st sl h = some (.inl (b, x1, x2))) (k1 : b = true → x_At p l e R9 s m args below meth c Q D ad0 A n0 s0 nL x1) (k2 : b = false → x2.1 ≠ 65535 ∧ x_At p l e R9 s m args below meth c Q D ad0 A n0 s0 nL x2) : x_At p l e R9 s m args below meth c Q D ad0 A n0 s0 nL (pc, ls, st, sl, h) := by
  simp only [dec] at hd
  split at hd
  · rename_i x st
    obtain ⟨hf, hk, hd⟩ := x_st1_some hd
    obtain ⟨rfl, rfl⟩ := x_nx_eq hd
    intro ad ca H locs cells slots la hp
    have hlen : ls.length = nL := hp.2.2.2.2.2.2.2.2.2.2
    refine lv_istore_n (lv := lvL ad ls) hx hb hdg rfl hp.2.2.2.2.2.2.2.2.2.1 (by omega) rfl (fun la' hl => ?_)
    exact k1 rfl ad ca H locs cells slots la' (Ph_s1 (v := .int x) hp hf hk trivial (fun v hv => Ph_v hp v (List.mem_cons_of_mem _ hv)) hl)
  · cases hd

theorem s_lstore_n (hx : p.tables.exec = Jvm.exec) (hb : c.code = cc) {q0 : Fin 4} {aux : List Nat} {v : Int32} {pc : Nat} {ls : XL} {st : List Value} {sl : Nat} {h : List AC} {b : Bool} {x1 x2 : XR} (hdg : decode cc pc = .ok (.lstore_n q0, 1)) (hd : dec (.lstore_n q0) (pc + 1) aux v pc ls st sl h = some (.inl (b, x1, x2))) (k1 : b = true → x_At p l e R9 s m args below meth c Q D ad0 A n0 s0 nL x1) (k2 : b = false → x2.1 ≠ 65535 ∧ x_At p l e R9 s m args below meth c Q D ad0 A n0 s0 nL x2) : x_At p l e R9 s m args below meth c Q D ad0 A n0 s0 nL (pc, ls, st, sl, h) := by
  simp only [dec] at hd
  split at hd
  · rename_i x st
    obtain ⟨hf, hk, hd⟩ := x_st2_some hd
    obtain ⟨rfl, rfl⟩ := x_nx_eq hd
    intro ad ca H locs cells slots la hp
    have hlen : ls.length = nL := hp.2.2.2.2.2.2.2.2.2.2
    refine lv_lstore_n (lv := lvL ad ls) hx hb hdg rfl hp.2.2.2.2.2.2.2.2.2.1 (by omega) rfl (fun la' hl => ?_)
    exact k1 rfl ad ca H locs cells slots la' (Ph_s2 (v := .long x) hp hf hk trivial (fun v hv => Ph_v hp v (List.mem_cons_of_mem _ hv)) hl)
  · cases hd

theorem s_astore_n (hx : p.tables.exec = Jvm.exec) (hb : c.code = cc) {q0 : Fin 4} {aux : List Nat} {v : Int32} {pc : Nat} {ls : XL} {st : List Value} {sl : Nat} {h : List AC} {b : Bool} {x1 x2 : XR} (hdg : decode cc pc = .ok (.astore_n q0, 1)) (hd : dec (.astore_n q0) (pc + 1) aux v pc ls st sl h = some (.inl (b, x1, x2))) (k1 : b = true → x_At p l e R9 s m args below meth c Q D ad0 A n0 s0 nL x1) (k2 : b = false → x2.1 ≠ 65535 ∧ x_At p l e R9 s m args below meth c Q D ad0 A n0 s0 nL x2) : x_At p l e R9 s m args below meth c Q D ad0 A n0 s0 nL (pc, ls, st, sl, h) := by
  simp only [dec] at hd
  split at hd
  · rename_i x st
    obtain ⟨hf, hk, hd⟩ := x_st1_some hd
    obtain ⟨rfl, rfl⟩ := x_nx_eq hd
    intro ad ca H locs cells slots la hp
    have hlen : ls.length = nL := hp.2.2.2.2.2.2.2.2.2.2
    refine lv_astore_n (lv := lvL ad ls) hx hb hdg rfl hp.2.2.2.2.2.2.2.2.2.1 (by omega) rfl (fun la' hl => ?_)
    exact k1 rfl ad ca H locs cells slots la' (Ph_s1 hp hf hk (Ph_v hp _ List.mem_cons_self) (fun v hv => Ph_v hp v (List.mem_cons_of_mem _ hv)) hl)
  · rename_i st
    obtain ⟨hf, hk, hd⟩ := x_st1_some hd
    obtain ⟨rfl, rfl⟩ := x_nx_eq hd
    intro ad ca H locs cells slots la hp
    have hlen : ls.length = nL := hp.2.2.2.2.2.2.2.2.2.2
    refine lv_astore_nN (lv := lvL ad ls) hx hb hdg rfl hp.2.2.2.2.2.2.2.2.2.1 (by omega) rfl (fun la' hl => ?_)
    exact k1 rfl ad ca H locs cells slots la' (Ph_s1 (v := .null) hp hf hk trivial (fun v hv => Ph_v hp v (List.mem_cons_of_mem _ hv)) hl)
  · cases hd

theorem s_iinc (hx : p.tables.exec = Jvm.exec) (hb : c.code = cc) {q0 : Nat} {q1 : Int} {aux : List Nat} {v : Int32} {pc : Nat} {ls : XL} {st : List Value} {sl : Nat} {h : List AC} {b : Bool} {x1 x2 : XR} (hv0 : Int32.ofInt q1 = v) (hdg : decode cc pc = .ok (.iinc q0 q1, 3)) (hd : dec (.iinc q0 q1) (pc + 3) aux v pc ls st sl h = some (.inl (b, x1, x2))) (k1 : b = true → x_At p l e R9 s m args below meth c Q D ad0 A n0 s0 nL x1) (k2 : b = false → x2.1 ≠ 65535 ∧ x_At p l e R9 s m args below meth c Q D ad0 A n0 s0 nL x2) : x_At p l e R9 s m args below meth c Q D ad0 A n0 s0 nL (pc, ls, st, sl, h) := by
  simp only [dec] at hd
  split at hd
  · rename_i x he
    obtain ⟨hf, hk, hd⟩ := x_st1_some hd
    obtain ⟨rfl, rfl⟩ := x_nx_eq hd
    intro ad ca H locs cells slots la hp
    have hlen : ls.length = nL := hp.2.2.2.2.2.2.2.2.2.2
    have hm : (q0, Value.int x) ∈ lvL ad ls := mem_lvL.mpr ⟨.int x, by rw [← x_at_eq]; exact he, rfl⟩
    obtain ⟨j, hj⟩ := List.mem_iff_getElem?.mp hm
    refine lv_iinc (lv := lvL ad ls) (k := j) (x := x) (v := x + v) hx hb hdg hp.2.2.2.2.2.2.2.2.2.1 hj (by rw [hv0]) (by omega) rfl (fun la' hl => ?_)
    exact k1 rfl ad ca H locs cells slots la' (Ph_s1 (v := .int (x + v)) hp hf hk trivial (Ph_v hp) hl)
  · cases hd

theorem s_icmp_eq (hx : p.tables.exec = Jvm.exec) (hb : c.code = cc) {q0 : Int} {aux : List Nat} {v : Int32} {pc : Nat} {ls : XL} {st : List Value} {sl : Nat} {h : List AC} {b : Bool} {x1 x2 : XR} (ht : ∀ t, aux = [t] → (pc : Int) + q0 = (t : Int)) (hdg : decode cc pc = .ok (.if_icmp .eq q0, 3)) (hd : dec (.if_icmp .eq q0) (pc + 3) aux v pc ls st sl h = some (.inl (b, x1, x2))) (k1 : b = true → x_At p l e R9 s m args below meth c Q D ad0 A n0 s0 nL x1) (k2 : b = false → x2.1 ≠ 65535 ∧ x_At p l e R9 s m args below meth c Q D ad0 A n0 s0 nL x2) : x_At p l e R9 s m args below meth c Q D ad0 A n0 s0 nL (pc, ls, st, sl, h) := by
  simp only [dec] at hd
  split at hd
  · rename_i t
    obtain ⟨rfl, rfl, rfl⟩ := x_br_eq hd
    intro ad ca H locs cells slots la hp
    refine lv_icmp_eq hx hb hdg (ht _ rfl) (fun hq => ?_) (fun hq => ?_)
    · exact k1 (by simp [hq]) ad ca H locs cells slots la (Ph_st hp (w_t (w_t (Ph_v hp))))
    · exact (k2 (by simp [hq])).2 ad ca H locs cells slots la (Ph_st hp (w_t (w_t (Ph_v hp))))
  · cases hd

theorem s_if_eq (hx : p.tables.exec = Jvm.exec) (hb : c.code = cc) {q0 : Int} {aux : List Nat} {v : Int32} {pc : Nat} {ls : XL} {st : List Value} {sl : Nat} {h : List AC} {b : Bool} {x1 x2 : XR} (ht : ∀ t, aux = [t] → (pc : Int) + q0 = (t : Int)) (hdg : decode cc pc = .ok (.ifCond .eq q0, 3)) (hd : dec (.ifCond .eq q0) (pc + 3) aux v pc ls st sl h = some (.inl (b, x1, x2))) (k1 : b = true → x_At p l e R9 s m args below meth c Q D ad0 A n0 s0 nL x1) (k2 : b = false → x2.1 ≠ 65535 ∧ x_At p l e R9 s m args below meth c Q D ad0 A n0 s0 nL x2) : x_At p l e R9 s m args below meth c Q D ad0 A n0 s0 nL (pc, ls, st, sl, h) := by
  simp only [dec] at hd
  split at hd
  · rename_i t
    obtain ⟨rfl, rfl, rfl⟩ := x_br_eq hd
    intro ad ca H locs cells slots la hp
    refine lv_if_eq hx hb hdg (ht _ rfl) (fun hq => ?_) (fun hq => ?_)
    · exact k1 (by simp [hq]) ad ca H locs cells slots la (Ph_st hp (w_t (Ph_v hp)))
    · exact (k2 (by simp [hq])).2 ad ca H locs cells slots la (Ph_st hp (w_t (Ph_v hp)))
  · cases hd

theorem s_icmp_ne (hx : p.tables.exec = Jvm.exec) (hb : c.code = cc) {q0 : Int} {aux : List Nat} {v : Int32} {pc : Nat} {ls : XL} {st : List Value} {sl : Nat} {h : List AC} {b : Bool} {x1 x2 : XR} (ht : ∀ t, aux = [t] → (pc : Int) + q0 = (t : Int)) (hdg : decode cc pc = .ok (.if_icmp .ne q0, 3)) (hd : dec (.if_icmp .ne q0) (pc + 3) aux v pc ls st sl h = some (.inl (b, x1, x2))) (k1 : b = true → x_At p l e R9 s m args below meth c Q D ad0 A n0 s0 nL x1) (k2 : b = false → x2.1 ≠ 65535 ∧ x_At p l e R9 s m args below meth c Q D ad0 A n0 s0 nL x2) : x_At p l e R9 s m args below meth c Q D ad0 A n0 s0 nL (pc, ls, st, sl, h) := by
  simp only [dec] at hd
  split at hd
  · rename_i t
    obtain ⟨rfl, rfl, rfl⟩ := x_br_eq hd
    intro ad ca H locs cells slots la hp
    refine lv_icmp_ne hx hb hdg (ht _ rfl) (fun hq => ?_) (fun hq => ?_)
    · exact k1 (by simp [hq]) ad ca H locs cells slots la (Ph_st hp (w_t (w_t (Ph_v hp))))
    · exact (k2 (by simp [hq])).2 ad ca H locs cells slots la (Ph_st hp (w_t (w_t (Ph_v hp))))
  · cases hd

theorem s_if_ne (hx : p.tables.exec = Jvm.exec) (hb : c.code = cc) {q0 : Int} {aux : List Nat} {v : Int32} {pc : Nat} {ls : XL} {st : List Value} {sl : Nat} {h : List AC} {b : Bool} {x1 x2 : XR} (ht : ∀ t, aux = [t] → (pc : Int) + q0 = (t : Int)) (hdg : decode cc pc = .ok (.ifCond .ne q0, 3)) (hd : dec (.ifCond .ne q0) (pc + 3) aux v pc ls st sl h = some (.inl (b, x1, x2))) (k1 : b = true → x_At p l e R9 s m args below meth c Q D ad0 A n0 s0 nL x1) (k2 : b = false → x2.1 ≠ 65535 ∧ x_At p l e R9 s m args below meth c Q D ad0 A n0 s0 nL x2) : x_At p l e R9 s m args below meth c Q D ad0 A n0 s0 nL (pc, ls, st, sl, h) := by
  simp only [dec] at hd
  split at hd
  · rename_i t
    obtain ⟨rfl, rfl, rfl⟩ := x_br_eq hd
    intro ad ca H locs cells slots la hp
    refine lv_if_ne hx hb hdg (ht _ rfl) (fun hq => ?_) (fun hq => ?_)
    · exact k1 (by simp [hq]) ad ca H locs cells slots la (Ph_st hp (w_t (Ph_v hp)))
    · exact (k2 (by simp [hq])).2 ad ca H locs cells slots la (Ph_st hp (w_t (Ph_v hp)))
  · cases hd

theorem s_icmp_lt (hx : p.tables.exec = Jvm.exec) (hb : c.code = cc) {q0 : Int} {aux : List Nat} {v : Int32} {pc : Nat} {ls : XL} {st : List Value} {sl : Nat} {h : List AC} {b : Bool} {x1 x2 : XR} (ht : ∀ t, aux = [t] → (pc : Int) + q0 = (t : Int)) (hdg : decode cc pc = .ok (.if_icmp .lt q0, 3)) (hd : dec (.if_icmp .lt q0) (pc + 3) aux v pc ls st sl h = some (.inl (b, x1, x2))) (k1 : b = true → x_At p l e R9 s m args below meth c Q D ad0 A n0 s0 nL x1) (k2 : b = false → x2.1 ≠ 65535 ∧ x_At p l e R9 s m args below meth c Q D ad0 A n0 s0 nL x2) : x_At p l e R9 s m args below meth c Q D ad0 A n0 s0 nL (pc, ls, st, sl, h) := by
  simp only [dec] at hd
  split at hd
  · rename_i t
    obtain ⟨rfl, rfl, rfl⟩ := x_br_eq hd
    intro ad ca H locs cells slots la hp
    refine lv_icmp_lt hx hb hdg (ht _ rfl) (fun hq => ?_) (fun hq => ?_)
    · exact k1 (by simp [hq]) ad ca H locs cells slots la (Ph_st hp (w_t (w_t (Ph_v hp))))
    · exact (k2 (by simp [hq])).2 ad ca H locs cells slots la (Ph_st hp (w_t (w_t (Ph_v hp))))
  · cases hd

theorem s_if_lt (hx : p.tables.exec = Jvm.exec) (hb : c.code = cc) {q0 : Int} {aux : List Nat} {v : Int32} {pc : Nat} {ls : XL} {st : List Value} {sl : Nat} {h : List AC} {b : Bool} {x1 x2 : XR} (ht : ∀ t, aux = [t] → (pc : Int) + q0 = (t : Int)) (hdg : decode cc pc = .ok (.ifCond .lt q0, 3)) (hd : dec (.ifCond .lt q0) (pc + 3) aux v pc ls st sl h = some (.inl (b, x1, x2))) (k1 : b = true → x_At p l e R9 s m args below meth c Q D ad0 A n0 s0 nL x1) (k2 : b = false → x2.1 ≠ 65535 ∧ x_At p l e R9 s m args below meth c Q D ad0 A n0 s0 nL x2) : x_At p l e R9 s m args below meth c Q D ad0 A n0 s0 nL (pc, ls, st, sl, h) := by
  simp only [dec] at hd
  split at hd
  · rename_i t
    obtain ⟨rfl, rfl, rfl⟩ := x_br_eq hd
    intro ad ca H locs cells slots la hp
    refine lv_if_lt hx hb hdg (ht _ rfl) (fun hq => ?_) (fun hq => ?_)
    · exact k1 (by simp [hq]) ad ca H locs cells slots la (Ph_st hp (w_t (Ph_v hp)))
    · exact (k2 (by simp [hq])).2 ad ca H locs cells slots la (Ph_st hp (w_t (Ph_v hp)))
  · cases hd

theorem s_icmp_ge (hx : p.tables.exec = Jvm.exec) (hb : c.code = cc) {q0 : Int} {aux : List Nat} {v : Int32} {pc : Nat} {ls : XL} {st : List Value} {sl : Nat} {h : List AC} {b : Bool} {x1 x2 : XR} (ht : ∀ t, aux = [t] → (pc : Int) + q0 = (t : Int)) (hdg : decode cc pc = .ok (.if_icmp .ge q0, 3)) (hd : dec (.if_icmp .ge q0) (pc + 3) aux v pc ls st sl h = some (.inl (b, x1, x2))) (k1 : b = true → x_At p l e R9 s m args below meth c Q D ad0 A n0 s0 nL x1) (k2 : b = false → x2.1 ≠ 65535 ∧ x_At p l e R9 s m args below meth c Q D ad0 A n0 s0 nL x2) : x_At p l e R9 s m args below meth c Q D ad0 A n0 s0 nL (pc, ls, st, sl, h) := by
  simp only [dec] at hd
  split at hd
  · rename_i t
    obtain ⟨rfl, rfl, rfl⟩ := x_br_eq hd
    intro ad ca H locs cells slots la hp
    refine lv_icmp_ge hx hb hdg (ht _ rfl) (fun hq => ?_) (fun hq => ?_)
    · exact k1 (by simp [hq]) ad ca H locs cells slots la (Ph_st hp (w_t (w_t (Ph_v hp))))
    · exact (k2 (by simp [hq])).2 ad ca H locs cells slots la (Ph_st hp (w_t (w_t (Ph_v hp))))
  · cases hd

theorem s_if_ge (hx : p.tables.exec = Jvm.exec) (hb : c.code = cc) {q0 : Int} {aux : List Nat} {v : Int32} {pc : Nat} {ls : XL} {st : List Value} {sl : Nat} {h : List AC} {b : Bool} {x1 x2 : XR} (ht : ∀ t, aux = [t] → (pc : Int) + q0 = (t : Int)) (hdg : decode cc pc = .ok (.ifCond .ge q0, 3)) (hd : dec (.ifCond .ge q0) (pc + 3) aux v pc ls st sl h = some (.inl (b, x1, x2))) (k1 : b = true → x_At p l e R9 s m args below meth c Q D ad0 A n0 s0 nL x1) (k2 : b = false → x2.1 ≠ 65535 ∧ x_At p l e R9 s m args below meth c Q D ad0 A n0 s0 nL x2) : x_At p l e R9 s m args below meth c Q D ad0 A n0 s0 nL (pc, ls, st, sl, h) := by
  simp only [dec] at hd
  split at hd
  · rename_i t
    obtain ⟨rfl, rfl, rfl⟩ := x_br_eq hd
    intro ad ca H locs cells slots la hp
    refine lv_if_ge hx hb hdg (ht _ rfl) (fun hq => ?_) (fun hq => ?_)
    · exact k1 (by simp [hq]) ad ca H locs cells slots la (Ph_st hp (w_t (Ph_v hp)))
    · exact (k2 (by simp [hq])).2 ad ca H locs cells slots la (Ph_st hp (w_t (Ph_v hp)))
  · cases hd

theorem s_icmp_gt (hx : p.tables.exec = Jvm.exec) (hb : c.code = cc) {q0 : Int} {aux : List Nat} {v : Int32} {pc : Nat} {ls : XL} {st : List Value} {sl : Nat} {h : List AC} {b : Bool} {x1 x2 : XR} (ht : ∀ t, aux = [t] → (pc : Int) + q0 = (t : Int)) (hdg : decode cc pc = .ok (.if_icmp .gt q0, 3)) (hd : dec (.if_icmp .gt q0) (pc + 3) aux v pc ls st sl h = some (.inl (b, x1, x2))) (k1 : b = true → x_At p l e R9 s m args below meth c Q D ad0 A n0 s0 nL x1) (k2 : b = false → x2.1 ≠ 65535 ∧ x_At p l e R9 s m args below meth c Q D ad0 A n0 s0 nL x2) : x_At p l e R9 s m args below meth c Q D ad0 A n0 s0 nL (pc, ls, st, sl, h) := by
  simp only [dec] at hd
  split at hd
  · rename_i t
    obtain ⟨rfl, rfl, rfl⟩ := x_br_eq hd
    intro ad ca H locs cells slots la hp
    refine lv_icmp_gt hx hb hdg (ht _ rfl) (fun hq => ?_) (fun hq => ?_)
    · exact k1 (by simp [hq]) ad ca H locs cells slots la (Ph_st hp (w_t (w_t (Ph_v hp))))
    · exact (k2 (by simp [hq])).2 ad ca H locs cells slots la (Ph_st hp (w_t (w_t (Ph_v hp))))
  · cases hd

theorem s_if_gt (hx : p.tables.exec = Jvm.exec) (hb : c.code = cc) {q0 : Int} {aux : List Nat} {v : Int32} {pc : Nat} {ls : XL} {st : List Value} {sl : Nat} {h : List AC} {b : Bool} {x1 x2 : XR} (ht : ∀ t, aux = [t] → (pc : Int) + q0 = (t : Int)) (hdg : decode cc pc = .ok (.ifCond .gt q0, 3)) (hd : dec (.ifCond .gt q0) (pc + 3) aux v pc ls st sl h = some (.inl (b, x1, x2))) (k1 : b = true → x_At p l e R9 s m args below meth c Q D ad0 A n0 s0 nL x1) (k2 : b = false → x2.1 ≠ 65535 ∧ x_At p l e R9 s m args below meth c Q D ad0 A n0 s0 nL x2) : x_At p l e R9 s m args below meth c Q D ad0 A n0 s0 nL (pc, ls, st, sl, h) := by
  simp only [dec] at hd
  split at hd
  · rename_i t
    obtain ⟨rfl, rfl, rfl⟩ := x_br_eq hd
    intro ad ca H locs cells slots la hp
    refine lv_if_gt hx hb hdg (ht _ rfl) (fun hq => ?_) (fun hq => ?_)
    · exact k1 (by simp [hq]) ad ca H locs cells slots la (Ph_st hp (w_t (Ph_v hp)))
    · exact (k2 (by simp [hq])).2 ad ca H locs cells slots la (Ph_st hp (w_t (Ph_v hp)))
  · cases hd

theorem s_icmp_le (hx : p.tables.exec = Jvm.exec) (hb : c.code = cc) {q0 : Int} {aux : List Nat} {v : Int32} {pc : Nat} {ls : XL} {st : List Value} {sl : Nat} {h : List AC} {b : Bool} {x1 x2 : XR} (ht : ∀ t, aux = [t] → (pc : Int) + q0 = (t : Int)) (hdg : decode cc pc = .ok (.if_icmp .le q0, 3)) (hd : dec (.if_icmp .le q0) (pc + 3) aux v pc ls st sl h = some (.inl (b, x1, x2))) (k1 : b = true → x_At p l e R9 s m args below meth c Q D ad0 A n0 s0 nL x1) (k2 : b = false → x2.1 ≠ 65535 ∧ x_At p l e R9 s m args below meth c Q D ad0 A n0 s0 nL x2) : x_At p l e R9 s m args below meth c Q D ad0 A n0 s0 nL (pc, ls, st, sl, h) := by
  simp only [dec] at hd
  split at hd
  · rename_i t
    obtain ⟨rfl, rfl, rfl⟩ := x_br_eq hd
    intro ad ca H locs cells slots la hp
    refine lv_icmp_le hx hb hdg (ht _ rfl) (fun hq => ?_) (fun hq => ?_)
    · exact k1 (by simp [hq]) ad ca H locs cells slots la (Ph_st hp (w_t (w_t (Ph_v hp))))
    · exact (k2 (by simp [hq])).2 ad ca H locs cells slots la (Ph_st hp (w_t (w_t (Ph_v hp))))
  · cases hd

theorem s_if_le (hx : p.tables.exec = Jvm.exec) (hb : c.code = cc) {q0 : Int} {aux : List Nat} {v : Int32} {pc : Nat} {ls : XL} {st : List Value} {sl : Nat} {h : List AC} {b : Bool} {x1 x2 : XR} (ht : ∀ t, aux = [t] → (pc : Int) + q0 = (t : Int)) (hdg : decode cc pc = .ok (.ifCond .le q0, 3)) (hd : dec (.ifCond .le q0) (pc + 3) aux v pc ls st sl h = some (.inl (b, x1, x2))) (k1 : b = true → x_At p l e R9 s m args below meth c Q D ad0 A n0 s0 nL x1) (k2 : b = false → x2.1 ≠ 65535 ∧ x_At p l e R9 s m args below meth c Q D ad0 A n0 s0 nL x2) : x_At p l e R9 s m args below meth c Q D ad0 A n0 s0 nL (pc, ls, st, sl, h) := by
  simp only [dec] at hd
  split at hd
  · rename_i t
    obtain ⟨rfl, rfl, rfl⟩ := x_br_eq hd
    intro ad ca H locs cells slots la hp
    refine lv_if_le hx hb hdg (ht _ rfl) (fun hq => ?_) (fun hq => ?_)
    · exact k1 (by simp [hq]) ad ca H locs cells slots la (Ph_st hp (w_t (Ph_v hp)))
    · exact (k2 (by simp [hq])).2 ad ca H locs cells slots la (Ph_st hp (w_t (Ph_v hp)))
  · cases hd

theorem s_goto (hx : p.tables.exec = Jvm.exec) (hb : c.code = cc) {q0 : Int} {aux : List Nat} {v : Int32} {pc : Nat} {ls : XL} {st : List Value} {sl : Nat} {h : List AC} {b : Bool} {x1 x2 : XR} (ht : ∀ t, aux = [t] → (pc : Int) + q0 = (t : Int)) (hdg : decode cc pc = .ok (.goto q0, 3)) (hd : dec (.goto q0) (pc + 3) aux v pc ls st sl h = some (.inl (b, x1, x2))) (k1 : b = true → x_At p l e R9 s m args below meth c Q D ad0 A n0 s0 nL x1) (k2 : b = false → x2.1 ≠ 65535 ∧ x_At p l e R9 s m args below meth c Q D ad0 A n0 s0 nL x2) : x_At p l e R9 s m args below meth c Q D ad0 A n0 s0 nL (pc, ls, st, sl, h) := by
  simp only [dec] at hd
  split at hd
  · rename_i t
    obtain ⟨rfl, rfl⟩ := x_nx_eq hd
    intro ad ca H locs cells slots la hp
    exact lv_goto hx hb hdg (ht _ rfl) (k1 rfl ad ca H locs cells slots la (Ph_st hp (Ph_v hp)))
  · cases hd

theorem s_ifnonnull (hx : p.tables.exec = Jvm.exec) (hb : c.code = cc) {q0 : Int} {aux : List Nat} {v : Int32} {pc : Nat} {ls : XL} {st : List Value} {sl : Nat} {h : List AC} {b : Bool} {x1 x2 : XR} (ht : ∀ t, aux = [t] → (pc : Int) + q0 = (t : Int)) (hdg : decode cc pc = .ok (.ifnonnull q0, 3)) (hd : dec (.ifnonnull q0) (pc + 3) aux v pc ls st sl h = some (.inl (b, x1, x2))) (k1 : b = true → x_At p l e R9 s m args below meth c Q D ad0 A n0 s0 nL x1) (k2 : b = false → x2.1 ≠ 65535 ∧ x_At p l e R9 s m args below meth c Q D ad0 A n0 s0 nL x2) : x_At p l e R9 s m args below meth c Q D ad0 A n0 s0 nL (pc, ls, st, sl, h) := by
  simp only [dec] at hd
  split at hd
  · rename_i t
    obtain ⟨rfl, rfl⟩ := x_nx_eq hd
    intro ad ca H locs cells slots la hp
    exact lv_ifnonnull hx hb hdg (ht _ rfl) (k1 rfl ad ca H locs cells slots la (Ph_st hp (fun v hv => Ph_v hp v (List.mem_cons_of_mem _ hv))))
  · obtain ⟨rfl, rfl⟩ := x_nx_eq hd
    intro ad ca H locs cells slots la hp
    exact lv_ifnonnullN hx hb hdg (k1 rfl ad ca H locs cells slots la (Ph_st hp (fun v hv => Ph_v hp v (List.mem_cons_of_mem _ hv))))
  · cases hd

end XST
