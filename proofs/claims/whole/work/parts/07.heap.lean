/-! INSTRUCTIONS THAT READ AND WRITE CELLS -/
theorem x_in_of {i : Int32} {n : Nat} (h : x_in i n = true) : vp_in i n := by
  simp only [x_in, Bool.and_eq_true, decide_eq_true_eq] at h
  exact vp_in_iff.mpr h
theorem x_fit_cv {tf : Nat} {w : Value} {ad : Nat → Nat} (h : x_fit tf w = true) : x_fit tf (cv ad w) = true := by
  cases w with
  | ref a =>
    match tf, h with
    | 0, h => cases h
    | 1, h => cases h
    | 2, h => cases h
    | 3, _ => rfl
    | n + 4, h => simp [x_fit] at h
  | _ => exact h
section XHP
variable {p : Program} {l : Launch} {e : Env} {R9 : Room} {s : State} {m : MethodId} {args : Array Value} {below : List Frame} {meth : Method} {c : Code} {Q : State → Prop} {D : va_G} {ad0 : Nat → Nat} {A : Nat → Prop} {n0 s0 nL : Nat} {cc : ByteArray}
/-- the kind of an array stays -/
def x_same (c0 c1 : AC) : Prop := ∀ t q, c1 = .inl (t, q) → ∃ q0, c0 = .inl (t, q0)
theorem Ph_set {pc pc' : Nat} {ls : XL} {st st' : List Value} {sl : Nat} {h : List AC} {ad : Nat → Nat} {ca : Nat → ClassId} {H H1 : Heap} {locs locs1 : List Loc} {cells slots : Nat} {la : Array Slot} (hp : x_Ph D ad0 A n0 s0 nL s (pc, ls, st, sl, h) ad ca H locs cells slots la) {k : Nat} {c0 c1 : AC} (hk : h[k]? = some c0) (hsame : x_same c0 c1) (hw : wC h.length c1) (hs : ∀ v ∈ st', wv h.length v)
    (hP : va_P D vwCl ((cW ad ca h).set k (ad k, cE ad ca k c1)) H1) (hD : va_D A ((cW ad ca h).set k (ad k, cE ad ca k c1))) (hS : va_S A s.heap H1 locs1) : x_Ph D ad0 A n0 s0 nL s (pc', ls, st', sl, h.set k c1) ad ca H1 locs1 cells slots la := by
  obtain ⟨h1, h2, h3, h4, h5, h6, h7, h8, h9, h10, h11⟩ := hp
  have hlen : (h.set k c1).length = h.length := List.length_set
  refine ⟨h1, by show va_P D vwCl (cW ad ca (h.set k c1)) H1; rw [cW_set]; exact hP, by show va_D A (cW ad ca (h.set k c1)); rw [cW_set]; exact hD, hS, ?_, ?_, ?_, ?_, ?_, h10, h11⟩
  · intro j t q hj
    dsimp only at hj
    by_cases hjk : k = j
    · subst hjk
      rw [List.getElem?_set_self (List.getElem?_eq_some_iff.mp hk).1] at hj
      obtain ⟨q0, e0⟩ := hsame t q (Option.some.inj hj)
      exact h5 k t q0 (by rw [← e0]; exact hk)
    · rw [List.getElem?_set_ne hjk] at hj
      exact h5 j t q hj
  · intro x hx
    show wC (h.set k c1).length x
    rw [hlen]
    rcases List.mem_or_eq_of_mem_set hx with q | q
    · exact h6 x q
    · rw [q]; exact hw
  · show wL (h.set k c1).length ls
    rw [hlen]; exact h7
  · show ∀ v ∈ st', wv (h.set k c1).length v
    rw [hlen]; exact hs
  · show cells + n0 = (h.set k c1).length ∧ slots + s0 = sl
    rw [hlen]; exact h9
theorem Ph_K {pc : Nat} {ls : XL} {st : List Value} {sl : Nat} {h : List AC} {ad : Nat → Nat} {ca : Nat → ClassId} {H : Heap} {locs : List Loc} {cells slots : Nat} {la : Array Slot} (hp : x_Ph D ad0 A n0 s0 nL s (pc, ls, st, sl, h) ad ca H locs cells slots la) (hK : va_K D vwCl [] s) {k t : Nat} {q : vp_A} (hk : h[k]? = some (.inl (t, q))) : va_K D vwCl [(ca k, tyT t)] s := by
  refine ⟨hK.1, fun j r hj => ?_⟩
  cases j with
  | zero => cases hj; exact hp.2.2.2.2.1 k t q hk
  | succ j => simp at hj
theorem Ph_wc {pc : Nat} {ls : XL} {st : List Value} {sl : Nat} {h : List AC} {ad : Nat → Nat} {ca : Nat → ClassId} {H : Heap} {locs : List Loc} {cells slots : Nat} {la : Array Slot} (hp : x_Ph D ad0 A n0 s0 nL s (pc, ls, st, sl, h) ad ca H locs cells slots la) {k : Nat} {x : AC} (hk : h[k]? = some x) : wC h.length x := hp.2.2.2.2.2.1 x (List.mem_of_getElem? hk)
theorem Ph_len {pc : Nat} {ls : XL} {st : List Value} {sl : Nat} {h : List AC} {ad : Nat → Nat} {ca : Nat → ClassId} {H : Heap} {locs : List Loc} {cells slots : Nat} {la : Array Slot} (hp : x_Ph D ad0 A n0 s0 nL s (pc, ls, st, sl, h) ad ca H locs cells slots la) : la.size = nL := hp.2.2.2.2.2.2.2.2.2.1.1
/-- what links a field: of the class itself, or of a nest mate -/
def x_lk (args : Array Value) (s : State) (own : String) (idx : Nat) (T : u_T) (k : Nat) : Prop := (Cond.fieldLink own idx (T k).1 (T k).2.1 (T k).2.2.1).before args s = true ∨ ∃ host, (Cond.fieldLinkNest own idx (T k).1 (T k).2.1 (T k).2.2.1 host).before args s = true
theorem s_getfield (hx : p.tables.exec = Jvm.exec) (hb : c.code = cc) {own : String} {Ts : List Cond} (hts : ∀ w ∈ Ts, w.before args s = true) (hown : s.vm.findClass own = some m.cls) (hK : va_K D vwCl [] s) {q0 : Nat} {ci k tf : Nat} {v : Int32} {pc : Nat} {ls : XL} {st : List Value} {sl : Nat} {h : List AC} {b : Bool} {x1 x2 : XR} (hdg : decode cc pc = .ok (.getfield q0, 3)) (hd : dec (.getfield q0) (pc + 3) [ci, k, tf] v pc ls st sl h = some (.inl (b, x1, x2)))
    {C : String} {T : u_T} {N : Nat} (hc : vwCl[ci]? = some (C, T, N)) (hk : k < N) (hin : ∀ w ∈ u_ws C T N, w ∈ Ts) (hlk : x_lk args s own q0 T k)
    (k1 : b = true → x_At p l e R9 s m args below meth c Q D ad0 A n0 s0 nL x1) : x_At p l e R9 s m args below meth c Q D ad0 A n0 s0 nL (pc, ls, st, sl, h) := by
  simp only [dec] at hd
  split at hd
  · rename_i a st ci' k' t' heq
    cases heq
    split at hd
    · rename_i cj fs hcell
      split at hd
      · rename_i w hbeq hw
        obtain ⟨rfl, rfl⟩ := x_nx_eq hd
        intro ad ca H locs cells slots la hp
        have hcj : cj = ci := (Nat.eq_of_beq_eq_true hbeq).symm
        subst hcj
        rw [x_at_eq] at hcell hw
        have he := cW_at (ad := ad) (ca := ca) hcell
        have hv : (fs.map (cv ad))[k]? = some (cv ad w) := by rw [List.getElem?_map, hw]; rfl
        have hK1 := k1 rfl ad ca H locs cells slots la (Ph_st hp (w_c (Ph_wc hp hcell w (List.mem_of_getElem? hw)) (w_t (Ph_v hp))))
        rcases hlk with hl | ⟨host, hl⟩
        · exact va_get (D := D) hx hb hts hin hown hK hp.2.1 a he hc k hk hl (fun _ h => h) hv hdg hK1
        · exact va_getN (D := D) hx hb hts hin hown hK hp.2.1 a he hc k hk hl (fun _ h => h) hv hdg hK1
      · cases hd
    · cases hd
  · rename_i heq
    cases heq
  · cases hd
theorem s_putfield (hx : p.tables.exec = Jvm.exec) (hb : c.code = cc) {own : String} {Ts : List Cond} (hts : ∀ w ∈ Ts, w.before args s = true) (hown : s.vm.findClass own = some m.cls) (hK : va_K D vwCl [] s) {q0 : Nat} {ci k tf : Nat} {v : Int32} {pc : Nat} {ls : XL} {st : List Value} {sl : Nat} {h : List AC} {b : Bool} {x1 x2 : XR} (hdg : decode cc pc = .ok (.putfield q0, 3)) (hd : dec (.putfield q0) (pc + 3) [ci, k, tf] v pc ls st sl h = some (.inl (b, x1, x2)))
    {C : String} {T : u_T} {N : Nat} (hc : vwCl[ci]? = some (C, T, N)) (hk : k < N) (hin : ∀ w ∈ u_ws C T N, w ∈ Ts) (ty0 : Nat → FieldType) (hty : ∀ k, k < N → parseFieldDescriptor (T k).2.2.1 = some (ty0 k)) (hnm : ∀ a, a < N → ∀ b, b < N → a ≠ b → (T a).2.1 ≠ (T b).2.1)
    (hfit : ∀ w, x_fit tf w = true → narrow (ty0 k) w = w ∧ fits (ty0 k) w = true)
    (hlk : ((T k).2.2.2 = false ∧ x_lk args s own q0 T k) ∨ ((T k).2.2.2 = true ∧ meth.name = "<init>" ∧ (T k).1 = own ∧ (Cond.fieldLink own q0 (T k).1 (T k).2.1 (T k).2.2.1).before args s = true))
    (k1 : b = true → x_At p l e R9 s m args below meth c Q D ad0 A n0 s0 nL x1) (k2 : b = false → x2.1 ≠ 65535) : x_At p l e R9 s m args below meth c Q D ad0 A n0 s0 nL (pc, ls, st, sl, h) := by
  simp only [dec] at hd
  split at hd
  · rename_i w a st ci' k' t' heq
    cases heq
    split at hd
    · rename_i cj fs hcell
      split at hd
      · rename_i hbeq
        obtain ⟨hkl, hd⟩ := x_pk_some hd
        obtain ⟨hal, hd⟩ := x_pk_some hd
        obtain ⟨rfl, rfl, rfl⟩ := x_br_eq hd
        intro ad ca H locs cells slots la hp
        cases hft : x_fit tf w with
        | false => exact absurd rfl (k2 hft)
        | true =>
          have hcj : cj = ci := (Nat.eq_of_beq_eq_true hbeq).symm
          subst hcj
          rw [x_at_eq] at hcell
          have he := cW_at (ad := ad) (ca := ca) hcell
          have hft' : x_fit tf (cv ad w) = true := x_fit_cv hft
          obtain ⟨hn, hf⟩ := hfit _ hft'
          have hmap : (fs.map (cv ad)).set k (cv ad w) = (fs.set k w).map (cv ad) := by rw [List.map_set]
          have hww : wC h.length (.inr (cj, fs.set k w)) := by
            intro u hu
            rcases List.mem_or_eq_of_mem_set hu with q | q
            · exact Ph_wc hp hcell u q
            · rw [q]; exact w_h (Ph_v hp)
          have go : ∀ (H1 : Heap) (locs1 : List Loc), va_P D vwCl ((cW ad ca h).set a (ad a, .inr (cj, (fs.map (cv ad)).set k (cv ad w)))) H1 → va_D A ((cW ad ca h).set a (ad a, .inr (cj, (fs.map (cv ad)).set k (cv ad w)))) → va_S A s.heap H1 locs1 → W p l e R9 s m args below meth c H1 locs1 cells slots Q (F0 m (pc + 3) la (st.map (cv ad))) := by
            intro H1 locs1 hP hD hS
            rw [hmap] at hP hD
            exact k1 hft ad ca H1 locs1 cells slots la (Ph_set (c1 := .inr (cj, fs.set k w)) hp hcell (fun t q e => by cases e) hww (w_t (w_t (Ph_v hp))) hP hD hS)
          have hll : k < (fs.map (cv ad)).length := by simpa using hkl
          rcases hlk with ⟨hfin, hl | ⟨host, hl⟩⟩ | ⟨hfin, hmn, hdecl, hl⟩
          · exact va_put (D := D) hx hb hts hin ty0 hty hnm hown hK hp.2.1 hp.2.2.1 hp.2.2.2.1 a he hc k hk hl (fun _ h => h) hfin (hty k hk) hn hf hll hdg go
          · exact va_putN (D := D) hx hb hts hin ty0 hty hnm hown hK hp.2.1 hp.2.2.1 hp.2.2.2.1 a he hc k hk hl (fun _ h => h) hfin (hty k hk) hn hf hll hdg go
          · exact va_putF (D := D) hx hb hts hin ty0 hty hnm hown hK hp.2.1 hp.2.2.1 hp.2.2.2.1 a he hc k hk hl (fun _ h => h) hfin hmn hdecl (hty k hk) hn hf hll hdg go
      · cases hd
    · cases hd
  · cases hd
theorem s_iaload (hx : p.tables.exec = Jvm.exec) (hb : c.code = cc) (hK : va_K D vwCl [] s) (hsw : ∀ ad H locs la pc st i, ag n0 ad0 ad → va_S A s.heap H locs → decode cc pc = .ok (.iaload, 1) → x_in i 21 = true → ∀ cells slots, W p l e R9 s m args below meth c H locs cells slots Q (F0 m (pc + 1) la (.int (x_swm i.toNatClampNeg) :: st)) → W p l e R9 s m args below meth c H locs cells slots Q (F0 m pc la (.int i :: .ref (ad 1000101) :: st))) {aux : List Nat} {v : Int32} {pc : Nat} {ls : XL} {st : List Value} {sl : Nat} {h : List AC} {b : Bool} {x1 x2 : XR} (hdg : decode cc pc = .ok (.iaload, 1)) (hd : dec .iaload (pc + 1) aux v pc ls st sl h = some (.inl (b, x1, x2)))
    (k1 : b = true → x_At p l e R9 s m args below meth c Q D ad0 A n0 s0 nL x1) (k2 : b = false → x2.1 ≠ 65535) : x_At p l e R9 s m args below meth c Q D ad0 A n0 s0 nL (pc, ls, st, sl, h) := by
  simp only [dec] at hd
  split at hd
  · rename_i i a st
    split at hd
    · rename_i n f hcell
      obtain ⟨rfl, rfl, rfl⟩ := x_br_eq hd
      intro ad ca H locs cells slots la hp
      cases hi : x_in i n with
      | false => exact absurd rfl (k2 hi)
      | true =>
        rw [x_at_eq] at hcell
        exact va_iald (D := D) hx hb (Ph_K hp hK hcell) hp.2.1 a 0 (cW_at (ad := ad) (ca := ca) hcell) rfl (x_in_of hi) hdg (k1 hi ad ca H locs cells slots la (Ph_st hp (w_c trivial (w_t (w_t (Ph_v hp))))))
    · rename_i hcell
      cases ha : Nat.beq a 1000101 with
      | false => rw [ha] at hd; cases hd
      | true =>
        rw [ha] at hd
        obtain ⟨rfl, rfl, rfl⟩ := x_br_eq hd
        intro ad ca H locs cells slots la hp
        have := Nat.eq_of_beq_eq_true ha
        subst this
        cases hi : x_in i 21 with
        | false => exact absurd rfl (k2 hi)
        | true => exact hsw ad H locs la pc _ i hp.1 hp.2.2.2.1 hdg hi cells slots (k1 hi ad ca H locs cells slots la (Ph_st hp (w_c trivial (w_t (w_t (Ph_v hp))))))
    · cases hd
  · cases hd
theorem s_baload (hx : p.tables.exec = Jvm.exec) (hb : c.code = cc) (hK : va_K D vwCl [] s) {aux : List Nat} {v : Int32} {pc : Nat} {ls : XL} {st : List Value} {sl : Nat} {h : List AC} {b : Bool} {x1 x2 : XR} (hdg : decode cc pc = .ok (.baload, 1)) (hd : dec .baload (pc + 1) aux v pc ls st sl h = some (.inl (b, x1, x2)))
    (k1 : b = true → x_At p l e R9 s m args below meth c Q D ad0 A n0 s0 nL x1) (k2 : b = false → x2.1 ≠ 65535) : x_At p l e R9 s m args below meth c Q D ad0 A n0 s0 nL (pc, ls, st, sl, h) := by
  simp only [dec] at hd
  split at hd
  · rename_i i a st
    split at hd
    · rename_i n f hcell
      obtain ⟨rfl, rfl, rfl⟩ := x_br_eq hd
      intro ad ca H locs cells slots la hp
      cases hi : x_in i n with
      | false => exact absurd rfl (k2 hi)
      | true =>
        rw [x_at_eq] at hcell
        exact va_bald (D := D) hx hb (Ph_K hp hK hcell) hp.2.1 a 0 (cW_at (ad := ad) (ca := ca) hcell) rfl (x_in_of hi) hdg (k1 hi ad ca H locs cells slots la (Ph_st hp (w_c trivial (w_t (w_t (Ph_v hp))))))
    · rename_i n f hcell
      obtain ⟨rfl, rfl, rfl⟩ := x_br_eq hd
      intro ad ca H locs cells slots la hp
      cases hi : x_in i n with
      | false => exact absurd rfl (k2 hi)
      | true =>
        rw [x_at_eq] at hcell
        exact va_zald (D := D) hx hb (Ph_K hp hK hcell) hp.2.1 a 0 (cW_at (ad := ad) (ca := ca) hcell) rfl (x_in_of hi) hdg (k1 hi ad ca H locs cells slots la (Ph_st hp (w_c trivial (w_t (w_t (Ph_v hp))))))
    · cases hd
  · cases hd
theorem s_laload (hx : p.tables.exec = Jvm.exec) (hb : c.code = cc) (hK : va_K D vwCl [] s) {aux : List Nat} {v : Int32} {pc : Nat} {ls : XL} {st : List Value} {sl : Nat} {h : List AC} {b : Bool} {x1 x2 : XR} (hdg : decode cc pc = .ok (.laload, 1)) (hd : dec .laload (pc + 1) aux v pc ls st sl h = some (.inl (b, x1, x2)))
    (k1 : b = true → x_At p l e R9 s m args below meth c Q D ad0 A n0 s0 nL x1) (k2 : b = false → x2.1 ≠ 65535) : x_At p l e R9 s m args below meth c Q D ad0 A n0 s0 nL (pc, ls, st, sl, h) := by
  simp only [dec] at hd
  split at hd
  · rename_i i a st
    split at hd
    · rename_i n f hcell
      obtain ⟨rfl, rfl, rfl⟩ := x_br_eq hd
      intro ad ca H locs cells slots la hp
      cases hi : x_in i n with
      | false => exact absurd rfl (k2 hi)
      | true =>
        rw [x_at_eq] at hcell
        exact va_lald (D := D) hx hb (Ph_K hp hK hcell) hp.2.1 a 0 (cW_at (ad := ad) (ca := ca) hcell) rfl (x_in_of hi) hdg (k1 hi ad ca H locs cells slots la (Ph_st hp (w_c trivial (w_t (w_t (Ph_v hp))))))
    · cases hd
  · cases hd
theorem s_iastore (hx : p.tables.exec = Jvm.exec) (hb : c.code = cc) (hK : va_K D vwCl [] s) {aux : List Nat} {v : Int32} {pc : Nat} {ls : XL} {st : List Value} {sl : Nat} {h : List AC} {b : Bool} {x1 x2 : XR} (hdg : decode cc pc = .ok (.iastore, 1)) (hd : dec .iastore (pc + 1) aux v pc ls st sl h = some (.inl (b, x1, x2)))
    (k1 : b = true → x_At p l e R9 s m args below meth c Q D ad0 A n0 s0 nL x1) (k2 : b = false → x2.1 ≠ 65535) : x_At p l e R9 s m args below meth c Q D ad0 A n0 s0 nL (pc, ls, st, sl, h) := by
  simp only [dec] at hd
  split at hd
  · rename_i x i a st
    split at hd
    · rename_i n f hcell
      obtain ⟨hal, hd⟩ := x_pk_some hd
      obtain ⟨rfl, rfl, rfl⟩ := x_br_eq hd
      intro ad ca H locs cells slots la hp
      cases hi : x_in i n with
      | false => exact absurd rfl (k2 hi)
      | true =>
        rw [x_at_eq] at hcell
        refine va_iast (D := D) hx hb (Ph_K hp hK hcell) hp.2.1 hp.2.2.1 hp.2.2.2.1 a 0 (cW_at (ad := ad) (ca := ca) hcell) rfl (x_in_of hi) hdg (fun H1 locs1 hP hD hS => ?_)
        exact k1 hi ad ca H1 locs1 cells slots la (Ph_set (c1 := .inl (0, n, .inl (upd f i.toNatClampNeg x))) hp hcell (fun t q e => by cases e; exact ⟨_, rfl⟩) trivial (w_t (w_t (w_t (Ph_v hp)))) hP hD hS)
    · cases hd
  · cases hd
theorem s_lastore (hx : p.tables.exec = Jvm.exec) (hb : c.code = cc) (hK : va_K D vwCl [] s) {aux : List Nat} {v : Int32} {pc : Nat} {ls : XL} {st : List Value} {sl : Nat} {h : List AC} {b : Bool} {x1 x2 : XR} (hdg : decode cc pc = .ok (.lastore, 1)) (hd : dec .lastore (pc + 1) aux v pc ls st sl h = some (.inl (b, x1, x2)))
    (k1 : b = true → x_At p l e R9 s m args below meth c Q D ad0 A n0 s0 nL x1) (k2 : b = false → x2.1 ≠ 65535) : x_At p l e R9 s m args below meth c Q D ad0 A n0 s0 nL (pc, ls, st, sl, h) := by
  simp only [dec] at hd
  split at hd
  · rename_i x i a st
    split at hd
    · rename_i n f hcell
      obtain ⟨hal, hd⟩ := x_pk_some hd
      obtain ⟨rfl, rfl, rfl⟩ := x_br_eq hd
      intro ad ca H locs cells slots la hp
      cases hi : x_in i n with
      | false => exact absurd rfl (k2 hi)
      | true =>
        rw [x_at_eq] at hcell
        refine va_last (D := D) hx hb (Ph_K hp hK hcell) hp.2.1 hp.2.2.1 hp.2.2.2.1 a 0 (cW_at (ad := ad) (ca := ca) hcell) rfl (x_in_of hi) hdg (fun H1 locs1 hP hD hS => ?_)
        exact k1 hi ad ca H1 locs1 cells slots la (Ph_set (c1 := .inl (1, n, .inr (.inl (vp_updL f i.toNatClampNeg x)))) hp hcell (fun t q e => by cases e; exact ⟨_, rfl⟩) trivial (w_t (w_t (w_t (Ph_v hp)))) hP hD hS)
    · cases hd
  · cases hd
theorem s_bastore (hx : p.tables.exec = Jvm.exec) (hb : c.code = cc) (hK : va_K D vwCl [] s) {aux : List Nat} {v : Int32} {pc : Nat} {ls : XL} {st : List Value} {sl : Nat} {h : List AC} {b : Bool} {x1 x2 : XR} (hdg : decode cc pc = .ok (.bastore, 1)) (hd : dec .bastore (pc + 1) aux v pc ls st sl h = some (.inl (b, x1, x2)))
    (k1 : b = true → x_At p l e R9 s m args below meth c Q D ad0 A n0 s0 nL x1) (k2 : b = false → x2.1 ≠ 65535) : x_At p l e R9 s m args below meth c Q D ad0 A n0 s0 nL (pc, ls, st, sl, h) := by
  simp only [dec] at hd
  split at hd
  · rename_i x i a st
    split at hd
    · rename_i n f hcell
      obtain ⟨hal, hd⟩ := x_pk_some hd
      obtain ⟨rfl, rfl, rfl⟩ := x_br_eq hd
      intro ad ca H locs cells slots la hp
      cases hi : x_in i n with
      | false => exact absurd rfl (k2 hi)
      | true =>
        rw [x_at_eq] at hcell
        refine va_bast (D := D) hx hb (Ph_K hp hK hcell) hp.2.1 hp.2.2.1 hp.2.2.2.1 a 0 (cW_at (ad := ad) (ca := ca) hcell) rfl (x_in_of hi) hdg (fun H1 locs1 hP hD hS => ?_)
        exact k1 hi ad ca H1 locs1 cells slots la (Ph_set (c1 := .inl (2, n, .inl (upd f i.toNatClampNeg (vp_nar .byte x)))) hp hcell (fun t q e => by cases e; exact ⟨_, rfl⟩) trivial (w_t (w_t (w_t (Ph_v hp)))) hP hD hS)
    · rename_i n f hcell
      obtain ⟨hal, hd⟩ := x_pk_some hd
      obtain ⟨rfl, rfl, rfl⟩ := x_br_eq hd
      intro ad ca H locs cells slots la hp
      cases hi : x_in i n with
      | false => exact absurd rfl (k2 hi)
      | true =>
        rw [x_at_eq] at hcell
        refine va_zast (D := D) hx hb (Ph_K hp hK hcell) hp.2.1 hp.2.2.1 hp.2.2.2.1 a 0 (cW_at (ad := ad) (ca := ca) hcell) rfl (x_in_of hi) hdg (fun H1 locs1 hP hD hS => ?_)
        exact k1 hi ad ca H1 locs1 cells slots la (Ph_set (c1 := .inl (3, n, .inl (upd f i.toNatClampNeg (vp_nar .boolean x)))) hp hcell (fun t q e => by cases e; exact ⟨_, rfl⟩) trivial (w_t (w_t (w_t (Ph_v hp)))) hP hD hS)
    · cases hd
  · cases hd
end XHP
