/-! THE LAW: its start -/
def isSc : Value → Bool
  | .ref _ => false
  | _ => true
theorem sc_ok {v : Value} (h : isSc v = true) (ad : Nat → Nat) (n : Nat) : cv ad v = v ∧ wv n v := by
  cases v <;> first | exact ⟨rfl, trivial⟩ | cases h
theorem LO_one {D : va_G} {A : Nat → Prop} {s : State} {ad0 : Nat → Nat} {ca : Nat → ClassId} {q ci : Nat} {fs : List Value} {H : Heap} (hp : va_at D vwCl (q, .inr (ci, fs)) H) (hA : A q) (hsc : fs.all isSc = true) : LO D A s ad0 (up1 ad0 0 q) ca [.inr (ci, fs)] H := by
  have hsc' : ∀ v ∈ fs, isSc v = true := List.all_eq_true.mp hsc
  have hmap : fs.map (cv (up1 ad0 0 q)) = fs := by
    rw [List.map_congr_left (g := id) (fun v hv => (sc_ok (hsc' v hv) _ 0).1)]
    simp
  have one : ∀ (k : Nat) (r : Nat × va_E), (cW (up1 ad0 0 q) ca [.inr (ci, fs)])[k]? = some r → k = 0 ∧ r = (q, .inr (ci, fs)) := fun k r hk => by
    obtain ⟨c9, h3, rfl⟩ := cW_at' hk
    cases k with
    | zero =>
      cases h3
      refine ⟨rfl, ?_⟩
      rw [up1_s]
      simp only [cE, hmap]
    | succ k => simp at h3
  refine ⟨fun k hk => up1_n (by omega), fun k r hk => ?_, ⟨fun i j p r hi hj _ => ?_, fun k r hk => ?_⟩, fun k t r hk => ?_, fun c hc => ?_⟩
  · rw [(one k r hk).2]; exact hp
  · rw [(one i p hi).1, (one j r hj).1]
  · rw [(one k r hk).2]; exact hA
  · cases k with
    | zero => cases hk
    | succ k => simp at hk
  · rw [List.mem_singleton.mp hc]
    exact fun v hv => (sc_ok (hsc' v hv) ad0 _).2
theorem LO_row {D : va_G} {A : Nat → Prop} {s : State} {ad0 : Nat → Nat} {cA : ClassId} {q : Nat} {fo : Nat → Int64} {H : Heap} (hp : va_at D vwCl (q, .inl (cA, 1, .inr (.inl fo))) H) (hA : A q) (hT : ArrOfT s cA .long ∧ va_RA s cA .long) : LO D A s ad0 (up1 ad0 0 q) (fun _ => cA) [xRw fo] H := by
  have one : ∀ (k : Nat) (r : Nat × va_E), (cW (up1 ad0 0 q) (fun _ => cA) [xRw fo])[k]? = some r → k = 0 ∧ r = (q, .inl (cA, 1, .inr (.inl fo))) := fun k r hk => by
    obtain ⟨c9, h3, rfl⟩ := cW_at' hk
    cases k with
    | zero =>
      cases h3
      refine ⟨rfl, ?_⟩
      rw [up1_s]
      rfl
    | succ k => simp at h3
  refine ⟨fun k hk => up1_n (by omega), fun k r hk => ?_, ⟨fun i j p r hi hj _ => ?_, fun k r hk => ?_⟩, fun k t r hk => ?_, fun c hc => ?_⟩
  · rw [(one k r hk).2]; exact hp
  · rw [(one i p hi).1, (one j r hj).1]
  · rw [(one k r hk).2]; exact hA
  · cases k with
    | zero => cases hk; exact hT
    | succ k => simp at hk
  · rw [List.mem_singleton.mp hc]
    trivial
theorem va_catP {D : va_G} {cl : List vw_C} {w1 w2 : va_W} {H : Heap} (h1 : va_P D cl w1 H) (h2 : va_P D cl w2 H) : va_P D cl (w1 ++ w2) H := fun k q hk => by
  rcases List.mem_append.mp (List.mem_of_getElem? hk) with h9 | h9
  · obtain ⟨k9, hk9⟩ := List.getElem?_of_mem h9
    exact h1 k9 q hk9
  · obtain ⟨k9, hk9⟩ := List.getElem?_of_mem h9
    exact h2 k9 q hk9
theorem va_lP {D : va_G} {cl : List vw_C} {w1 w2 : va_W} {H : Heap} (h : va_P D cl (w1 ++ w2) H) : va_P D cl w1 H := fun k q hk => h k q (by rw [List.getElem?_append_left (List.getElem?_eq_some_iff.mp hk).1]; exact hk)
theorem va_rP {D : va_G} {cl : List vw_C} {w1 w2 : va_W} {H : Heap} (h : va_P D cl (w1 ++ w2) H) : va_P D cl w2 H := fun k q hk => h (w1.length + k) q (by rw [List.getElem?_append_right (by omega)]; rw [show w1.length + k - w1.length = k by omega]; exact hk)
theorem va_lastne {A : Nat → Prop} {w : va_W} {q : Nat} {e : va_E} (h : va_D A (w ++ [(q, e)])) {i : Nat} {r : Nat × va_E} (hi : w[i]? = some r) : r.1 ≠ q := fun z => by
  have hlt := (List.getElem?_eq_some_iff.mp hi).1
  have := h.1 i w.length r (q, e) (by rw [List.getElem?_append_left hlt]; exact hi) (by rw [List.getElem?_append_right (Nat.le_refl _), Nat.sub_self]; rfl) z
  omega
theorem va_lastA {A : Nat → Prop} {w : va_W} {q : Nat} {e : va_E} (h : va_D A (w ++ [(q, e)])) : A q := h.2 w.length (q, e) (by rw [List.getElem?_append_right (Nat.le_refl _), Nat.sub_self]; rfl)
theorem va_catD {A : Nat → Prop} {w1 w2 : va_W} (h1 : va_D A w1) (h2 : va_D A w2) (hd : ∀ (i j : Nat) (p q : Nat × va_E), w1[i]? = some p → w2[j]? = some q → p.1 ≠ q.1) : va_D A (w1 ++ w2) := by
  have key : ∀ (i : Nat) (p : Nat × va_E), (w1 ++ w2)[i]? = some p → (i < w1.length ∧ w1[i]? = some p) ∨ (w1.length ≤ i ∧ w2[i - w1.length]? = some p) := fun i p hi => by
    rcases Nat.lt_or_ge i w1.length with hlt | hge
    · rw [List.getElem?_append_left hlt] at hi
      exact Or.inl ⟨hlt, hi⟩
    · rw [List.getElem?_append_right hge] at hi
      exact Or.inr ⟨hge, hi⟩
  refine ⟨fun i j p q hi hj he => ?_, fun k q hk => ?_⟩
  · rcases key i p hi with ⟨a1, a2⟩ | ⟨a1, a2⟩ <;> rcases key j q hj with ⟨b1, b2⟩ | ⟨b1, b2⟩
    · exact h1.1 i j p q a2 b2 he
    · exact absurd he (hd _ _ _ _ a2 b2)
    · exact absurd he.symm (hd _ _ _ _ b2 a2)
    · have := h2.1 _ _ p q a2 b2 he
      omega
  · rcases key k q hk with ⟨a1, a2⟩ | ⟨a1, a2⟩
    · exact h1.2 _ q a2
    · exact h2.2 _ q a2
theorem whole_start {p : Program} {e : Env} {s : State} {m : MethodId} {below : List Frame} {meth : Method} {c : Code} (l : Launch) (hflags : l.flags = flags0) {b L : Nat} {xs : Nat → Int32} (hL : L ≤ 3072) (C0 : lw_At p s m meth c b L xs) : W p l e room_1 s m #[Value.ref b] below meth c s.heap [] 0 0 (lw_Z below #[Value.ref b] s) (entryFrame m ([Value.ref b] : List Value).toArray 7) := by
  obtain ⟨hx, hb, hr, hml, hown, hts, hX, hbl, hlocks, hgv⟩ := C0
  have hst : l.stackTraces = false := by unfold Launch.stackTraces; rw [hflags]; decide
  have HJ : x_Je l := x_Je_ok l
  obtain ⟨D, ad0, adV, hz0, hSt⟩ := x_St0 hts hgv
  have hXT := XT0 hts hgv hSt
  have hTG : ∀ w ∈ TG, w.before #[Value.ref b] s = true := fun w hw => hts w (List.mem_filter.mp hw).1
  have hA : ∀ q : Nat, s.heap.size ≤ q → (fun q => s.heap.size ≤ q) q := fun q h => h
  have hbA : ¬ (fun q => s.heap.size ≤ q) b := fun h => absurd hbl (Nat.not_lt.mpr h)
  have G : LG p s m c #[Value.ref b] code 7 "DebtTableLaw" D ad0 adV (fun q => s.heap.size ≤ q) := ⟨hx, hb, hml, hown, hTG, hSt, hA⟩
  have hl := lv_entry [Value.ref b] (n := 7) (Nat.le_of_ble_eq_true rfl)
  rw [lg_entry_eq]
  generalize (lg_sl [Value.ref b] ++ List.replicate (7 - (lg_sl [Value.ref b]).length) Slot.unset).toArray = la at hl ⊢
  replace hl : lv_has la 7 [(0, .ref b)] := hl
  have hn : (CH zC (fun _ _ => 0) (fun _ _ => 0) zV 0 none 108 112 []).length = 146 := CH_len _ _ _ _ _ _ _ _ []
  refine va_new (D := D) (cl := vwCl) (ws := []) (fs := x_dfl 10) (own := "DebtTableLaw") (C := RX12) (T := TX12) (N := 16) (ci := 10) (Ts := TG) hx hb hTG in_12 tyX12 tyX12_ok hown (hTG _ (show Cond.classLink "DebtTableLaw" 8 RX12 ∈ TG from TG_at 137 (by decide +kernel) (by decide +kernel))) (hTG _ (show Cond.instantiable RX12 16 ∈ TG from TG_at 138 (by decide +kernel) (by decide +kernel))) (hTG _ (show Cond.initialized RX12 ∈ TG from TG_at 111 (by decide +kernel) (by decide +kernel))) hSt.1 (fun k q h => by simp at h) ⟨fun i j p q h => by simp at h, fun k q h => by simp at h⟩ va_S.rf hA rfl (by decide +kernel) (Nat.le_of_ble_eq_true rfl) (Nat.le_of_ble_eq_true rfl) (show decode code 0 = .ok (.new 8, 3) by decide +kernel) (fun q1 H1 hP1 hD1 hS1 => ?_)
  refine lv_dup hx hb (show decode code 3 = .ok (.dup, 1) by decide +kernel) rfl ?_
  have o1 : LO D (fun q => s.heap.size ≤ q) s ad0 (up1 ad0 0 q1) (fun _ => 0) [.inr (10, x_dfl 10)] H1 := LO_one (hP1 0 _ rfl) (hD1.2 0 _ rfl) (by decide)
  have c1 : C 2 114 [.ref 0] 0 [.inr (10, x_dfl 10)] = some ([], 0 + 2865, (CH zC (fun _ _ => 0) (fun _ _ => 0) zV 0 none 108 112 [])) := c114 0 0
  have hw0 : ∀ (x : AC), ∀ v ∈ ([.ref 0] : List Value), wv [x].length v := fun x v hv => by rw [List.mem_singleton.mp hv]; exact Or.inl (Nat.zero_lt_succ _)
  obtain ⟨-, hM1⟩ := C_met HJ (by decide) J_114 c1 (hw0 _) o1.2.2.2.2 (by omega) (by omega)
  refine LO_ci (d := 2 + 4) (t := []) (a := 0) (rest := [.ref q1]) G o1 hS1 (show decode code 4 = .ok (.invokespecial 22, 3) by decide +kernel) hl.1 J_114 (TG_at 139 (by decide +kernel) (by decide +kernel)) (TG_at 140 (by decide +kernel) (by decide +kernel)) rfl rfl (by decide +kernel) hM1 (Nat.le_of_ble_eq_true rfl) (Nat.le_of_ble_eq_true rfl) (by rw [hn]; exact Nat.le_of_ble_eq_true rfl) (Nat.le_of_ble_eq_true rfl) (by simp [Value.category]) (fun adc cac H2 locs2 p1 p2 p3 p4 p5 hS2 => ?_)
  refine W.widen (k := 200) (n := 3000) (by rw [hn]; exact Nat.le_of_ble_eq_true rfl) (Nat.le_of_ble_eq_true rfl) ?_
  have ec : adc 0 = q1 := p2 0 (Or.inl (Nat.zero_lt_succ _))
  refine lv_astore_n (x := q1) (rest := []) hx hb (show decode code 7 = .ok (.astore_n 1, 1) by decide +kernel) rfl hl (by decide) rfl (fun la1 hl1 => ?_)
  replace hl1 : lv_has la1 7 [(1, .ref q1), (0, .ref b)] := hl1
  refine va_new (D := D) (cl := vwCl) (ws := cW adc cac (CH zC (fun _ _ => 0) (fun _ _ => 0) zV 0 none 108 112 [])) (fs := x_dfl 11) (own := "DebtTableLaw") (C := RX13) (T := TX13) (N := 44) (ci := 11) (Ts := TG) hx hb hTG in_13 tyX13 tyX13_ok hown (hTG _ (show Cond.classLink "DebtTableLaw" 23 RX13 ∈ TG from TG_at 1345 (by decide +kernel) (by decide +kernel))) (hTG _ (show Cond.instantiable RX13 44 ∈ TG from TG_at 1339 (by decide +kernel) (by decide +kernel))) (hTG _ (show Cond.initialized RX13 ∈ TG from TG_at 119 (by decide +kernel) (by decide +kernel))) hSt.1 p1.2.1 p1.2.2.1 hS2 hA rfl (by decide +kernel) (Nat.le_of_ble_eq_true rfl) (Nat.le_of_ble_eq_true rfl) (show decode code 8 = .ok (.new 23, 3) by decide +kernel) (fun q2 H3 hP3 hD3 hS3 => ?_)
  refine lv_dup hx hb (show decode code 11 = .ok (.dup, 1) by decide +kernel) rfl ?_
  have o1' : LO D (fun q => s.heap.size ≤ q) s ad0 adc cac (CH zC (fun _ _ => 0) (fun _ _ => 0) zV 0 none 108 112 []) H3 := ⟨p1.1, va_lP hP3, p1.2.2.1, p1.2.2.2⟩
  have o2 : LO D (fun q => s.heap.size ≤ q) s ad0 (up1 ad0 0 q2) (fun _ => 0) [.inr (11, x_dfl 11)] H3 := LO_one (va_rP hP3 0 _ rfl) (va_lastA hD3) (by decide)
  have n12 : ∀ i, i < (CH zC (fun _ _ => 0) (fun _ _ => 0) zV 0 none 108 112 []).length → adc i ≠ q2 := fun i hi => by
    obtain ⟨e9, h9⟩ := cW_ad (ad := adc) (ca := cac) hi
    exact va_lastne hD3 h9
  obtain ⟨f, hc2, hNst⟩ := j184A 0 0
  have c2 : C 1 184 [.ref 0] 0 [.inr (11, x_dfl 11)] = some ([], 0 + 3264, RH zI 0 (up1 zA 2 f) (fun _ _ => 0)) := hc2
  obtain ⟨-, hM2⟩ := C_met HJ (by decide) J_184 c2 (hw0 _) o2.2.2.2.2 (by rw [RH_len]; decide) (by omega)
  refine LO_ci (d := 1 + 4) (t := []) (a := 0) (rest := [.ref q2]) G o2 hS3 (show decode code 12 = .ok (.invokespecial 25, 3) by decide +kernel) hl1.1 J_184 (TG_at 1346 (by decide +kernel) (by decide +kernel)) (TG_at 1347 (by decide +kernel) (by decide +kernel)) rfl rfl (by decide +kernel) hM2 (Nat.le_of_ble_eq_true rfl) (Nat.le_of_ble_eq_true rfl) (Nat.le_of_ble_eq_true rfl) (Nat.le_of_ble_eq_true rfl) (by simp [Value.category]) (fun adr car H4 locs4 r1 r2 r3 r4 r5 hS4 => ?_)
  refine W.widen (k := 300) (n := 7000) (Nat.le_of_ble_eq_true rfl) (Nat.le_of_ble_eq_true rfl) ?_
  have er : adr 0 = q2 := r2 0 (Or.inl (Nat.zero_lt_succ _))
  have n2 : ∀ i, i < (CH zC (fun _ _ => 0) (fun _ _ => 0) zV 0 none 108 112 []).length → ¬ va_A (cW (up1 ad0 0 q2) (fun _ => 0) [.inr (11, x_dfl 11)]) H3.size (adc i) := fun i hi => va_no (fun j hj => by
    have : j = 0 := by simp at hj; omega
    subst this
    rw [up1_s]
    exact fun z => n12 i hi z.symm) (LO_lt o1' hi).1
  have s1 : LO D (fun q => s.heap.size ≤ q) s ad0 adc cac (CH zC (fun _ _ => 0) (fun _ _ => 0) zV 0 none 108 112 []) H4 := LO_kept o1' (fun i hi => r4 _ (LO_lt o1' hi).1 (n2 i hi))
  have d1 : ∀ i j, i < (CH zC (fun _ _ => 0) (fun _ _ => 0) zV 0 none 108 112 []).length → j < (RH zI 0 (up1 zA 2 f) (fun _ _ => 0)).length → adc i ≠ adr j := fun i j hi hj h => n2 i hi (by rw [h]; exact r3 j hj)
  refine lv_astore_n (x := q2) (rest := []) hx hb (show decode code 15 = .ok (.astore_n 2, 1) by decide +kernel) rfl hl1 (by decide) rfl (fun la2 hl2 => ?_)
  replace hl2 : lv_has la2 7 [(2, .ref q2), (1, .ref q1), (0, .ref b)] := hl2
  refine lv_iconst (v := nI 1) hx hb (show decode code 16 = .ok (.iconst 1, 1) by decide +kernel) rfl ?_
  refine va_newa (D := D) (cl := vwCl) (tys := []) (ws := cW adc cac (CH zC (fun _ _ => 0) (fun _ _ => 0) zV 0 none 108 112 []) ++ cW adr car (RH zI 0 (up1 zA 2 f) (fun _ _ => 0))) (atype := .long) (ty := .long) (N' := 1) (a0 := (1, .inr (.inl (fun _ => 0)))) hx hb (hTG _ (TG_at 274 (by decide +kernel) (by decide +kernel))) rfl hSt.1 (va_catP s1.2.1 r1.2.1) (va_catD s1.2.2.1 r1.2.2.1 (fun i j p q hi hj => by
    obtain ⟨c8, h8, rfl⟩ := cW_at' hi
    obtain ⟨c9, h9, rfl⟩ := cW_at' hj
    exact d1 i j (List.getElem?_eq_some_iff.mp h8).1 (List.getElem?_eq_some_iff.mp h9).1)) hS4 hA (fun cA => rfl) (by decide) (by decide) (by decide) (Nat.le_of_ble_eq_true rfl) (Nat.le_of_ble_eq_true rfl) (show decode code 17 = .ok (.newarray .long, 2) by decide +kernel) (fun q3 cA H5 hK5 hP5 hD5 hS5 => ?_)
  have o3 : LO D (fun q => s.heap.size ≤ q) s ad0 (up1 ad0 0 q3) (fun _ => cA) [xRw (fun _ => 0)] H5 := LO_row (va_rP hP5 0 _ rfl) (va_lastA hD5) (hK5.2 0 _ rfl)
  have t1 : LO D (fun q => s.heap.size ≤ q) s ad0 adc cac (CH zC (fun _ _ => 0) (fun _ _ => 0) zV 0 none 108 112 []) H5 := ⟨s1.1, va_lP (va_lP hP5), s1.2.2.1, s1.2.2.2⟩
  have t2 : LO D (fun q => s.heap.size ≤ q) s ad0 adr car (RH zI 0 (up1 zA 2 f) (fun _ _ => 0)) H5 := ⟨r1.1, va_rP (va_lP hP5), r1.2.2.1, r1.2.2.2⟩
  have d2 : ∀ i, i < (CH zC (fun _ _ => 0) (fun _ _ => 0) zV 0 none 108 112 []).length → adc i ≠ up1 ad0 0 q3 0 := fun i hi => by
    obtain ⟨e9, h9⟩ := cW_ad (ad := adc) (ca := cac) hi
    rw [up1_s]
    exact va_lastne hD5 (i := i) (r := (adc i, e9)) (by rw [List.getElem?_append_left (List.getElem?_eq_some_iff.mp h9).1]; exact h9)
  have d3 : ∀ j, j < (RH zI 0 (up1 zA 2 f) (fun _ _ => 0)).length → adr j ≠ up1 ad0 0 q3 0 := fun j hj => by
    obtain ⟨e9, h9⟩ := cW_ad (ad := adr) (ca := car) hj
    rw [up1_s]
    exact va_lastne hD5 (i := (cW adc cac (CH zC (fun _ _ => 0) (fun _ _ => 0) zV 0 none 108 112 [])).length + j) (r := (adr j, e9)) (by rw [List.getElem?_append_right (by omega), show ∀ a b : Nat, a + b - a = b from fun a b => by omega]; exact h9)
  refine lv_astore_n (x := q3) (rest := []) hx hb (show decode code 19 = .ok (.astore_n 3, 1) by decide +kernel) rfl hl2 (by decide) rfl (fun la3 hl3 => ?_)
  replace hl3 : lv_has la3 7 [(3, .ref q3), (2, .ref q2), (1, .ref q1), (0, .ref b)] := hl3
  refine lv_iconst (v := nI 0) hx hb (show decode code 20 = .ok (.iconst 0, 1) by decide +kernel) rfl ?_
  refine lv_istore (x := nI 0) (rest := []) hx hb (show decode code 21 = .ok (.istore 4, 2) by decide +kernel) hl3 (by decide) rfl (fun la4 hl4 => ?_)
  replace hl4 : lv_has la4 7 [(4, .int (nI 0)), (3, .ref q3), (2, .ref q2), (1, .ref q1), (0, .ref b)] := hl4
  have hl5 : lv_has la4 7 [(0, .ref b), (1, .ref q1), (2, .ref q2), (3, .ref q3), (4, .int (nI 0))] := ⟨hl4.1, hl4.2.1, fun q hq => hl4.2.2 q (by
    simp only [List.mem_cons, List.not_mem_nil, or_false] at hq ⊢
    rcases hq with h | h | h | h | h
    · exact Or.inr (Or.inr (Or.inr (Or.inr h)))
    · exact Or.inr (Or.inr (Or.inr (Or.inl h)))
    · exact Or.inr (Or.inr (Or.inl h))
    · exact Or.inr (Or.inl h)
    · exact Or.inl h)⟩
  have hLS : LSt D (fun q => s.heap.size ≤ q) s ad0 q1 q2 q3 H5 := ⟨zC, fun _ _ => 0, fun _ _ => 0, zV, 0, none, 108, 112, zI, 0, up1 zA 2 f, fun _ _ => 0, Rl_init hNst, adc, adr, up1 ad0 0 q3, cac, car, fun _ => cA, fun _ => 0, t1, t2, o3, d1, d2, d3, ec, er, up1_s⟩
  refine lw_loop HJ hz0 hst hXT G hX hbl hbA hL (Nat.le_of_ble_eq_true rfl) (Nat.le_of_ble_eq_true rfl) 601024 7293034 (Nat.le_refl _) (Nat.le_refl _) (fun H6 locs6 la6 hS6 => ?_) 512 0 la4 H5 locs4 _ _ (by omega) (by omega) hl5 hS5 hLS (Nat.le_of_ble_eq_true rfl) (Nat.le_of_ble_eq_true rfl)
  refine va_forget (fun q hq => hS6.2.2 q hq) ?_
  refine lv_iconst (v := 1) hx hb (show decode code 1341 = .ok (.iconst 1, 1) by decide +kernel) rfl ?_
  exact lw_ret hx hb hr hlocks (show decode code 1342 = .ok (.ireturn, 1) by decide +kernel)
