/-! CONSTANTS: the words, their row, the map of a switch, texts -/
def x_nms : List String := ["HOUSE", "DEBT", "GROWS", "PAY", "BORROWS", "SELL", "FORGIVE", "CLEAR", "YEAR", "OR", "AND", "NOT", "FREE", "BROKE", "FULL", "RINGED", "OWES", "COINS", "DEBTS", "CHAIRS", "NUMBER"]
def x_Fo : List (String × String × String × List Int32) := [("java/lang/Enum", "ordinal", "I", [0, 1, 2, 3, 4, 5, 6, 7, 8, 9, 10, 11, 12, 13, 14, 15, 16, 17, 18, 19, 20])]
def x_tx : Nat → String
  | 0 => " owes "
  | 1 => " "
  | 2 => " of "
  | _ => " paid"
def x_txk : Nat → Nat
  | 0 => 33
  | 1 => 46
  | 2 => 55
  | _ => 60
/-- the constants at their addresses; none of them is ever written -/
def x_con (ad adV : Nat → Nat) (A : Nat → Prop) (U : State) (H : Heap) : Prop :=
  va_En "DebtTable$Word" "LDebtTable$Word;" x_nms x_Fo (fun i => ad (1000000 + i)) A U H ∧ va_Ef 21 "DebtTable$Word" "letters" "J" (fun i => .long (x_lets i)) (fun i => ad (1000000 + i)) A U H ∧
  va_Z "DebtTable$Word" "ALL" "[LDebtTable$Word;" (.ref (ad 1000100)) A U H ∧ va_T (.object "DebtTable$Word") (ad 1000100) 21 (fun j => .ref (ad (1000000 + j))) A U H ∧
  va_Z "DebtTable$1" "$SwitchMap$DebtTable$Word" "[I" (.ref (ad 1000101)) A U H ∧ va_T .int (ad 1000101) 21 (fun j => .int (x_swm j)) A U H ∧
  vk_S 4 [6, 1, 4, 5] [x_str 0, x_str 1, x_str 2, x_str 3] (fun i => ad (1000200 + i)) adV A U H ∧ (∀ i, i < 4 → vk_R "DebtTable$Line" (x_txk i) (x_tx i) (ad (1000200 + i)) U) ∧
  va_Z "java/lang/String" "COMPACT_STRINGS" "Z" (.int 1) A U H ∧ va_Zq "jdk/internal/util/Preconditions" "SIOOBE_FORMATTER" "Ljava/util/function/BiFunction;" A U H
theorem x_con_ag {ad ad' adV : Nat → Nat} {A : Nat → Prop} {U : State} {H : Heap} {n : Nat} (hg : ag n ad ad') (h : x_con ad adV A U H) : x_con ad' adV A U H := by
  have e : ∀ k, 1000000 ≤ k → ad' k = ad k := fun k hk => hg k (Or.inr hk)
  have e1 : (fun i => ad' (1000000 + i)) = fun i => ad (1000000 + i) := funext fun i => e _ (by omega)
  have e2 : (fun i => ad' (1000200 + i)) = fun i => ad (1000200 + i) := funext fun i => e _ (by omega)
  have e3 : (fun j => Value.ref (ad' (1000000 + j))) = fun j => Value.ref (ad (1000000 + j)) := funext fun i => by rw [e _ (by omega)]
  unfold x_con
  rw [e1, e2, e3, e 1000100 (by omega), e 1000101 (by omega)]
  obtain ⟨h1, h2, h3, h4, h5, h6, h7, h8, h9⟩ := h
  exact ⟨h1, h2, h3, h4, h5, h6, h7, fun i hi => by rw [e _ (by omega)]; exact h8 i hi, h9⟩
theorem x_con_narrow {ad adV : Nat → Nat} {A B : Nat → Prop} {U : State} {H : Heap} (h : x_con ad adV A U H) (hAB : ∀ q, B q → A q) : x_con ad adV B U H := by
  obtain ⟨h1, h2, h3, h4, h5, h6, h7, h8, h9, h10⟩ := h
  exact ⟨h1.narrow hAB, h2.narrow hAB, h3.narrow hAB, h4.narrow hAB, h5.narrow hAB, h6.narrow hAB, h7.narrow hAB, h8, h9.narrow hAB, h10.narrow hAB⟩
theorem x_con_kept {ad adV : Nat → Nat} {A : Nat → Prop} {U : State} {H H1 : Heap} (h : x_con ad adV A U H) (hq : ∀ a : Nat, a < H.size → ¬ A a → H1[a]? = H[a]?) : x_con ad adV A U H1 := by
  obtain ⟨h1, h2, h3, h4, h5, h6, h7, h8, h9, h10⟩ := h
  exact ⟨h1.kept hq, h2.kept hq, h3.kept hq, h4.kept hq, h5.kept hq, h6.kept hq, h7.kept hq, h8, h9.kept hq, h10.kept hq⟩
theorem x_con_moved {ad adV : Nat → Nat} {A : Nat → Prop} {u U : State} {H : Heap} (hW : u.WarmedH U.vm) (h : x_con ad adV A u H) : x_con ad adV A U H := by
  obtain ⟨h1, h2, h3, h4, h5, h6, h7, h8, h9, h10⟩ := h
  have hvm := hW.alike
  exact ⟨h1.moved hvm, h2.moved hvm, va_Z.moved hvm h3, va_T.moved hvm h4, va_Z.moved hvm h5, va_T.moved hvm h6, h7.moved hvm, fun i hi => (h8 i hi).warm hW, va_Z.moved hvm h9, h10.moved hvm⟩
theorem x_isw_of {a : Nat} (h : x_isw a = true) : ∃ i, i < 21 ∧ a = 1000000 + i := by
  simp only [x_isw, Bool.and_eq_true] at h
  have h1 := Nat.le_of_ble_eq_true h.1
  have h2 := Nat.le_of_ble_eq_true h.2
  exact ⟨a - 1000000, by omega, by omega⟩
section XCN
variable {p : Program} {l : Launch} {e : Env} {R9 : Room} {s : State} {m : MethodId} {args : Array Value} {below : List Frame} {meth : Method} {c : Code} {Q : State → Prop} {D : va_G} {ad0 adV : Nat → Nat} {A : Nat → Prop} {n0 s0 nL : Nat} {cc : ByteArray}
theorem s_letters (hx : p.tables.exec = Jvm.exec) (hb : c.code = cc) {own : String} (hown : s.vm.findClass own = some m.cls) (hcon : x_con ad0 adV A s s.heap) {q0 : Nat} {v : Int32} {pc : Nat} {ls : XL} {st : List Value} {sl : Nat} {h : List AC} {b : Bool} {x1 x2 : XR} (hdg : decode cc pc = .ok (.getfield q0, 3)) (hd : dec (.getfield q0) (pc + 3) [99, 0] v pc ls st sl h = some (.inl (b, x1, x2)))
    (hlk : (Cond.fieldLink own q0 "DebtTable$Word" "letters" "J").before args s = true)
    (k1 : b = true → x_At p l e R9 s m args below meth c Q D ad0 A n0 s0 nL x1) : x_At p l e R9 s m args below meth c Q D ad0 A n0 s0 nL (pc, ls, st, sl, h) := by
  simp only [dec] at hd
  split at hd
  · rename_i heq
    cases heq
  · rename_i a st _
    cases hw : x_isw a with
    | false => rw [hw] at hd; cases hd
    | true =>
      rw [hw] at hd
      obtain ⟨i, hi, rfl⟩ := x_isw_of hw
      obtain ⟨rfl, rfl⟩ := x_nx_eq hd
      intro ad ca H locs cells slots la hp
      have hcon := x_con_ag hp.1 hcon
      have := k1 rfl ad ca H locs cells slots la (Ph_st hp (w_c trivial (w_t (Ph_v hp))))
      rw [show 1000000 + i - 1000000 = i by omega] at this
      exact va_getX (i := i) (ad := fun i => ad (1000000 + i)) (v := fun i => .long (x_lets i)) hx hb hcon.2.1 hi hp.2.2.2.1 hown hlk (fun _ h => h) hdg this
  · cases hd
theorem s_getstatic (hx : p.tables.exec = Jvm.exec) (hb : c.code = cc) {own : String} (hown : s.vm.findClass own = some m.cls) {q0 k : Nat} {v : Int32} {pc : Nat} {ls : XL} {st : List Value} {sl : Nat} {h : List AC} {b : Bool} {x1 x2 : XR} (hdg : decode cc pc = .ok (.getstatic q0, 3)) (hd : dec (.getstatic q0) (pc + 3) [k] v pc ls st sl h = some (.inl (b, x1, x2))) (hkb : 1000000 ≤ k)
    {C n d : String} (hZ : ∀ ad, ag n0 ad0 ad → va_Z C n d (.ref (ad k)) A s s.heap) (hlk : (Cond.fieldLink own q0 C n d).before args s = true)
    (k1 : b = true → x_At p l e R9 s m args below meth c Q D ad0 A n0 s0 nL x1) : x_At p l e R9 s m args below meth c Q D ad0 A n0 s0 nL (pc, ls, st, sl, h) := by
  simp only [dec] at hd
  obtain ⟨rfl, rfl⟩ := x_nx_eq hd
  intro ad ca H locs cells slots la hp
  exact va_gets hx hb (hZ ad hp.1) hp.2.2.2.1 hown hlk (fun _ h => h) hdg (k1 rfl ad ca H locs cells slots la (Ph_st hp (w_c (Or.inr hkb) (Ph_v hp))))
theorem s_arraylength (hx : p.tables.exec = Jvm.exec) (hb : c.code = cc) (hK : va_K D vwCl [] s) (hcon : x_con ad0 adV A s s.heap) {aux : List Nat} {v : Int32} {pc : Nat} {ls : XL} {st : List Value} {sl : Nat} {h : List AC} {b : Bool} {x1 x2 : XR} (hdg : decode cc pc = .ok (.arraylength, 1)) (hd : dec .arraylength (pc + 1) aux v pc ls st sl h = some (.inl (b, x1, x2)))
    (k1 : b = true → x_At p l e R9 s m args below meth c Q D ad0 A n0 s0 nL x1) : x_At p l e R9 s m args below meth c Q D ad0 A n0 s0 nL (pc, ls, st, sl, h) := by
  simp only [dec] at hd
  split at hd
  · rename_i a st
    split at hd
    · rename_i t q hcell
      obtain ⟨rfl, rfl⟩ := x_nx_eq hd
      intro ad ca H locs cells slots la hp
      rw [x_at_eq] at hcell
      have hq1 : (cA ad q).1 = q.1 := by
        obtain ⟨n, q⟩ := q
        rcases q with f | f | f | f | f <;> rfl
      exact va_alen (D := D) hx hb (Ph_K hp hK hcell) hp.2.1 a 0 (cW_at (ad := ad) (ca := ca) hcell) rfl (by rw [hq1]) hdg (k1 rfl ad ca H locs cells slots la (Ph_st hp (w_c trivial (w_t (Ph_v hp)))))
    · cases ha : Nat.beq a 1000100 with
      | false => rw [ha] at hd; cases hd
      | true =>
        rw [ha] at hd
        obtain ⟨rfl, rfl⟩ := x_nx_eq hd
        intro ad ca H locs cells slots la hp
        have := Nat.eq_of_beq_eq_true ha
        subst this
        have hcon := x_con_ag hp.1 hcon
        exact va_tlen hx hb hcon.2.2.2.1 hp.2.2.2.1 (by decide) hdg (k1 rfl ad ca H locs cells slots la (Ph_st hp (w_c trivial (w_t (Ph_v hp)))))
  · cases hd
theorem x_rf_cv {ad : Nat → Nat} {o : Option Nat} : cv ad (x_rf o) = va_rf (o.map ad) := by cases o <;> rfl
theorem tyT_obj {t : Nat} (h : 4 ≤ t) : ∃ C, tyT t = .object C := by
  match t, h with
  | 4, _ => exact ⟨_, rfl⟩
  | 5, _ => exact ⟨_, rfl⟩
  | n + 6, _ => exact ⟨"DebtTable$Sentence", by simp [tyT]⟩
theorem s_aaload (hx : p.tables.exec = Jvm.exec) (hb : c.code = cc) (hK : va_K D vwCl [] s) (hcon : x_con ad0 adV A s s.heap) {aux : List Nat} {v : Int32} {pc : Nat} {ls : XL} {st : List Value} {sl : Nat} {h : List AC} {b : Bool} {x1 x2 : XR} (hdg : decode cc pc = .ok (.aaload, 1)) (hd : dec .aaload (pc + 1) aux v pc ls st sl h = some (.inl (b, x1, x2)))
    (k1 : b = true → x_At p l e R9 s m args below meth c Q D ad0 A n0 s0 nL x1) (k2 : b = false → x2.1 ≠ 65535) : x_At p l e R9 s m args below meth c Q D ad0 A n0 s0 nL (pc, ls, st, sl, h) := by
  simp only [dec] at hd
  split at hd
  · rename_i i a st
    split at hd
    · rename_i t n f hcell
      cases ht : Nat.ble 4 t with
      | false => rw [ht] at hd; cases hd
      | true =>
        rw [ht] at hd
        obtain ⟨rfl, rfl, rfl⟩ := x_br_eq hd
        intro ad ca H locs cells slots la hp
        cases hi : x_in i n with
        | false => exact absurd rfl (k2 hi)
        | true =>
          rw [x_at_eq] at hcell
          obtain ⟨C, hC⟩ := tyT_obj (Nat.le_of_ble_eq_true ht)
          have hwf : wv h.length (x_rf (f i.toNatClampNeg)) := by
            cases hf : f i.toNatClampNeg with
            | none => exact trivial
            | some k => exact Ph_wc hp hcell i.toNatClampNeg k hf
          have := k1 hi ad ca H locs cells slots la (Ph_st hp (w_c hwf (w_t (w_t (Ph_v hp)))))
          simp only [List.map_cons, x_rf_cv] at this
          exact va_aldq (D := D) hx hb (Ph_K hp hK hcell) hp.2.1 a 0 (cW_at (ad := ad) (ca := ca) hcell) (by rw [hC]; rfl) (x_in_of hi) hdg this
    · rename_i hcell
      cases ha : Nat.beq a 1000100 with
      | false => rw [ha] at hd; cases hd
      | true =>
        rw [ha] at hd
        obtain ⟨rfl, rfl, rfl⟩ := x_br_eq hd
        intro ad ca H locs cells slots la hp
        have := Nat.eq_of_beq_eq_true ha
        subst this
        cases hi : x_in i 21 with
        | false => exact absurd rfl (k2 hi)
        | true =>
          have hcon := x_con_ag hp.1 hcon
          exact vb_tq hx hb hcon.2.2.2.1 hp.2.2.2.1 (x_in_of hi) rfl hdg (k1 hi ad ca H locs cells slots la (Ph_st hp (w_c (Or.inr (Nat.le_add_right _ _)) (w_t (w_t (Ph_v hp))))))
    · cases hd
  · cases hd
theorem s_aastore (hx : p.tables.exec = Jvm.exec) (hb : c.code = cc) (hK : va_K D vwCl [] s) (hcon : x_con ad0 adV A s s.heap) {aux : List Nat} {v : Int32} {pc : Nat} {ls : XL} {st : List Value} {sl : Nat} {h : List AC} {b : Bool} {x1 x2 : XR} (hdg : decode cc pc = .ok (.aastore, 1)) (hd : dec .aastore (pc + 1) aux v pc ls st sl h = some (.inl (b, x1, x2)))
    (k1 : b = true → x_At p l e R9 s m args below meth c Q D ad0 A n0 s0 nL x1) (k2 : b = false → x2.1 ≠ 65535) : x_At p l e R9 s m args below meth c Q D ad0 A n0 s0 nL (pc, ls, st, sl, h) := by
  simp only [dec] at hd
  split at hd
  · rename_i w i a st
    split at hd
    · rename_i t n f hcell
      cases hok : x_aok h t w with
      | false => rw [hok] at hd; cases hd
      | true =>
        rw [hok] at hd
        obtain ⟨hal, hd⟩ := x_pk_some hd
        obtain ⟨rfl, rfl, rfl⟩ := x_br_eq hd
        intro ad ca H locs cells slots la hp
        cases hi : x_in i n with
        | false => exact absurd rfl (k2 hi)
        | true =>
          rw [x_at_eq] at hcell
          have hcon := x_con_ag hp.1 hcon
          have hany : ∃ E, tyT t = .object E ∧ va_Any E s H (ad w) := by
            unfold x_aok at hok
            split at hok
            · rename_i ci fs hcw
              rw [x_at_eq] at hcw
              simp only [Bool.or_eq_true, Bool.and_eq_true] at hok
              rcases hok with ⟨h1, h2⟩ | ⟨h1, h2⟩
              · have e1 := Nat.eq_of_beq_eq_true h1
                have e2 := Nat.eq_of_beq_eq_true h2
                subst e1; subst e2
                exact ⟨"DebtTable$Shire", rfl, va_rAny (D := D) (ci := 6) (r := (RX7, TX7, 14)) hK hp.2.1 (cW_at (ad := ad) (ca := ca) hcw) rfl (fun comp c0 h1 h2 => by cases h1.symm.trans h2; exact va_asg _ _)⟩
              · have e1 := Nat.eq_of_beq_eq_true h1
                have e2 := Nat.eq_of_beq_eq_true h2
                subst e1; subst e2
                exact ⟨"DebtTable$Sentence", rfl, va_rAny (D := D) (ci := 4) (r := (RX5, TX5, 4)) hK hp.2.1 (cW_at (ad := ad) (ca := ca) hcw) rfl (fun comp c0 h1 h2 => by cases h1.symm.trans h2; exact va_asg _ _)⟩
            · simp only [Bool.and_eq_true] at hok
              have e1 := Nat.eq_of_beq_eq_true hok.1
              subst e1
              obtain ⟨j, hj, rfl⟩ := x_isw_of hok.2
              obtain ⟨cell, g1, g2, g3⟩ := va_recvE hcon.1 (i := j) (by simpa [x_nms] using hj) hp.2.2.2.1
              obtain ⟨kC, hkC, -⟩ := Vm.findClass_spec g3
              exact ⟨"DebtTable$Word", rfl, cell, g1, g2, ⟨kC, hkC⟩, fun comp hc => by cases g3.symm.trans hc; exact va_asg _ _⟩
          obtain ⟨E, hE, hany⟩ := hany
          have hup : va_up (fun j => (f j).map ad) i.toNatClampNeg (some (ad w)) = fun j => (va_up f i.toNatClampNeg (some w) j).map ad := by
            funext j
            by_cases hj : j = i.toNatClampNeg <;> simp [va_up, hj]
          refine va_astqM (D := D) hx hb (Ph_K hp hK hcell) hp.2.1 hp.2.2.1 hp.2.2.2.1 a 0 (cW_at (ad := ad) (ca := ca) hcell) (by rw [hE]; rfl) hany (x_in_of hi) hdg (fun H1 locs1 hP hD hS => ?_)
          rw [hup] at hP hD
          refine k1 hi ad ca H1 locs1 cells slots la (Ph_set (c1 := .inl (t, n, .inr (.inr (.inr (.inr (va_up f i.toNatClampNeg (some w))))))) hp hcell (fun t q e => by cases e; exact ⟨_, rfl⟩) ?_ (w_t (w_t (w_t (Ph_v hp)))) hP hD hS)
          intro j k hjk
          by_cases hj : j = i.toNatClampNeg
          · simp [va_up, hj] at hjk
            subst hjk
            exact w_h (Ph_v hp)
          · simp [va_up, hj] at hjk
            exact Ph_wc hp hcell j k hjk
    · cases hd
  · cases hd
theorem s_swm (hx : p.tables.exec = Jvm.exec) (hb : c.code = cc) (hcon : x_con ad0 adV A s s.heap) : ∀ ad H locs la pc st i, ag n0 ad0 ad → va_S A s.heap H locs → decode cc pc = .ok (.iaload, 1) → x_in i 21 = true → ∀ cells slots, W p l e R9 s m args below meth c H locs cells slots Q (F0 m (pc + 1) la (.int (x_swm i.toNatClampNeg) :: st)) → W p l e R9 s m args below meth c H locs cells slots Q (F0 m pc la (.int i :: .ref (ad 1000101) :: st)) := by
  intro ad H locs la pc st i hg hS hdg hi cells slots k
  have hcon := x_con_ag hg hcon
  exact va_ti hx hb hcon.2.2.2.2.2.1 hS (x_in_of hi) rfl hdg k
theorem x_acmp {ad : Nat → Nat} (hcon : x_con ad adV A s s.heap) {x y : Nat} (hx : x_isw x = true) (hy : x_isw y = true) : (some (ad x) = some (ad y)) ↔ Nat.beq x y = true := by
  obtain ⟨i, hi, rfl⟩ := x_isw_of hx
  obtain ⟨j, hj, rfl⟩ := x_isw_of hy
  constructor
  · intro h
    have := hcon.1.2 i j (by simpa [x_nms] using hi) (by simpa [x_nms] using hj) (Option.some.inj h)
    subst this
    exact Nat.beq_refl _
  · intro h
    rw [Nat.eq_of_beq_eq_true h]
theorem s_acmp_eq (hx : p.tables.exec = Jvm.exec) (hb : c.code = cc) (hcon : x_con ad0 adV A s s.heap) {q0 : Int} {aux : List Nat} {v : Int32} {pc : Nat} {ls : XL} {st : List Value} {sl : Nat} {h : List AC} {b : Bool} {x1 x2 : XR} (ht : ∀ t, aux = [t] → (pc : Int) + q0 = (t : Int)) (hdg : decode cc pc = .ok (.if_acmp .eq q0, 3)) (hd : dec (.if_acmp .eq q0) (pc + 3) aux v pc ls st sl h = some (.inl (b, x1, x2)))
    (k1 : b = true → x_At p l e R9 s m args below meth c Q D ad0 A n0 s0 nL x1) (k2 : b = false → x2.1 ≠ 65535 ∧ x_At p l e R9 s m args below meth c Q D ad0 A n0 s0 nL x2) : x_At p l e R9 s m args below meth c Q D ad0 A n0 s0 nL (pc, ls, st, sl, h) := by
  simp only [dec] at hd
  split at hd
  · rename_i y x st t
    cases hw : (x_isw x && x_isw y) with
    | false => rw [hw] at hd; cases hd
    | true =>
      rw [hw] at hd
      simp only [Bool.and_eq_true] at hw
      obtain ⟨rfl, rfl, rfl⟩ := x_br_eq hd
      intro ad ca H locs cells slots la hp
      have hcon := x_con_ag hp.1 hcon
      refine lv_acmp_eq (rx := some (ad x)) (ry := some (ad y)) hx hb hdg (ht _ rfl) (fun hq => ?_) (fun hq => ?_)
      · exact k1 ((x_acmp hcon hw.1 hw.2).mp hq) ad ca H locs cells slots la (Ph_st hp (w_t (w_t (Ph_v hp))))
      · exact (k2 (by cases hz : Nat.beq x y with
          | false => rfl
          | true => exact absurd ((x_acmp hcon hw.1 hw.2).mpr hz) hq)).2 ad ca H locs cells slots la (Ph_st hp (w_t (w_t (Ph_v hp))))
  · rename_i x st t
    obtain ⟨rfl, rfl⟩ := x_nx_eq hd
    intro ad ca H locs cells slots la hp
    exact lv_acmp_eq (rx := some (ad x)) (ry := none) hx hb hdg (ht _ rfl) (fun hq => by cases hq) (fun hq => k1 rfl ad ca H locs cells slots la (Ph_st hp (w_t (w_t (Ph_v hp)))))
  · rename_i y st t
    obtain ⟨rfl, rfl⟩ := x_nx_eq hd
    intro ad ca H locs cells slots la hp
    exact lv_acmp_eq (rx := none) (ry := some (ad y)) hx hb hdg (ht _ rfl) (fun hq => by cases hq) (fun hq => k1 rfl ad ca H locs cells slots la (Ph_st hp (w_t (w_t (Ph_v hp)))))
  · rename_i st t
    obtain ⟨rfl, rfl⟩ := x_nx_eq hd
    intro ad ca H locs cells slots la hp
    exact lv_acmp_eq (rx := none) (ry := none) hx hb hdg (ht _ rfl) (fun hq => k1 rfl ad ca H locs cells slots la (Ph_st hp (w_t (w_t (Ph_v hp))))) (fun hq => absurd rfl hq)
  · cases hd
theorem s_acmp_ne (hx : p.tables.exec = Jvm.exec) (hb : c.code = cc) (hcon : x_con ad0 adV A s s.heap) {q0 : Int} {aux : List Nat} {v : Int32} {pc : Nat} {ls : XL} {st : List Value} {sl : Nat} {h : List AC} {b : Bool} {x1 x2 : XR} (ht : ∀ t, aux = [t] → (pc : Int) + q0 = (t : Int)) (hdg : decode cc pc = .ok (.if_acmp .ne q0, 3)) (hd : dec (.if_acmp .ne q0) (pc + 3) aux v pc ls st sl h = some (.inl (b, x1, x2)))
    (k1 : b = true → x_At p l e R9 s m args below meth c Q D ad0 A n0 s0 nL x1) (k2 : b = false → x2.1 ≠ 65535 ∧ x_At p l e R9 s m args below meth c Q D ad0 A n0 s0 nL x2) : x_At p l e R9 s m args below meth c Q D ad0 A n0 s0 nL (pc, ls, st, sl, h) := by
  simp only [dec] at hd
  split at hd
  · rename_i y x st t
    cases hw : (x_isw x && x_isw y) with
    | false => rw [hw] at hd; cases hd
    | true =>
      rw [hw] at hd
      simp only [Bool.and_eq_true] at hw
      obtain ⟨rfl, rfl, rfl⟩ := x_br_eq hd
      intro ad ca H locs cells slots la hp
      have hcon := x_con_ag hp.1 hcon
      refine lv_acmp_ne (rx := some (ad x)) (ry := some (ad y)) hx hb hdg (ht _ rfl) (fun hq => ?_) (fun hq => ?_)
      · exact k1 (by cases hz : Nat.beq x y with
          | false => rfl
          | true => exact absurd ((x_acmp hcon hw.1 hw.2).mpr hz) hq) ad ca H locs cells slots la (Ph_st hp (w_t (w_t (Ph_v hp))))
      · exact (k2 (by rw [(x_acmp hcon hw.1 hw.2).mp hq]; rfl)).2 ad ca H locs cells slots la (Ph_st hp (w_t (w_t (Ph_v hp))))
  · rename_i x st t
    obtain ⟨rfl, rfl⟩ := x_nx_eq hd
    intro ad ca H locs cells slots la hp
    exact lv_acmp_ne (rx := some (ad x)) (ry := none) hx hb hdg (ht _ rfl) (fun hq => k1 rfl ad ca H locs cells slots la (Ph_st hp (w_t (w_t (Ph_v hp))))) (fun hq => by cases hq)
  · rename_i y st t
    obtain ⟨rfl, rfl⟩ := x_nx_eq hd
    intro ad ca H locs cells slots la hp
    exact lv_acmp_ne (rx := none) (ry := some (ad y)) hx hb hdg (ht _ rfl) (fun hq => k1 rfl ad ca H locs cells slots la (Ph_st hp (w_t (w_t (Ph_v hp))))) (fun hq => by cases hq)
  · rename_i st t
    obtain ⟨rfl, rfl⟩ := x_nx_eq hd
    intro ad ca H locs cells slots la hp
    exact lv_acmp_ne (rx := none) (ry := none) hx hb hdg (ht _ rfl) (fun hq => absurd rfl hq) (fun hq => k1 rfl ad ca H locs cells slots la (Ph_st hp (w_t (w_t (Ph_v hp)))))
  · cases hd
theorem s_ldcS (hx : p.tables.exec = Jvm.exec) (hb : c.code = cc) (hown : s.vm.findClass "DebtTable$Line" = some m.cls) (hcon : x_con ad0 adV A s s.heap) {k : Nat} {q0 i : Nat} {v : Int32} {pc : Nat} {ls : XL} {st : List Value} {sl : Nat} {h : List AC} {b : Bool} {x1 x2 : XR} (hdg : decode cc pc = .ok (.ldc q0, 2)) (hd : dec (.ldc q0) (pc + 2) [k] v pc ls st sl h = some (.inl (b, x1, x2))) (hi : i < 4) (hk : k = 1000200 + i) (hq : q0 = x_txk i)
    (k1 : b = true → x_At p l e R9 s m args below meth c Q D ad0 A n0 s0 nL x1) : x_At p l e R9 s m args below meth c Q D ad0 A n0 s0 nL (pc, ls, st, sl, h) := by
  simp only [dec] at hd
  cases hw : x_ist k with
  | false => rw [hw] at hd; cases hd
  | true =>
    rw [hw] at hd
    obtain ⟨rfl, rfl⟩ := x_nx_eq hd
    intro ad ca H locs cells slots la hp
    have hcon := x_con_ag hp.1 hcon
    subst hk; subst hq
    exact va_ldcS hx hb hown (hcon.2.2.2.2.2.2.2.1 i hi) hdg (k1 rfl ad ca H locs cells slots la (Ph_st hp (w_c (Or.inr (Nat.le_trans (by decide : 1000000 ≤ 1000200) (Nat.le_add_right _ _))) (Ph_v hp))))
end XCN
