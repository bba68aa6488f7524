/-! CALLS, AND RUNS AS A WHOLE -/
def TG : List Cond := lw_tbl.filter goodWord
def x_isn : Cond → Bool
  | .fieldLinkNest .. => true
  | .methodLinkNest .. => true
  | _ => false
def x_nst : List Cond := tables_1.filter x_isn
theorem TG_good : GoodIn TG TG := fun w hw => ⟨hw, good_of_word (List.mem_filter.mp hw).2⟩
/-- what stays of the tables and the constants -/
def x_St (D : va_G) (ad adV : Nat → Nat) (A : Nat → Prop) (U : State) : Prop :=
  va_K D vwCl [] U ∧ (∀ w ∈ x_nst, va_Nw w U) ∧ (va_AO "DebtTable$Shire" U ∧ va_AO "DebtTable$Word" U ∧ va_AO "DebtTable$Sentence" U) ∧ x_con ad adV A U U.heap
theorem nst_warm {s U : State} (hW : s.WarmedH U.vm) {w : Cond} (hw : x_isn w = true) (h : va_Nw w s) : va_Nw w U := by
  cases w <;> simp only [x_isn] at hw <;> first | exact va_Nw.warmF hW h | exact va_Nw.warmM hW h | cases hw
theorem x_St_go {D : va_G} {ad ad' adV : Nat → Nat} {A B : Nat → Prop} {n : Nat} {s U : State} (hW : s.WarmedH U.vm) (h : x_St D ad adV A s) (hS : ∀ a : Nat, a < s.heap.size → ¬ A a → U.heap[a]? = s.heap[a]?) (hAB : ∀ q, B q → A q) (hg : ag n ad ad') : x_St D ad' adV B U := by
  obtain ⟨h1, h2, ⟨h3, h4, h5⟩, h6⟩ := h
  exact ⟨va_K.moved hW.alike h1, fun w hw => nst_warm hW (List.mem_filter.mp hw).2 (h2 w hw), ⟨h3.moved hW.alike, h4.moved hW.alike, h5.moved hW.alike⟩, x_con_ag hg (x_con_narrow (x_con_kept (x_con_moved hW h6) hS) hAB)⟩
/-- the cells of the world -/
def x_Wo (D : va_G) (ad : Nat → Nat) (ca : Nat → ClassId) (h : List AC) (A : Nat → Prop) (U : State) : Prop :=
  va_P D vwCl (cW ad ca h) U.heap ∧ va_D A (cW ad ca h) ∧ ∀ k t q, h[k]? = some (.inl (t, q)) → ArrOfT U (ca k) (tyT t) ∧ va_RA U (ca k) (tyT t)
def x_Pc (D : va_G) (ad adV : Nat → Nat) (ca : Nat → ClassId) (h : List AC) (sz : Nat) (as : List Value) : Array Value → State → Prop :=
  va_Pc (as.map (cv ad)) (fun U => U.heap.size = sz ∧ x_Wo D ad ca h (fun _ => True) U ∧ x_St D ad adV (va_A (cW ad ca h) sz) U)
def x_Qg (D : va_G) (ad : Nat → Nat) (n sl sl2 : Nat) (h2 : List AC) (vs : List Value) (A : Nat → Prop) : Array Value → State → Outcome → State → Prop :=
  fun _ st oc t => (∃ (v : Option Value) (u : (Nat → Nat) × (Nat → ClassId)), oc = .returned v ∧ v.toList = vs.map (cv u.1) ∧ ag n ad u.1 ∧ (n ≤ h2.length ∧ sl ≤ sl2 ∧ (∀ c ∈ h2, wC h2.length c) ∧ ∀ v ∈ vs, wv h2.length v) ∧ x_Wo D u.1 u.2 h2 A t) ∧ va_F A st t
theorem x_Pc_blind {D : va_G} {ad adV : Nat → Nat} {ca : Nat → ClassId} {h : List AC} {sz : Nat} {as : List Value} : FrameBlind (x_Pc D ad adV ca h sz as) := by
  intro a U g mk hq
  obtain ⟨q0, q1, ⟨w1, w2, w3⟩, q3⟩ := hq
  exact ⟨q0, q1, ⟨w1, w2, fun k t q hk => ⟨show ArrOfT (U.calling g mk a) _ _ from arrOfT_moved (Vm.Alike.refl U.vm) (w3 k t q hk).1, (w3 k t q hk).2.moved (u := U) (U := U.calling g mk a) (Vm.Alike.refl U.vm)⟩⟩, x_St_go (s := U) (U := U.calling g mk a) (n := 0) (State.WarmedH.refl U) q3 (fun a _ _ => rfl) (fun _ h => h) ag_rf⟩
/-! the cells and the slots never become fewer -/
def x_mo (sl : Nat) (h : List AC) (x : XR) : Prop := x.1 ≠ 65535 → h.length ≤ x.2.2.2.2.length ∧ sl ≤ x.2.2.2.1
def x_mO (sl : Nat) (h : List AC) (o : Option XO) : Prop := ∀ b x1 x2, o = some (.inl (b, x1, x2)) → x_mo sl h x1 ∧ x_mo sl h x2
theorem mO_none {sl : Nat} {h : List AC} : x_mO sl h none := fun _ _ _ e => by cases e
theorem mO_call {sl : Nat} {h : List AC} {q : Nat × List Value × List Value} : x_mO sl h (some (.inr q)) := fun _ _ _ e => by cases e
theorem mO_nx {sl : Nat} {h : List AC} {pc : Nat} {ls : XL} {st : List Value} : x_mO sl h (x_nx (pc, ls, st, sl, h)) := fun b x1 x2 e => by
  unfold x_nx at e
  cases e
  exact ⟨fun _ => ⟨Nat.le_refl _, Nat.le_refl _⟩, fun _ => ⟨Nat.le_refl _, Nat.le_refl _⟩⟩
theorem mO_nw {sl k : Nat} {h : List AC} {c : AC} {pc : Nat} {ls : XL} {st : List Value} : x_mO sl h (x_nx (pc, ls, st, sl + k, h ++ [c])) := fun b x1 x2 e => by
  unfold x_nx at e
  cases e
  exact ⟨fun _ => ⟨by simp, Nat.le_add_right _ _⟩, fun _ => ⟨by simp, Nat.le_add_right _ _⟩⟩
theorem mO_br {sl : Nat} {h : List AC} {b0 : Bool} {pc pc' : Nat} {ls ls' : XL} {st st' : List Value} : x_mO sl h (x_br b0 (pc, ls, st, sl, h) (pc', ls', st', sl, h)) := fun b x1 x2 e => by
  unfold x_br at e
  cases e
  exact ⟨fun _ => ⟨Nat.le_refl _, Nat.le_refl _⟩, fun _ => ⟨Nat.le_refl _, Nat.le_refl _⟩⟩
theorem mO_bd {sl : Nat} {h h' : List AC} (hl : h'.length = h.length) {b0 : Bool} {pc : Nat} {ls : XL} {st : List Value} : x_mO sl h (x_br b0 (pc, ls, st, sl, h') x_dead) := fun b x1 x2 e => by
  unfold x_br at e
  cases e
  exact ⟨fun _ => ⟨by rw [hl]; exact Nat.le_refl _, Nat.le_refl _⟩, fun z => absurd rfl z⟩
theorem mO_cond {sl : Nat} {h : List AC} {b0 : Bool} {o : Option XO} (ho : x_mO sl h o) : x_mO sl h (cond b0 o none) := by
  cases b0
  · exact mO_none
  · exact ho
theorem mO_inv {sl : Nat} {h : List AC} {k : Nat} {st : List Value} {o : Option XO} (ho : x_mO sl h o) : x_mO sl h (x_inv k st o) := mO_cond ho
theorem mO_pk {α : Type} {sl : Nat} {h : List AC} {l : List α} {k : Nat} {v : α} {f : List α → Option XO} (hf : ∀ l', l'.length = l.length → x_mO sl h (f l')) : x_mO sl h (x_pk l k v f) := fun b x1 x2 e => hf _ (by simp) b x1 x2 (x_pk_some e).2
theorem mO_st1 {sl : Nat} {h : List AC} {ls : XL} {k : Nat} {v : Value} {f : XL → Option XO} (hf : ∀ l, x_mO sl h (f l)) : x_mO sl h (x_st1 ls k v f) := fun b x1 x2 e => hf _ b x1 x2 (x_st1_some e).2.2
theorem mO_st2 {sl : Nat} {h : List AC} {ls : XL} {k : Nat} {v : Value} {f : XL → Option XO} (hf : ∀ l, x_mO sl h (f l)) : x_mO sl h (x_st2 ls k v f) := fun b x1 x2 e => hf _ b x1 x2 (x_st2_some e).2.2
theorem mO_cpy {nx : Nat} {ls : XL} {st : List Value} {sl : Nat} {h : List AC} : x_mO sl h (x_cpy nx ls st sl h) := by
  unfold x_cpy
  repeat' split
  all_goals first | exact mO_none | exact mO_cond (mO_pk fun _ hl => mO_bd hl)
theorem dec_mono (ins : Instr) (nx : Nat) (aux : List Nat) (v : Int32) (pc : Nat) (ls : XL) (st : List Value) (sl : Nat) (h : List AC) : x_mO sl h (dec ins nx aux v pc ls st sl h) := by
  unfold dec
  repeat' split
  all_goals first
    | exact mO_none | exact mO_nx | exact mO_br | exact mO_bd rfl | exact mO_cond mO_nx | exact mO_cond (mO_bd rfl) | exact mO_cond mO_br | exact mO_cond mO_nw | exact mO_cond mO_cpy
    | exact mO_st1 (fun _ => mO_nx) | exact mO_st2 (fun _ => mO_nx) | exact mO_inv mO_call | exact mO_inv (mO_cond mO_call)
    | exact mO_pk (fun _ hl => mO_bd hl) | exact mO_pk (fun _ _ => mO_pk (fun _ hl => mO_bd hl)) | exact mO_cond (mO_pk (fun _ hl => mO_bd hl))
    | (intro b x1 x2 e; cases hb9 : Nat.beq _ 99 <;> (rw [hb9] at e; first | exact mO_nw b x1 x2 e | cases e))
theorem run_dead {F d i : Nat} {x : XR} (hx : x.1 = 65535) (hbad : (xk i 65535) = x_bad) : run F d i x = none := by
  cases F with
  | zero => rfl
  | succ F =>
    obtain ⟨pc, ls, st, sl, h⟩ := x
    dsimp only at hx
    subst hx
    show stp (run F) d i _ = none
    unfold stp
    dsimp only
    rw [hbad]
    rfl
theorem run_mono (hbad : ∀ i, xk i 65535 = x_bad) {F : Nat} : ∀ {d i pc ls st sl h pc2 ls2 st2 sl2 h2}, run F d i (pc, ls, st, sl, h) = some (pc2, ls2, st2, sl2, h2) → h.length ≤ h2.length ∧ sl ≤ sl2 := by
  induction F with
  | zero => intro d i pc ls st sl h pc2 ls2 st2 sl2 h2 hr; cases hr
  | succ F ih =>
    intro d i pc ls st sl h pc2 ls2 st2 sl2 h2 hr
    have hr : stp (run F) d i (pc, ls, st, sl, h) = _ := hr
    unfold stp at hr
    dsimp only at hr
    cases ht : x_trm (xk i pc).1 (xk i pc).2.2.1 with
    | true => rw [ht] at hr; cases hr; exact ⟨Nat.le_refl _, Nat.le_refl _⟩
    | false =>
      rw [ht] at hr
      dsimp only at hr
      have hm := dec_mono (xk i pc).1 (xk i pc).2.1 (xk i pc).2.2.1 (xk i pc).2.2.2 pc ls st sl h
      cases hd : dec (xk i pc).1 (xk i pc).2.1 (xk i pc).2.2.1 (xk i pc).2.2.2 pc ls st sl h with
      | none => rw [hd] at hr; cases hr
      | some o =>
        rw [hd] at hr
        rcases o with ⟨b, x1, x2⟩ | ⟨j, as, rest⟩
        · have hm := hm b x1 x2 hd
          have key : ∀ x : XR, x_mo sl h x → run F d i x = some (pc2, ls2, st2, sl2, h2) → h.length ≤ h2.length ∧ sl ≤ sl2 := by
            intro x hx hrx
            obtain ⟨pc3, ls3, st3, sl3, h3⟩ := x
            have hne : pc3 ≠ 65535 := fun e => by rw [run_dead (x := (pc3, ls3, st3, sl3, h3)) e (hbad i)] at hrx; cases hrx
            have h1 := hx hne
            have h4 := ih hrx
            dsimp only at h1
            omega
          cases b
          · exact key x2 hm.2 hr
          · exact key x1 hm.1 hr
        · cases d with
          | zero => cases hr
          | succ d' =>
            dsimp only at hr
            cases hc : run F d' j (x_ent j as sl h) with
            | none => rw [hc] at hr; cases hr
            | some z =>
              rw [hc] at hr
              obtain ⟨pc3, ls3, st3, sl3, h3⟩ := z
              dsimp only at hr
              cases hv : x_ret (xrk j) (xk j pc3).1 st3 with
              | none => rw [hv] at hr; cases hr
              | some vs =>
                rw [hv] at hr
                dsimp only at hr
                have h4 := ih hr
                unfold x_ent at hc
                cases hb : Nat.ble (x_args as).length (xmL j) with
                | false => rw [hb] at hc; rw [run_dead rfl (hbad j)] at hc; cases hc
                | true =>
                  rw [hb] at hc
                  have h5 := ih hc
                  omega
/-! the locals with which a method begins -/
theorem x_args_len {as : List Value} {ad : Nat → Nat} : (lg_sl (as.map (cv ad))).length = (x_args as).length := by
  induction as with
  | nil => rfl
  | cons v t ih =>
    have e : lg_sl ((v :: t).map (cv ad)) = (if (cv ad v).category = 2 then [.val (cv ad v), .second] else [.val (cv ad v)]) ++ lg_sl (t.map (cv ad)) := by simp [lg_sl]
    rw [e, List.length_append, ih, cat_cv]
    cases v <;> simp [x_args, Value.category] <;> omega
theorem x_args_mem {as : List Value} {ad : Nat → Nat} : ∀ (o k : Nat) (v : Value), (x_args as)[k]? = some (some v) → (o + k, cv ad v) ∈ lv_args o (as.map (cv ad)) := by
  induction as with
  | nil => intro o k v h; simp [x_args] at h
  | cons a t ih =>
    intro o k v h
    have two : ∀ w, x_args (a :: t) = some w :: none :: x_args t → w = a → a.category = 2 → (o + k, cv ad v) ∈ lv_args o ((a :: t).map (cv ad)) := by
      intro w e1 e2 e3
      rw [e1] at h
      simp only [List.map_cons, lv_args, cat_cv, e3, if_true]
      match k, h with
      | 0, h =>
        simp only [List.getElem?_cons_zero, Option.some.injEq] at h
        subst h; subst e2
        exact List.mem_cons_self
      | 1, h => simp at h
      | k + 2, h =>
        simp only [List.getElem?_cons_succ] at h
        have := ih (o + 2) k v h
        rw [show o + 2 + k = o + (k + 2) by omega] at this
        exact List.mem_cons_of_mem _ this
    have one : x_args (a :: t) = some a :: x_args t → a.category ≠ 2 → (o + k, cv ad v) ∈ lv_args o ((a :: t).map (cv ad)) := by
      intro e1 e3
      rw [e1] at h
      simp only [List.map_cons, lv_args, cat_cv, e3, if_false]
      match k, h with
      | 0, h =>
        simp only [List.getElem?_cons_zero, Option.some.injEq] at h
        subst h
        exact List.mem_cons_self
      | k + 1, h =>
        simp only [List.getElem?_cons_succ] at h
        have := ih (o + 1) k v h
        rw [show o + 1 + k = o + (k + 1) by omega] at this
        exact List.mem_cons_of_mem _ this
    cases a with
    | long x => exact two _ rfl rfl rfl
    | double x => exact two _ rfl rfl rfl
    | int x => exact one rfl (by simp [Value.category])
    | float x => exact one rfl (by simp [Value.category])
    | null => exact one rfl (by simp [Value.category])
    | ref x => exact one rfl (by simp [Value.category])
    | retAddr x => exact one rfl (by simp [Value.category])
theorem x_pad_at : ∀ (n : Nat) (ls : XL) (k : Nat) (v : Value), (x_pad n ls)[k]? = some (some v) → ls[k]? = some (some v)
  | 0, ls, k, v, h => by simpa [x_pad] using h
  | n + 1, [], k, v, h => by
    cases k with
    | zero => simp [x_pad] at h
    | succ k =>
      simp only [x_pad, List.getElem?_cons_succ] at h
      have := x_pad_at n [] k v h
      simp at this
  | n + 1, a :: t, k, v, h => by
    cases k with
    | zero => simpa [x_pad] using h
    | succ k =>
      simp only [x_pad, List.getElem?_cons_succ] at h ⊢
      exact x_pad_at n t k v h
theorem x_pad_len : ∀ (n : Nat) (ls : XL), ls.length ≤ n → (x_pad n ls).length = n
  | 0, [], _ => rfl
  | n + 1, [], _ => by simp [x_pad, x_pad_len n [] (Nat.zero_le _)]
  | n + 1, a :: t, h => by simp [x_pad, x_pad_len n t (by simpa using h)]
theorem x_args_wf {n : Nat} {as : List Value} (hw : ∀ v ∈ as, wv n v) : wL n (x_args as) := by
  induction as with
  | nil => intro o ho; cases ho
  | cons a t ih =>
    have ht := ih (fun v hv => hw v (List.mem_cons_of_mem _ hv))
    have ha := hw a List.mem_cons_self
    intro o ho v hv
    cases a <;> simp only [x_args, List.mem_cons] at ho
    all_goals first
      | (rcases ho with q | q | q
         · rw [q] at hv; cases hv; exact ha
         · rw [q] at hv; cases hv
         · exact ht o q v hv)
      | (rcases ho with q | q
         · rw [q] at hv; cases hv; exact ha
         · exact ht o q v hv)
theorem x_pad_wf {n k : Nat} {ls : XL} (hw : wL n ls) : wL n (x_pad k ls) := by
  intro o ho v hv
  subst hv
  obtain ⟨j, hj⟩ := List.mem_iff_getElem?.mp ho
  exact hw (some v) (List.mem_of_getElem? (x_pad_at k ls j v hj)) v rfl
/-- a call behind which W goes on, whatever it gives back -/
theorem x_callg {p : Program} {l : Launch} {e : Env} {R9 : Room} {s : State} {m : MethodId} {args : Array Value} {below : List Frame} {meth : Method} {c : Code} {H : Heap} {locs : List Loc} {cells slots mc ms : Nat} {Q : State → Prop} {pc : Nat} {la : Array Slot} {st0 rest : List Value} {A0 A1 : Nat → Prop} {H0 : Heap} {free : Addr → Prop} {D : va_G} {ad : Nat → Nat} {n sl sl2 : Nat} {h2 : List AC} {vs : List Value} {a : Array Value}
    (hr : va_Run p l e R9 s m args below meth c H locs cells slots mc ms (F0 m pc la st0) rest (x_Qg D ad n sl sl2 h2 vs A1 a) free) (hS : va_S A0 H0 H locs) (hA : ∀ q, q < H.size → A1 q → A0 q) (hf : ∀ q, free q → A0 q)
    (kk : ∀ (u : (Nat → Nat) × (Nat → ClassId)) (t : State) (H1 : Heap) (locs1 : List Loc), t.heap = H1 → s.vm.Alike t.vm → ag n ad u.1 → (n ≤ h2.length ∧ sl ≤ sl2 ∧ (∀ c ∈ h2, wC h2.length c) ∧ ∀ v ∈ vs, wv h2.length v) → x_Wo D u.1 u.2 h2 A1 t → va_S A0 H0 H1 locs1 → W p l e R9 s m args below meth c H1 locs1 (cells + mc) (slots + ms) Q (F0 m (pc + 3) la (vs.map (cv u.1) ++ rest))) : W p l e R9 s m args below meth c H locs cells slots Q (F0 m pc la st0) := by
  intro T hT X
  obtain ⟨v, st₀, t, T', L, h0, X', hL, e1, e2, ⟨⟨v', u, hv, hvs, hag, hpure, hb⟩, hz, hk⟩, st⟩ := hr T hT X
  cases hv
  rw [h0] at hz hk
  rw [hvs] at st
  obtain ⟨t2, a1, b1⟩ := kk u t T'.heap (locs ++ L) e1.symm (by rw [← e2]; exact X'.warmed.alike) hag hpure hb
    ⟨Nat.le_trans hS.1 (by rw [e1]; exact hz), fun q h1 h2 => by rw [e1, hk q (Nat.lt_of_lt_of_le h1 hS.1) (fun z => h2 (hA q (Nat.lt_of_lt_of_le h1 hS.1) z))]; exact hS.2.1 q h1 h2, fun q hq => by
      rcases List.mem_append.mp hq with h | h
      · exact hS.2.2 q h
      · exact hf _ (hL q h)⟩ T' rfl X'
  exact ⟨t2, st t2 a1, b1⟩
