/-! THE THREE CALLS THAT THROW: the class's method throws -/
def XQ (D : va_G) (ad : Nat → Nat) (h : List AC) (A : Nat → Prop) : String → State → State → Prop := fun E st t => E = xnC ∧ x_Qg D ad h.length 0 0 h [] A #[] st (.returned none) t
def XP (D : va_G) (ad adV : Nat → Nat) (ca : Nat → ClassId) (h : List AC) (sz : Nat) (as : List Value) : Array Value → State → Prop := fun a U => x_Pc D ad adV ca h sz as a U ∧ XT (va_A (cW ad ca h) sz) U
def XF : Array Value → State → Outcome → State → Prop := fun _ _ _ _ => False
theorem XP_blind {D : va_G} {ad adV : Nat → Nat} {ca : Nat → ClassId} {h : List AC} {sz : Nat} {as : List Value} : FrameBlind (XP D ad adV ca h sz as) := by
  intro a U g mk hq
  exact ⟨x_Pc_blind _ _ _ _ hq.1, XT_go (s := U) (U := U.calling g mk a) (State.WarmedH.refl U) hq.2 (fun _ _ _ => rfl) (fun _ h => h)⟩
/-- method j throws at pcT -/
def HT (l : Launch) (j pcT : Nat) : Prop := ∀ {p : Program} {e : Env} {R9 : Room} {s : State} {m : MethodId} {args : Array Value} {below : List Frame} {meth : Method} {c : Code} {H : Heap} {locs : List Loc} {ls : Array Slot} {free : Addr → Prop} {XC : String → State → State → Prop} {A : Nat → Prop}, p.tables.exec = Jvm.exec → c.code = xb j → s.vm.findClass "DebtTable" = some m.cls → (∀ w ∈ TG, w.before args s = true) → XT A s → va_S A s.heap H locs → ls.size = c.maxLocals → (∀ x ∈ c.exceptionTable.toList, False) → 5 < R9.frames → 82 ≤ R9.locals → 1 ≤ R9.cells → 6 ≤ R9.slots → meth.locks = false →
  (∀ t : State, s.vm.Alike t.vm → H.size ≤ t.heap.size → (∀ q : Nat, q < H.size → t.heap[q]? = H[q]?) → XC xnC s t) → (∀ z ∈ locs, free z.base) → W p l e R9 s m args below meth c H locs 0 0 (vx_MQ below XF XC args s 1 6 free) (F0 m pcT ls [])
theorem xt_k : Cond.classLink "DebtTable" 130 xnC ∈ TG := TG_at 1236 (by decide +kernel) (by decide +kernel)
theorem xt_i : Cond.initialized xnC ∈ TG := TG_at 127 (by decide +kernel) (by decide +kernel)
theorem ht_120_11 {l : Launch} (hl : l.stackTraces = false) : HT l 120 11 := by
  intro p e R9 s m args below meth c H locs ls free XC A hx hb hown hts hX hS hsz htab h1 h2 h3 h4 hlo hxc hf
  obtain ⟨sa, hsa⟩ := hX.2.2.1
  exact xn_throw (text := "no such house") (is := 132) (sa := sa) hx hb hl hown hts xt_k xt_i hX hsa hS hsz (by decide +kernel) (by decide +kernel) (by decide +kernel) (by decide +kernel) (by decide +kernel) (fun x hx => (htab x hx).elim) h1 (by simpa using h2) (by omega) (by omega) hlo hxc hf (by omega) (by omega)
theorem ht_121_11 {l : Launch} (hl : l.stackTraces = false) : HT l 121 11 := by
  intro p e R9 s m args below meth c H locs ls free XC A hx hb hown hts hX hS hsz htab h1 h2 h3 h4 hlo hxc hf
  obtain ⟨sa, hsa⟩ := hX.2.2.1
  exact xn_throw (text := "no such house") (is := 132) (sa := sa) hx hb hl hown hts xt_k xt_i hX hsa hS hsz (by decide +kernel) (by decide +kernel) (by decide +kernel) (by decide +kernel) (by decide +kernel) (fun x hx => (htab x hx).elim) h1 (by simpa using h2) (by omega) (by omega) hlo hxc hf (by omega) (by omega)
theorem ht_120_144 {l : Launch} (hl : l.stackTraces = false) : HT l 120 144 := by
  intro p e R9 s m args below meth c H locs ls free XC A hx hb hown hts hX hS hsz htab h1 h2 h3 h4 hlo hxc hf
  obtain ⟨sa, hsa⟩ := hX.2.2.2.1
  exact xn_throw (text := "no such fact of a house") (is := 165) (sa := sa) hx hb hl hown hts xt_k xt_i hX hsa hS hsz (by decide +kernel) (by decide +kernel) (by decide +kernel) (by decide +kernel) (by decide +kernel) (fun x hx => (htab x hx).elim) h1 (by simpa using h2) (by omega) (by omega) hlo hxc hf (by omega) (by omega)
theorem ht_144_20 {l : Launch} (hl : l.stackTraces = false) : HT l 144 20 := by
  intro p e R9 s m args below meth c H locs ls free XC A hx hb hown hts hX hS hsz htab h1 h2 h3 h4 hlo hxc hf
  obtain ⟨sa, hsa⟩ := hX.2.2.2.2.1
  exact xn_throwW (text := "no such house or number") (is := 289) (sa := sa) hx hb hl hown hts xt_k xt_i hX hsa hS hsz (by decide +kernel) (by decide +kernel) (by decide +kernel) (by decide +kernel) (by decide +kernel) (fun x hx => (htab x hx).elim) h1 (by simpa using h2) (by omega) (by omega) hlo hxc hf (by omega) (by omega)
theorem ht_144_45 {l : Launch} (hl : l.stackTraces = false) : HT l 144 45 := by
  intro p e R9 s m args below meth c H locs ls free XC A hx hb hown hts hX hS hsz htab h1 h2 h3 h4 hlo hxc hf
  obtain ⟨sa, hsa⟩ := hX.2.2.2.2.2.1
  exact xn_throwW (text := x291) (is := 291) (sa := sa) hx hb hl hown hts xt_k xt_i hX hsa hS hsz (by decide +kernel) (by decide +kernel) (by decide +kernel) (by decide +kernel) (by decide +kernel) (fun x hx => (htab x hx).elim) h1 (by simpa using h2) (by omega) (by omega) hlo hxc hf (by omega) (by omega)
theorem xt_met {l : Launch} (HJ : x_Je l) {d j pcT : Nat} {as : List Value} {h : List AC} {ls2 : XL} (hd : 1 ≤ d) (hj : j < 282) (hJ : x_J j) (hcls : (xy j).cls = "DebtTable") (hR : R d j (x_ent j as 0 h) = some (pcT, ls2, [], 0, h)) (hwas : ∀ v ∈ as, wv h.length v) (hwh : ∀ c ∈ h, wC h.length c) (hlt : h.length < 1000000) (hT : HT l j pcT)
    (D : va_G) (ad adV : Nat → Nat) (ca : Nat → ClassId) (sz : Nat) : vx_Met l (xy j) (x_ws j) (x_rm (d + 4) 1 6) (XP D ad adV ca h sz as) XF (XQ D ad h (va_A (cW ad ca h) sz)) 1 6 (va_A (cW ad ca h) sz) := by
  obtain ⟨F, hF⟩ := R_iff.mp hR
  unfold x_ent at hF
  cases hble : Nat.ble (x_args as).length (xmL j) with
  | false => rw [hble] at hF; rw [run_dead rfl (xk_bad j)] at hF; cases hF
  | true =>
    rw [hble] at hF
    have hble' := Nat.le_of_ble_eq_true hble
    refine vx_ofW (cc := xb j) (maxL := xmL j) (ret := xrt j) hJ.2.2.1 rfl ?_
    intro p e s m args below meth c s₁ B hml htab hv
    obtain ⟨⟨rfl, hsz, ⟨hP, hD0, hTy⟩, hSt⟩, hXT⟩ := hv
    have hx := B.exec
    have hb := B.bytes
    have hts := atoms_spec (ws := x_ws j) B.pre
    have hown : s.vm.findClass (xy j).cls = some m.cls := findClass_of_methodNamed B.named
    have hlocks := B.notSynchronized
    have hin : meth.name = (xy j).name := (name_of_methodNamed B.named B.method).1
    subst hsz
    have hD := hD0.self (sz := s.heap.size)
    have hA : ∀ q : Nat, s.heap.size ≤ q → va_A (cW ad ca h) s.heap.size q := fun q h => Or.inr h
    have hl := lv_entry (as.map (cv ad)) (n := xmL j) (by rw [x_args_len]; exact hble')
    rw [lg_entry_eq]
    generalize (lg_sl (as.map (cv ad)) ++ List.replicate (xmL j - (lg_sl (as.map (cv ad))).length) Slot.unset).toArray = la at hl ⊢
    have hCx : x_Cx j (d + 4) D ad adV (va_A (cW ad ca h) s.heap.size) p (x_rm (d + 4) 1 6) s m (as.map (cv ad)).toArray meth c :=
      ⟨hx, hb, hml, hown, fun w hw => hts w (List.mem_cons_of_mem _ hw), hSt, hA, hin, Nat.le_refl _, Nat.le_refl _⟩
    have hPh : x_Ph D ad (va_A (cW ad ca h) s.heap.size) h.length 0 (xmL j) s (0, x_pad (xmL j) (x_args as), [], 0, h) ad ca s.heap [] 0 0 la := by
      refine ⟨ag_rf, hP, hD, va_S.rf, hTy, hwh, x_pad_wf (x_args_wf hwas), fun v hv => (by cases hv), ⟨Nat.zero_add _, Nat.zero_add _⟩, ⟨hl.1, hl.2.1, ?_⟩, x_pad_len _ _ hble'⟩
      rintro ⟨k, w⟩ hq
      obtain ⟨v, e1, e2⟩ := mem_lvL.mp hq
      dsimp only at e1 e2
      rw [e2]
      have := x_args_mem (ad := ad) 0 k v (x_pad_at _ _ k v e1)
      rw [Nat.zero_add] at this
      exact hl.2.2 _ this
    refine x_sne HJ F d j 0 (x_pad (xmL j) (x_args as)) [] 0 h pcT ls2 [] 0 h hj hF hCx (by show _ ≤ 1 + h.length; omega) (by omega) hlt (by omega) ?_ ad ca s.heap [] 0 0 la hPh
    intro ad' ca' H' locs' cells slots la' hp
    obtain ⟨h1, h2', h3, h4, h5, h6, h7, h8, h9, h10, h11⟩ := hp
    dsimp only at h2' h3 h5 h6 h7 h8 h9
    have hc1 : cells = 0 := by omega
    have hc2 : slots = 0 := by omega
    subst hc1; subst hc2
    have hown2 : s.vm.findClass "DebtTable" = some m.cls := by rw [← hcls]; exact hown
    refine hT hx hb hown2 (fun w hw => hts w (List.mem_cons_of_mem _ hw)) hXT h4 (by rw [hml]; exact h10.1) htab (by show 5 < d + 4 + 1; omega) (by show 82 ≤ 41 * (d + 4 + 1); omega) (Nat.le_refl _) (Nat.le_refl _) hlocks (fun t hal hsz heq => ⟨rfl, ⟨none, (ad', ca'), rfl, rfl, h1, ⟨Nat.le_refl _, Nat.le_refl _, h6, fun v hv => (by cases hv)⟩, h2'.kept (fun k q hq => heq _ (h2' k q hq).lt), h3, fun k t9 q hk => ⟨arrOfT_moved hal (h5 k t9 q hk).1, (h5 k t9 q hk).2.moved hal⟩⟩, Nat.le_trans h4.1 hsz, fun q hq hnq => ?_⟩) h4.2.2
    rw [heq q (Nat.lt_of_lt_of_le hq h4.1)]
    exact h4.2.1 q hq hnq
section LWX
variable {p : Program} {l : Launch} {e : Env} {R9 : Room} {s : State} {m : MethodId} {args : Array Value} {below : List Frame} {meth : Method} {c : Code} {Q : State → Prop} {cc : ByteArray} {nL : Nat} {own : String} {D : va_G} {ad0 adV : Nat → Nat} {A : Nat → Prop}
/-- behind a call that throws -/
theorem LO_callX {ad : Nat → Nat} {ca : Nat → ClassId} {h : List AC} {H : Heap} {locs : List Loc} {cells slots pc mc ms : Nat} {la : Array Slot} {st0 rest : List Value} {a : Array Value} (G : LG p s m c args cc nL own D ad0 adV A) (hO : LO D A s ad0 ad ca h H) (hS : va_S A s.heap H locs)
    (hr : vx_Run p l e R9 s m args below meth c H locs cells slots mc ms (F0 m pc la st0) rest (XF a) (XQ D ad h (va_A (cW ad ca h) H.size)) (va_A (cW ad ca h) H.size))
    (kk : ∀ (ad' : Nat → Nat) (ca' : Nat → ClassId) (H1 : Heap) (locs1 : List Loc) (q9 : Addr) (ce : Cell), LO D A s ad0 ad' ca' h H1 → ag h.length ad ad' → (∀ i, i < h.length → va_A (cW ad ca h) H.size (ad' i)) → va_S A s.heap H1 locs1 → H1[q9]? = some ce → ce.vm = .none → s.vm.findClass xnC = some ce.cls → vx_W p l e R9 s m args below meth c H1 locs1 (cells + mc) (slots + ms) Q (F0 m pc la rest) q9) : W p l e R9 s m args below meth c H locs cells slots Q (F0 m pc la st0) := by
  obtain ⟨hx, hb, hml, hown, hts, hSt, hA⟩ := G
  have hsub := LO_sub hO hS hA
  intro T hT X
  rcases hr T hT X with ⟨v, st₀, t, T', L, h0, X', hL, e1, e2, hF, st⟩ | ⟨q9, st₀, t, T', L, E, ce, h0, X', hL, e1, e2, ⟨rfl, ⟨v', u, hv, hvs, hag, hpure, hb9⟩, hz, hk⟩, hce, hcv, hcl, st⟩
  · exact hF.elim
  rw [h0] at hz hk
  have hvm : s.vm.Alike t.vm := by rw [← e2]; exact X'.warmed.alike
  have hO2 : LO D A s ad0 u.1 u.2 h T'.heap := ⟨ag_tr hO.1 hag (Nat.zero_le _), by rw [e1]; exact hb9.1, hb9.2.1.weaken (fun k q _ hq => hsub _ hq), fun k t9 q hk => ⟨arrOfT_moved hvm.symm (hb9.2.2 k t9 q hk).1, (hb9.2.2 k t9 q hk).2.moved hvm.symm⟩, hpure.2.2.1⟩
  obtain ⟨t2, a1, b1⟩ := kk u.1 u.2 T'.heap (locs ++ L) q9 ce hO2 hag (fun i hi => by
      obtain ⟨e9, he⟩ := cW_ad (ad := u.1) (ca := u.2) hi
      exact hb9.2.1.2 i _ he)
    ⟨Nat.le_trans hS.1 (by rw [e1]; exact hz), fun q h1 h2 => by rw [e1, hk q (Nat.lt_of_lt_of_le h1 hS.1) (fun z => h2 (hsub q z))]; exact hS.2.1 q h1 h2, fun q hq => by
      rcases List.mem_append.mp hq with h | h
      · exact hS.2.2 q h
      · exact hsub _ (hL q h)⟩ (by rw [e1]; exact hce) hcv hcl T' rfl X'
  exact ⟨t2, st.trans a1, b1⟩
end LWX
