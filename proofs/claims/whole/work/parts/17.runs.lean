/-! RUNS -/
def x_nc (o : Option XO) : Prop := ∀ q, o ≠ some (.inr q)
theorem nc_none : x_nc none := fun _ e => by cases e
theorem nc_nx {x : XR} : x_nc (x_nx x) := fun _ e => by unfold x_nx at e; cases e
theorem nc_br {b : Bool} {x y : XR} : x_nc (x_br b x y) := fun _ e => by unfold x_br at e; cases e
theorem nc_cond {b : Bool} {o : Option XO} (h : x_nc o) : x_nc (cond b o none) := by
  cases b
  · exact nc_none
  · exact h
theorem nc_pk {α : Type} {l : List α} {k : Nat} {v : α} {f : List α → Option XO} (h : ∀ l', x_nc (f l')) : x_nc (x_pk l k v f) := fun q e => h _ q (x_pk_some e).2
theorem nc_st1 {ls : XL} {k : Nat} {v : Value} {f : XL → Option XO} (h : ∀ l, x_nc (f l)) : x_nc (x_st1 ls k v f) := fun q e => h _ q (x_st1_some e).2.2
theorem nc_st2 {ls : XL} {k : Nat} {v : Value} {f : XL → Option XO} (h : ∀ l, x_nc (f l)) : x_nc (x_st2 ls k v f) := fun q e => h _ q (x_st2_some e).2.2
theorem nc_cpy {nx : Nat} {ls : XL} {st : List Value} {sl : Nat} {h : List AC} : x_nc (x_cpy nx ls st sl h) := by
  unfold x_cpy
  repeat' split
  all_goals first | exact nc_none | exact nc_cond (nc_pk fun _ => nc_br)
theorem dec_nc (ins : Instr) (nx : Nat) (aux : List Nat) (v : Int32) (pc : Nat) (ls : XL) (st : List Value) (sl : Nat) (h : List AC) (h1 : ∀ q, ins ≠ .invokestatic q) (h2 : ∀ q, ins ≠ .invokespecial q) (h3 : ∀ q, ins ≠ .invokevirtual q) : x_nc (dec ins nx aux v pc ls st sl h) := by
  unfold dec
  repeat' split
  all_goals first
    | exact nc_none | exact nc_nx | exact nc_br | exact nc_cond nc_nx | exact nc_cond nc_br | exact nc_cond nc_cpy
    | exact nc_st1 (fun _ => nc_nx) | exact nc_st2 (fun _ => nc_nx) | exact nc_pk (fun _ => nc_br) | exact nc_pk (fun _ => nc_pk (fun _ => nc_br)) | exact nc_cond (nc_pk (fun _ => nc_br))
    | exact absurd rfl (h1 _) | exact absurd rfl (h2 _) | exact absurd rfl (h3 _)
    | (intro q e; cases hb9 : Nat.beq _ 99 <;> (rw [hb9] at e; first | exact nc_nx q e | cases e))
/-- what is known of a call that an instruction makes -/
def x_Ca (st : List Value) (h : List AC) (j k c : Nat) (as rest : List Value) : Prop := (as = (st.take k).reverse ∧ rest = st.drop k ∧ k ≤ st.length ∧ ((st.drop k).map fun v => v.category).sum ≤ 8)
theorem dec_call {ins : Instr} {nx : Nat} {aux : List Nat} {v : Int32} {pc : Nat} {ls : XL} {st : List Value} {sl : Nat} {h : List AC} {j : Nat} {as rest : List Value} (hd : dec ins nx aux v pc ls st sl h = some (.inr (j, as, rest))) :
    ∃ q k c, aux = [j, k, c] ∧ x_Ca st h j k c as rest ∧ (ins = .invokestatic q ∨ (ins = .invokespecial q ∧ x_rcv h c as = true) ∨ (ins = .invokevirtual q ∧ x_rcv h c as = true)) := by
  by_cases h1 : ∃ q, ins = .invokestatic q
  · obtain ⟨q, rfl⟩ := h1
    simp only [dec] at hd
    split at hd
    · exact absurd hd (nc_cond nc_cpy _)
    · split at hd
      · exact absurd hd (nc_cond nc_nx _)
      · cases hd
    · split at hd
      · exact absurd hd (nc_cond nc_nx _)
      · cases hd
    · rename_i j' k' c'
      obtain ⟨e1, e2, e3⟩ := x_inv_some hd
      cases e3
      exact ⟨q, k', c', rfl, ⟨rfl, rfl, e1, e2⟩, Or.inl rfl⟩
    · cases hd
  · by_cases h2 : ∃ q, ins = .invokespecial q
    · obtain ⟨q, rfl⟩ := h2
      simp only [dec] at hd
      split at hd
      · split at hd
        · exact absurd hd (nc_cond nc_nx _)
        · cases hd
      · rename_i j' k' c'
        obtain ⟨e1, e2, e3⟩ := x_inv_some hd
        cases hr : x_rcv h c' ((st.take k').reverse) with
        | false => rw [hr] at e3; cases e3
        | true =>
          rw [hr] at e3
          cases e3
          exact ⟨q, k', c', rfl, ⟨rfl, rfl, e1, e2⟩, Or.inr (Or.inl ⟨rfl, hr⟩)⟩
      · cases hd
    · by_cases h3 : ∃ q, ins = .invokevirtual q
      · obtain ⟨q, rfl⟩ := h3
        simp only [dec] at hd
        split at hd
        · split at hd
          · exact absurd hd (nc_cond nc_nx _)
          · cases hd
        · split at hd
          · exact absurd hd (nc_cond nc_nx _)
          · cases hd
        · split at hd
          · exact absurd hd (nc_cond nc_br _)
          · cases hd
        · rename_i j' k' c'
          obtain ⟨e1, e2, e3⟩ := x_inv_some hd
          cases hr : x_rcv h c' ((st.take k').reverse) with
          | false => rw [hr] at e3; cases e3
          | true =>
            rw [hr] at e3
            cases e3
            exact ⟨q, k', c', rfl, ⟨rfl, rfl, e1, e2⟩, Or.inr (Or.inr ⟨rfl, hr⟩)⟩
        · cases hd
      · exact absurd hd (dec_nc ins nx aux v pc ls st sl h (fun q e => h1 ⟨q, e⟩) (fun q e => h2 ⟨q, e⟩) (fun q e => h3 ⟨q, e⟩) _)
theorem x_retdg {j pc k : Nat} (hj : j < 282) {st vs : List Value} (h : x_ret k (xk j pc).1 st = some vs) : decode (xb j) pc = .ok ((xk j pc).1, 1) := by
  have hok := x_okA j hj pc
  unfold x_okB at hok
  generalize hq : xk j pc = q at h hok ⊢
  obtain ⟨ins, nx, aux, v⟩ := q
  unfold x_ret at h
  dsimp only at h
  split at h <;> first
    | (cases h; done)
    | (simp only [Bool.and_eq_true, decide_eq_true_eq, x_sd] at hok
       obtain ⟨a, b, c⟩ := hok
       have e := Nat.eq_of_beq_eq_true c
       rw [e] at b
       exact b)
set_option maxHeartbeats 4000000 in
theorem x_snd {l : Launch} (HJ : x_Jd l) : ∀ (F d i : Nat) (pc : Nat) (ls : XL) (st : List Value) (sl : Nat) (h : List AC) (pc2 : Nat) (ls2 : XL) (st2 : List Value) (sl2 : Nat) (h2 : List AC), i < 282 → run F d i (pc, ls, st, sl, h) = some (pc2, ls2, st2, sl2, h2) → ∀ {p : Program} {e : Env} {R9 : Room} {s : State} {m : MethodId} {args : Array Value} {below : List Frame} {meth : Method} {c : Code} {Q : State → Prop} {D : va_G} {ad0 adV : Nat → Nat} {A : Nat → Prop} {n0 s0 : Nat}, x_Cx i d D ad0 adV A p R9 s m args meth c → h2.length ≤ R9.cells + n0 → sl2 ≤ R9.slots + s0 → h2.length < 1000000 → sl2 ≤ 60000000 →
    x_At p l e R9 s m args below meth c Q D ad0 A n0 s0 (xmL i) (pc2, ls2, st2, sl2, h2) → x_At p l e R9 s m args below meth c Q D ad0 A n0 s0 (xmL i) (pc, ls, st, sl, h) := by
  intro F
  induction F with
  | zero => intro d i pc ls st sl h pc2 ls2 st2 sl2 h2 hi hr; cases hr
  | succ F ih =>
    intro d i pc ls st sl h pc2 ls2 st2 sl2 h2 hi hr p e R9 s m args below meth c Q D ad0 adV A n0 s0 C hcb hsb hlt hbig hK
    have hr0 := hr
    have hr : stp (run F) d i (pc, ls, st, sl, h) = _ := hr
    unfold stp at hr
    dsimp only at hr
    have hm0 := run_mono xk_bad hr0
    generalize hxk : xk i pc = q at hr
    obtain ⟨ins, nx, aux, v⟩ := q
    dsimp only at hr
    cases ht : x_trm ins aux with
    | true => rw [ht] at hr; cases hr; exact hK
    | false =>
      rw [ht] at hr
      dsimp only at hr
      cases hd : dec ins nx aux v pc ls st sl h with
      | none => rw [hd] at hr; cases hr
      | some o =>
        rw [hd] at hr
        rcases o with ⟨b, x1, x2⟩ | ⟨j, as, rest⟩
        · have hgo : ∀ x : XR, run F d i x = some (pc2, ls2, st2, sl2, h2) → x.1 ≠ 65535 ∧ x.2.2.2.2.length ≤ h2.length ∧ x.2.2.2.1 ≤ sl2 ∧ x_At p l e R9 s m args below meth c Q D ad0 A n0 s0 (xmL i) x := by
            intro x hx
            obtain ⟨pc3, ls3, st3, sl3, h3⟩ := x
            have hne : pc3 ≠ 65535 := fun e => by rw [run_dead (x := (pc3, ls3, st3, sl3, h3)) e (xk_bad i)] at hx; cases hx
            have hmo := run_mono xk_bad hx
            exact ⟨hne, hmo.1, hmo.2, ih d i pc3 ls3 st3 sl3 h3 pc2 ls2 st2 sl2 h2 hi hx C hcb hsb hlt hbig hK⟩
          refine x_step HJ hi C hxk hd (by omega) ?_ ?_ ?_ (by omega) (by omega) ?_ ?_
          · intro hb
            subst hb
            have := hgo x1 hr
            omega
          · intro hb
            subst hb
            have := hgo x1 hr
            omega
          · intro hb
            subst hb
            have := hgo x1 hr
            omega
          · intro hb
            subst hb
            exact (hgo x1 hr).2.2.2
          · intro hb
            subst hb
            exact ⟨(hgo x2 hr).1, (hgo x2 hr).2.2.2⟩
        · cases d with
          | zero => cases hr
          | succ d' =>
            dsimp only at hr
            cases hc : run F d' j (x_ent j as sl h) with
            | none => rw [hc] at hr; cases hr
            | some z =>
              rw [hc] at hr
              obtain ⟨pc3, ls3, st3, sl3, h3⟩ := z
              dsimp only at hr
              cases hv : x_ret (xrk j) (xk j pc3).1 st3 with
              | none => rw [hv] at hr; cases hr
              | some vs =>
                rw [hv] at hr
                dsimp only at hr
                obtain ⟨q, k, c9, haux, hca, hins⟩ := dec_call hd
                -- the callee
                unfold x_ent at hc
                cases hble : Nat.ble (x_args as).length (xmL j) with
                | false => rw [hble] at hc; rw [run_dead rfl (xk_bad j)] at hc; cases hc
                | true =>
                  rw [hble] at hc
                  have hmo1 := run_mono xk_bad hc
                  have hmo2 := run_mono xk_bad hr
                  have hcl := x_cls i hi
                  have hok := x_okA i hi pc
                  unfold x_okB at hok
                  rw [hxk] at hok
                  have hk1 : x_At p l e R9 s m args below meth c Q D ad0 A n0 s0 (xmL i) (nx, ls, vs ++ rest, sl3, h3) := ih (d' + 1) i nx ls (vs ++ rest) sl3 h3 pc2 ls2 st2 sl2 h2 hi hr C hcb hsb hlt hbig hK
                  have hMet : x_J j → j < 282 → ∀ ad ca sz, (∀ v ∈ as, wv h.length v) → (∀ c ∈ h, wC h.length c) → ag n0 ad0 ad → Met l (xy j) (x_ws j) (x_rm d' (h3.length - h.length) (sl3 - sl)) (x_Pc D ad adV ca h sz as) (x_Qg D ad h.length sl sl3 h3 vs (va_A (cW ad ca h) sz)) (h3.length - h.length) (sl3 - sl) (va_A (cW ad ca h) sz) := by
                    intro hJ hj ad ca sz hw1 hw2 hg
                    refine x_met (ls2 := ls3) hJ hv (x_retdg hj hv) (Nat.le_of_ble_eq_true hble) hw1 hw2 hmo1 ?_
                    intro p e s m args below meth c Q A C2 hend
                    exact ih d' j 0 (x_pad (xmL j) (x_args as)) [] sl h pc3 ls3 st3 sl3 h3 hj hc C2 (by show _ ≤ (h3.length - h.length) + h.length; omega) (by show _ ≤ (sl3 - sl) + sl; omega) (by omega) (by omega) hend
                  subst haux
                  rcases hins with rfl | ⟨rfl, hrc⟩ | ⟨rfl, hrc⟩
                  · simp only [Bool.and_eq_true, decide_eq_true_eq, x_sd] at hok
                    obtain ⟨hle, hdg, hlen, hmem⟩ := hok
                    have hnx := x_dl hle hlen
                    subst hnx
                    rw [Nat.add_sub_cancel_left] at hdg
                    obtain ⟨hJ, hj, f1, f2, f3⟩ := x_lm_ok _ (x_hs_mem hmem)
                    rw [← hcl] at f1
                    exact s_cs (v := 0) (x := 0) C hdg hca hJ f1 f2 f3 (hMet hJ hj) (by omega) (by omega) hmo1 hk1
                  · simp only [Bool.and_eq_true, decide_eq_true_eq, x_sd] at hok
                    obtain ⟨hle, hdg, hlen, hmem⟩ := hok
                    have hnx := x_dl hle hlen
                    subst hnx
                    rw [Nat.add_sub_cancel_left] at hdg
                    obtain ⟨hJ, hj, f1, f2, f3, f4, f5⟩ := x_lm_ok _ (x_hs_mem hmem)
                    rw [← hcl] at f1
                    exact s_ci C hdg hca hrc hJ f1 f2 f3 f4 f5 (hMet hJ hj) (by omega) (by omega) hmo1 hk1
                  · simp only [Bool.and_eq_true, decide_eq_true_eq, x_sd] at hok
                    obtain ⟨hle, hdg, hlen, hmem⟩ := hok
                    have hnx := x_dl hle hlen
                    subst hnx
                    rw [Nat.add_sub_cancel_left] at hdg
                    obtain ⟨hJ, hj, f1, f2, f3, f4, f5⟩ := x_lm_ok _ (x_hs_mem hmem)
                    rw [← hcl] at f1
                    exact s_cv C hdg hca hrc f5 hJ f1 f2 f3 f4 (hMet hJ hj) (by omega) (by omega) hmo1 hk1
