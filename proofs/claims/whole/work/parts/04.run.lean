/-! RUNS OF THE ABSTRACT MACHINE: by fuel, and without -/
def x_ent (j : Nat) (as : List Value) (sl : Nat) (h : List AC) : XR := cond (Nat.ble (x_args as).length (xmL j)) (0, x_pad (xmL j) (x_args as), [], sl, h) x_dead
def stp (K : Nat → Nat → XR → Option XR) (d i : Nat) : XR → Option XR
  | (pc, ls, st, sl, h) => (match xk i pc with
    | (ins, nx, aux, v) => (match x_trm ins aux with
      | true => some (pc, ls, st, sl, h)
      | false => (match dec ins nx aux v pc ls st sl h with
        | none => none
        | some (.inl (b, x1, x2)) => cond b (K d i x1) (K d i x2)
        | some (.inr (j, as, rest)) => (match d with
          | 0 => none
          | d' + 1 => (match K d' j (x_ent j as sl h) with
            | none => none
            | some (pc2, _, st2, sl2, h2) => (match x_ret (xrk j) (xk j pc2).1 st2 with
              | none => none
              | some vs => K (d' + 1) i (nx, ls, vs ++ rest, sl2, h2)))))))
def run : Nat → Nat → Nat → XR → Option XR
  | 0 => fun _ _ _ => none
  | F + 1 => stp (run F)
theorem stp_mono {K K' : Nat → Nat → XR → Option XR} (h : ∀ d i x y, K d i x = some y → K' d i x = some y) : ∀ d i x y, stp K d i x = some y → stp K' d i x = some y := by
  intro d i ⟨pc, ls, st, sl, hp⟩ y
  unfold stp
  dsimp only
  cases ht : x_trm (xk i pc).1 (xk i pc).2.2.1 with
  | true => exact id
  | false =>
    dsimp only
    cases hd : dec (xk i pc).1 (xk i pc).2.1 (xk i pc).2.2.1 (xk i pc).2.2.2 pc ls st sl hp with
    | none => exact id
    | some o =>
      rcases o with ⟨b, x1, x2⟩ | ⟨j, as, rest⟩
      · cases b
        · exact h d i x2 y
        · exact h d i x1 y
      · cases d with
        | zero => exact id
        | succ d' =>
          dsimp only
          intro hk
          cases hc : K d' j (x_ent j as sl hp) with
          | none => rw [hc] at hk; cases hk
          | some z =>
            rw [hc] at hk
            rw [h _ _ _ _ hc]
            obtain ⟨pc2, ls2, st2, sl2, h2⟩ := z
            dsimp only at hk ⊢
            cases hr : x_ret (xrk j) (xk j pc2).1 st2 with
            | none => rw [hr] at hk; cases hk
            | some vs => rw [hr] at hk; exact h _ _ _ _ hk
theorem run_succ {F : Nat} : ∀ d i x y, run F d i x = some y → run (F + 1) d i x = some y := by
  induction F with
  | zero => intro d i x y h; cases h
  | succ F ih => exact stp_mono ih
theorem run_le {F F' : Nat} (hF : F ≤ F') : ∀ d i x y, run F d i x = some y → run F' d i x = some y := by
  induction hF with
  | refl => exact fun _ _ _ _ => id
  | step _ ih => exact fun d i x y h => run_succ d i x y (ih d i x y h)
theorem R_ex (d i : Nat) (x : XR) : ∃ r : Option XR, ∀ y, r = some y ↔ ∃ F, run F d i x = some y := by
  by_cases h : ∃ y F, run F d i x = some y
  · obtain ⟨y, F, hy⟩ := h
    refine ⟨some y, fun z => ⟨fun e => ⟨F, by rw [← e]; exact hy⟩, fun ⟨F', hz⟩ => ?_⟩⟩
    have h1 := run_le (Nat.le_max_left F F') d i x y hy
    have h2 := run_le (Nat.le_max_right F F') d i x z hz
    exact h1.symm.trans h2
  · exact ⟨none, fun z => ⟨fun e => absurd e (by simp), fun ⟨F, hz⟩ => absurd ⟨z, F, hz⟩ h⟩⟩
noncomputable def R (d i : Nat) (x : XR) : Option XR := Classical.choose (R_ex d i x)
theorem R_iff {d i : Nat} {x y : XR} : R d i x = some y ↔ ∃ F, run F d i x = some y := Classical.choose_spec (R_ex d i x) y
theorem stp_R {d i : Nat} {x y : XR} : stp R d i x = some y ↔ ∃ F, run F d i x = some y := by
  constructor
  · obtain ⟨pc, ls, st, sl, hp⟩ := x
    intro hk
    unfold stp at hk
    dsimp only at hk
    cases ht : x_trm (xk i pc).1 (xk i pc).2.2.1 with
    | true =>
      rw [ht] at hk
      exact ⟨1, by show stp (run 0) d i _ = some y; unfold stp; dsimp only; rw [ht]; exact hk⟩
    | false =>
      rw [ht] at hk
      dsimp only at hk
      cases hd : dec (xk i pc).1 (xk i pc).2.1 (xk i pc).2.2.1 (xk i pc).2.2.2 pc ls st sl hp with
      | none => rw [hd] at hk; cases hk
      | some o =>
        rw [hd] at hk
        rcases o with ⟨b, x1, x2⟩ | ⟨j, as, rest⟩
        · have : ∃ F, cond b (run F d i x1) (run F d i x2) = some y := by
            cases b
            · exact R_iff.mp hk
            · exact R_iff.mp hk
          obtain ⟨F, hF⟩ := this
          exact ⟨F + 1, by show stp (run F) d i _ = some y; unfold stp; dsimp only; rw [ht, hd]; exact hF⟩
        · cases d with
          | zero => cases hk
          | succ d' =>
            dsimp only at hk
            cases hc : R d' j (x_ent j as sl hp) with
            | none => rw [hc] at hk; cases hk
            | some z =>
              rw [hc] at hk
              obtain ⟨pc2, ls2, st2, sl2, h2⟩ := z
              dsimp only at hk
              cases hr : x_ret (xrk j) (xk j pc2).1 st2 with
              | none => rw [hr] at hk; cases hk
              | some vs =>
                rw [hr] at hk
                dsimp only at hk
                obtain ⟨F1, h1⟩ := R_iff.mp hc
                obtain ⟨F2, h2⟩ := R_iff.mp hk
                refine ⟨max F1 F2 + 1, ?_⟩
                show stp (run (max F1 F2)) (d' + 1) i _ = some y
                unfold stp
                dsimp only
                rw [ht, hd]
                dsimp only
                rw [run_le (Nat.le_max_left F1 F2) _ _ _ _ h1]
                dsimp only
                rw [hr]
                exact run_le (Nat.le_max_right F1 F2) _ _ _ _ h2
  · rintro ⟨F, hF⟩
    cases F with
    | zero => cases hF
    | succ F => exact stp_mono (fun d i x y h => R_iff.mpr ⟨F, h⟩) d i x y hF
theorem R_eq (d i : Nat) (x : XR) : R d i x = stp R d i x := by
  cases h : stp R d i x with
  | some y => exact R_iff.mpr (stp_R.mp h)
  | none =>
    cases h2 : R d i x with
    | none => rfl
    | some y => rw [stp_R.mpr (R_iff.mp h2)] at h; cases h
/-- a call: what it gives back, the slots, the cells -/
noncomputable def C (d j : Nat) (as : List Value) (sl : Nat) (h : List AC) : Option (List Value × Nat × List AC) :=
  match R d j (x_ent j as sl h) with
  | none => none
  | some (pc2, _, st2, sl2, h2) => (match x_ret (xrk j) (xk j pc2).1 st2 with
    | none => none
    | some vs => some (vs, sl2, h2))
def stc (K : Nat → Nat → XR → Option XR) (D : Nat → Nat → List Value → Nat → List AC → Option (List Value × Nat × List AC)) (d i : Nat) : XR → Option XR
  | (pc, ls, st, sl, h) => (match xk i pc with
    | (ins, nx, aux, v) => (match x_trm ins aux with
      | true => some (pc, ls, st, sl, h)
      | false => (match dec ins nx aux v pc ls st sl h with
        | none => none
        | some (.inl (b, x1, x2)) => cond b (K d i x1) (K d i x2)
        | some (.inr (j, as, rest)) => (match d with
          | 0 => none
          | d' + 1 => (match D d' j as sl h with
            | none => none
            | some (vs, sl2, h2) => K (d' + 1) i (nx, ls, vs ++ rest, sl2, h2))))))
theorem stc_R (d i : Nat) (x : XR) : stp R d i x = stc R C d i x := by
  obtain ⟨pc, ls, st, sl, hp⟩ := x
  unfold stp stc C
  dsimp only
  cases x_trm (xk i pc).1 (xk i pc).2.2.1 with
  | true => rfl
  | false =>
    dsimp only
    cases dec (xk i pc).1 (xk i pc).2.1 (xk i pc).2.2.1 (xk i pc).2.2.2 pc ls st sl hp with
    | none => rfl
    | some o =>
      rcases o with ⟨b, x1, x2⟩ | ⟨j, as, rest⟩
      · rfl
      · cases d with
        | zero => rfl
        | succ d' =>
          dsimp only
          cases R d' j (x_ent j as sl hp) with
          | none => rfl
          | some z =>
            obtain ⟨pc2, ls2, st2, sl2, h2⟩ := z
            dsimp only
            cases x_ret (xrk j) (xk j pc2).1 st2 <;> rfl
theorem C_of {d j : Nat} {as : List Value} {sl : Nat} {h : List AC} {pc2 : Nat} {ls2 : XL} {st2 : List Value} {sl2 : Nat} {h2 : List AC} {vs : List Value} (h1 : R d j (x_ent j as sl h) = some (pc2, ls2, st2, sl2, h2)) (h3 : x_ret (xrk j) (xk j pc2).1 st2 = some vs) : C d j as sl h = some (vs, sl2, h2) := by
  unfold C; rw [h1]; dsimp only; rw [h3]
def x_mem : List Nat → Nat → Bool
  | [], _ => false
  | a :: t, k => cond (Nat.beq a k) true (x_mem t k)
/-- steps up to a place of cs -/
noncomputable def goc (cs : List Nat) : Nat → Nat → Nat → XR → Option XR
  | 0 => R
  | n + 1 => stc (fun d i x => cond (x_mem cs x.1) (R d i x) (goc cs n d i x)) C
theorem R_goc (cs : List Nat) (n : Nat) : ∀ d i x, R d i x = goc cs n d i x := by
  induction n with
  | zero => intro d i x; rfl
  | succ n ih =>
    intro d i x
    rw [R_eq, stc_R]
    have : (fun d i x => cond (x_mem cs x.1) (R d i x) (goc cs n d i x)) = R := by
      funext d i x
      rw [← ih d i x]
      cases x_mem cs x.1 <;> rfl
    show stc R C d i x = stc (fun d i x => cond (x_mem cs x.1) (R d i x) (goc cs n d i x)) C d i x
    rw [this]
