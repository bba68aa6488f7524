/-! THE LAW: what a call leaves behind is let go -/
def sN (z k : Nat) : Nat := cond (Nat.beq k 146) z k
def sV (z : Nat) : Value → Value
  | .ref k => .ref (sN z k)
  | v => v
def sA (z : Nat) : vp_A → vp_A
  | (n, .inr (.inr (.inr (.inr f)))) => (n, .inr (.inr (.inr (.inr (fun j => (f j).map (sN z))))))
  | q => q
def sC (z : Nat) : AC → AC
  | .inl (t, q) => .inl (t, sA z q)
  | .inr (ci, fs) => .inr (ci, fs.map (sV z))
theorem sN_n {z k : Nat} (h : k ≠ 146) : sN z k = k := by
  unfold sN
  cases hb : Nat.beq k 146 with
  | false => rfl
  | true => exact absurd (Nat.eq_of_beq_eq_true hb) h
theorem sN_s {z : Nat} : sN z 146 = z := rfl
theorem sN_ad {ad : Nat → Nat} {z : Nat} (h : ad z = ad 146) (k : Nat) : ad (sN z k) = ad k := by
  by_cases hk : k = 146
  · rw [hk, sN_s]; exact h
  · rw [sN_n hk]
theorem sC_cE {ad : Nat → Nat} {ca : Nat → ClassId} {z : Nat} (h : ad z = ad 146) (k : Nat) (c : AC) : cE ad ca k (sC z c) = cE ad ca k c := by
  rcases c with ⟨t, n, q⟩ | ⟨ci, fs⟩
  · rcases q with f | f | f | f | f
    · rfl
    · rfl
    · rfl
    · rfl
    · simp only [sC, sA, cE, cA]
      refine congrArg (fun q => Sum.inl (ca k, (n, Sum.inr (Sum.inr (Sum.inr (Sum.inr q)))))) ?_
      funext j
      cases f j with
      | none => rfl
      | some k => simp only [Option.map_some, sN_ad h]
  · simp only [sC, cE]
    congr 2
    rw [List.map_map]
    apply List.map_congr_left
    intro v _
    cases v <;> simp only [Function.comp, sV, cv]
    rw [sN_ad h]
theorem sC_wC {z : Nat} (hz : 1000000 ≤ z) {c : AC} (h : wC 147 c) : wC 146 (sC z c) := by
  have key : ∀ k, (k < 147 ∨ 1000000 ≤ k) → (sN z k < 146 ∨ 1000000 ≤ sN z k) := fun k hk => by
    by_cases h1 : k = 146
    · rw [h1, sN_s]; exact Or.inr hz
    · rw [sN_n h1]; omega
  rcases c with ⟨t, n, q⟩ | ⟨ci, fs⟩
  · rcases q with f | f | f | f | f
    · trivial
    · trivial
    · trivial
    · trivial
    · intro j k hk
      simp only [Option.map_eq_some_iff] at hk
      obtain ⟨k0, h1, h2⟩ := hk
      rw [← h2]
      exact key k0 (h j k0 h1)
  · intro v hv
    simp only [List.mem_map] at hv
    obtain ⟨v0, h1, h2⟩ := hv
    rw [← h2]
    have := h v0 h1
    cases v0 <;> simp only [sV, wv] at this ⊢
    exact key _ this
theorem cW_pre {ad : Nat → Nat} {ca : Nat → ClassId} {z n : Nat} {h : List AC} (hz : ad z = ad 146) {k : Nat} {q : Nat × va_E} (hk : (cW ad ca ((h.take n).map (sC z)))[k]? = some q) : (cW ad ca h)[k]? = some q := by
  obtain ⟨c, h1, h2⟩ := cW_at' hk
  rw [List.getElem?_map, Option.map_eq_some_iff] at h1
  obtain ⟨c0, h3, h4⟩ := h1
  have h5 : h[k]? = some c0 := by
    rw [List.getElem?_take] at h3
    split at h3
    · exact h3
    · cases h3
  rw [h2, ← h4, sC_cE hz]
  exact cW_at h5
theorem LO_cut {D : va_G} {A : Nat → Prop} {s : State} {ad0 ad : Nat → Nat} {ca : Nat → ClassId} {h : List AC} {H : Heap} (hO : LO D A s ad0 ad ca h H) (h1 : 146 ≤ h.length) (h2 : h.length ≤ 147) (hz0 : ∀ k, 2000000 ≤ k → ad0 k = k - 2000000) : LO D A s ad0 ad ca ((h.take 146).map (sC (2000000 + ad 146))) H := by
  have hz : ad (2000000 + ad 146) = ad 146 := by
    rw [hO.1 _ (Or.inr (by omega)), hz0 _ (by omega)]
    omega
  obtain ⟨o1, o2, o3, o4, o5⟩ := hO
  refine ⟨o1, fun k q hk => o2 k q (cW_pre hz hk), ⟨fun i j p q hi hj => o3.1 i j p q (cW_pre hz hi) (cW_pre hz hj), fun k q hk => o3.2 k q (cW_pre hz hk)⟩, ?_, ?_⟩
  · intro k t q hk
    rw [List.getElem?_map, Option.map_eq_some_iff] at hk
    obtain ⟨c0, h3, h4⟩ := hk
    have h5 : h[k]? = some c0 := by
      rw [List.getElem?_take] at h3
      split at h3
      · exact h3
      · cases h3
    rcases c0 with ⟨t0, q0⟩ | ⟨ci, fs⟩
    · simp only [sC, Sum.inl.injEq, Prod.mk.injEq] at h4
      rw [← h4.1]
      exact o4 k t0 q0 h5
    · simp only [sC] at h4
      cases h4
  · intro c hc
    rw [List.mem_map] at hc
    obtain ⟨c0, h3, h4⟩ := hc
    have hl : ((h.take 146).map (sC (2000000 + ad 146))).length = 146 := by
      rw [List.length_map, List.length_take]
      omega
    rw [hl, ← h4]
    refine sC_wC (by omega) ?_
    exact wC_le (by omega) (o5 c0 (List.mem_of_mem_take h3))
def sW (z : Nat) (V : Nat → Nat → Option Nat) : Nat → Nat → Option Nat := fun q j => (V q j).map (sN z)
set_option maxRecDepth 100000 in
theorem CH_cut (z : Nat) (I A : Nat → Nat → Int32) (N : Nat → Nat → Int64) (V : Nat → Nat → Option Nat) (lt : Int64) (tw : Option Nat) (X : List AC) : ((CH I A N V lt tw 108 112 X).take 146).map (sC z) = CH I A N (sW z V) lt (tw.map (sN z)) 108 112 [] := by
  cases tw <;> rfl
set_option maxRecDepth 100000 in
theorem CH_cut' (z : Nat) (I A : Nat → Nat → Int32) (N : Nat → Nat → Int64) (V : Nat → Nat → Option Nat) (lt : Int64) (tw : Option Nat) (X : List AC) : ((CH I A N V lt tw 112 108 X).take 146).map (sC z) = CH I A N (sW z V) lt (tw.map (sN z)) 112 108 [] := by
  cases tw <;> rfl
theorem CH_len (I A : Nat → Nat → Int32) (N : Nat → Nat → Int64) (V : Nat → Nat → Option Nat) (lt : Int64) (tw : Option Nat) (sp sr : Nat) (X : List AC) : (CH I A N V lt tw sp sr X).length = 146 + X.length := by
  simp only [CH, List.length_cons]
  omega
theorem RH_len (J : Nat → Int32) (w : Int64) (B : Nat → Nat → Int32) (M : Nat → Nat → Int64) : (RH J w B M).length = 19 := rfl
theorem Cm_cut {z : Nat} {W : Nat → Option Nat} {S T n : Nat → Int32} : ∀ (f i k : Nat), Cm W S T n f i k → Cm (fun j => (W j).map (sN z)) S T n f i k := by
  have key : ∀ {k a : Nat}, W k = some (1000000 + a) → (W k).map (sN z) = some (1000000 + a) := fun h => by
    rw [h]
    exact congrArg some (sN_n (by omega))
  intro f
  induction f with
  | zero => intro i k h; exact h
  | succ f ih =>
    intro i k hc
    rcases hc with ⟨a, h1, h2, h3, h4, h5, h6, h7⟩ | ⟨x, h1, h2, h3, h4, h5⟩ | ⟨x, y, h1, h2, h3, h4, h5, h6, h7⟩ | ⟨x, y, h1, h2, h3, h4, h5, h6, h7⟩
    · exact Or.inl ⟨a, h1, h2, h3, h4, key h5, h6, h7⟩
    · exact Or.inr (Or.inl ⟨x, h1, h2, h3, key (a := 11) h4, ih _ _ h5⟩)
    · exact Or.inr (Or.inr (Or.inl ⟨x, y, h1, h2, h3, h4, key (a := 10) h5, ih _ _ h6, ih _ _ h7⟩))
    · exact Or.inr (Or.inr (Or.inr ⟨x, y, h1, h2, h3, h4, key (a := 9) h5, ih _ _ h6, ih _ _ h7⟩))
theorem Sn_cut {z : Nat} {I A : Nat → Nat → Int32} {V : Nat → Nat → Option Nat} {s : Nat} {n : Nat → Int32} (h : Sn I A V s n) : Sn I A (sW z V) s n := by
  rcases h with h | ⟨h, L, f, e1, e2, e3, e4⟩
  · exact Or.inl h
  · exact Or.inr ⟨h, L, f, e1, e2, e3, Cm_cut _ _ _ e4⟩
theorem Rl_cut {z : Nat} {I A : Nat → Nat → Int32} {N : Nat → Nat → Int64} {V : Nat → Nat → Option Nat} {sp sr : Nat} {J : Nat → Int32} {B : Nat → Nat → Int32} {M : Nat → Nat → Int64} (h : Rl I A N V sp sr J B M) : Rl I A N (sW z V) sp sr J B M := by
  obtain ⟨H, m, h1, h2, hT, hQ, hRI, ⟨v1, v2, v3, v4, v5⟩, hC1, hC2⟩ := h
  have key : ∀ {q j k : Nat}, V q j = some k → k ≠ 146 → sW z V q j = some k := fun h hk => by
    show (V _ _).map (sN z) = _
    rw [h]
    exact congrArg some (sN_n hk)
  refine ⟨H, m, h1, h2, hT, hQ, fun k hk => ?_, ⟨fun j hj => key (v1 j hj) (by omega), key v2 (by decide), key v3 (by decide), key v4 (by decide), key v5 (by decide)⟩, hC1, Sn_cut hC2⟩
  obtain ⟨b, e1, e2, e3⟩ := hRI k hk
  refine ⟨b, e1, e2, fun hb => ?_⟩
  obtain ⟨H', m', f1, f2, f3, f4, f5⟩ := e3 hb
  exact ⟨H', m', f1, f2, f3, f4, Sn_cut f5⟩
/-! THE LAW: both objects, and its own row -/
def LX (D : va_G) (A : Nat → Prop) (s : State) (ad0 : Nat → Nat) (hc hr : List AC) (ax ar ao : Nat) (H : Heap) : Prop :=
  ∃ (adc adr ado : Nat → Nat) (cac car cao : Nat → ClassId) (fo : Nat → Int64), LO D A s ad0 adc cac hc H ∧ LO D A s ad0 adr car hr H ∧ LO D A s ad0 ado cao [.inl (1, 1, .inr (.inl fo))] H ∧ (∀ i j, i < hc.length → j < hr.length → adc i ≠ adr j) ∧ (∀ i, i < hc.length → adc i ≠ ado 0) ∧ (∀ j, j < hr.length → adr j ≠ ado 0) ∧ adc 0 = ax ∧ adr 0 = ar ∧ ado 0 = ao
/-- between two calls of the script -/
def LSt (D : va_G) (A : Nat → Prop) (s : State) (ad0 : Nat → Nat) (ax ar ao : Nat) (H : Heap) : Prop :=
  ∃ (I Ac : Nat → Nat → Int32) (N : Nat → Nat → Int64) (V : Nat → Nat → Option Nat) (lt : Int64) (tw : Option Nat) (sp sr : Nat) (J : Nat → Int32) (w : Int64) (B : Nat → Nat → Int32) (M : Nat → Nat → Int64), Rl I Ac N V sp sr J B M ∧ LX D A s ad0 (CH I Ac N V lt tw sp sr []) (RH J w B M) ax ar ao H
/-- between the class's call and the reference's -/
def LM (D : va_G) (A : Nat → Prop) (s : State) (ad0 : Nat → Nat) (ax ar ao d jr : Nat) (as : List Value) (v : Int32) (H : Heap) : Prop :=
  ∃ (I Ac : Nat → Nat → Int32) (N : Nat → Nat → Int64) (V : Nat → Nat → Option Nat) (lt : Int64) (tw : Option Nat) (sp sr : Nat) (J J' : Nat → Int32) (w w' : Int64) (B B' : Nat → Nat → Int32) (M M' : Nat → Nat → Int64), Rl I Ac N V sp sr J' B' M' ∧ C d jr as 0 (RH J w B M) = some ([.int v], 0, RH J' w' B' M') ∧ LX D A s ad0 (CH I Ac N V lt tw sp sr []) (RH J w B M) ax ar ao H
theorem LX_cut {D : va_G} {A : Nat → Prop} {s : State} {ad0 : Nat → Nat} {I Ac : Nat → Nat → Int32} {N : Nat → Nat → Int64} {V : Nat → Nat → Option Nat} {lt : Int64} {tw : Option Nat} {sp sr : Nat} {X hr : List AC} {J : Nat → Int32} {B : Nat → Nat → Int32} {M : Nat → Nat → Int64} {ax ar ao : Nat} {H : Heap} (hR : Rl I Ac N V sp sr J B M) (hX : X.length ≤ 1) (hz0 : ∀ k, 2000000 ≤ k → ad0 k = k - 2000000) (h : LX D A s ad0 (CH I Ac N V lt tw sp sr X) hr ax ar ao H) : ∃ V' tw', Rl I Ac N V' sp sr J B M ∧ LX D A s ad0 (CH I Ac N V' lt tw' sp sr []) hr ax ar ao H := by
  obtain ⟨adc, adr, ado, cac, car, cao, fo, o1, o2, o3, d1, d2, d3, e1, e2, e3⟩ := h
  have hl := CH_len I Ac N V lt tw sp sr X
  have hcut := LO_cut o1 (by omega) (by omega) hz0
  refine ⟨sW (2000000 + adc 146) V, tw.map (sN (2000000 + adc 146)), Rl_cut hR, adc, adr, ado, cac, car, cao, fo, ?_, o2, o3, fun i j hi hj => d1 i j ?_ hj, fun i hi => d2 i ?_, d3, e1, e2, e3⟩
  · obtain ⟨_, _, _, _, _, _, _, _, hC1, _⟩ := hR
    rcases hC1 with ⟨rfl, rfl⟩ | ⟨rfl, rfl⟩
    · rw [CH_cut] at hcut; exact hcut
    · rw [CH_cut'] at hcut; exact hcut
  · rw [CH_len] at hi ⊢
    simp only [List.length_nil] at hi
    omega
  · rw [CH_len] at hi ⊢
    simp only [List.length_nil] at hi
    omega
