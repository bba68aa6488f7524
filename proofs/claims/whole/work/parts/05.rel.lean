/-! WHAT THE ABSTRACT CELLS ARE IN THE MACHINE'S HEAP -/
def cv (ad : Nat → Nat) : Value → Value
  | .ref k => .ref (ad k)
  | v => v
def cA (ad : Nat → Nat) : vp_A → vp_A
  | (n, .inr (.inr (.inr (.inr f)))) => (n, .inr (.inr (.inr (.inr (fun j => (f j).map ad)))))
  | q => q
def cE (ad : Nat → Nat) (ca : Nat → ClassId) (k : Nat) : AC → va_E
  | .inl (_, q) => .inl (ca k, cA ad q)
  | .inr (ci, fs) => .inr (ci, fs.map (cv ad))
def cW (ad : Nat → Nat) (ca : Nat → ClassId) (h : List AC) : va_W := h.mapIdx (fun k c => (ad k, cE ad ca k c))
def tyT : Nat → FieldType
  | 0 => .int
  | 1 => .long
  | 2 => .byte
  | 3 => .boolean
  | 4 => .object "DebtTable$Shire"
  | 5 => .object "DebtTable$Word"
  | _ => .object "DebtTable$Sentence"
theorem cW_at {ad : Nat → Nat} {ca : Nat → ClassId} {h : List AC} {k : Nat} {c : AC} (e : h[k]? = some c) : (cW ad ca h)[k]? = some (ad k, cE ad ca k c) := by
  simp [cW, List.getElem?_mapIdx, e]
theorem cW_at' {ad : Nat → Nat} {ca : Nat → ClassId} {h : List AC} {k : Nat} {q : Nat × va_E} (e : (cW ad ca h)[k]? = some q) : ∃ c, h[k]? = some c ∧ q = (ad k, cE ad ca k c) := by
  simp only [cW, List.getElem?_mapIdx, Option.map_eq_some_iff] at e
  obtain ⟨c, h1, h2⟩ := e
  exact ⟨c, h1, h2.symm⟩
theorem cW_set {ad : Nat → Nat} {ca : Nat → ClassId} {h : List AC} {k : Nat} {c : AC} : cW ad ca (h.set k c) = (cW ad ca h).set k (ad k, cE ad ca k c) := by
  apply List.ext_getElem?
  intro j
  simp only [cW, List.getElem?_mapIdx, List.getElem?_set, List.length_mapIdx]
  by_cases hj : k = j
  · subst hj
    by_cases hk : k < h.length <;> simp [hk]
  · simp [hj]
theorem cW_app {ad : Nat → Nat} {ca : Nat → ClassId} {h : List AC} {c : AC} : cW ad ca (h ++ [c]) = cW ad ca h ++ [(ad h.length, cE ad ca h.length c)] := by
  simp [cW, List.mapIdx_append]
/-- a value that points to cells below n, or to constants -/
def wv (n : Nat) : Value → Prop
  | .ref k => k < n ∨ 1000000 ≤ k
  | _ => True
def wA (n : Nat) : vp_A → Prop
  | (_, .inr (.inr (.inr (.inr f)))) => ∀ j k, f j = some k → k < n ∨ 1000000 ≤ k
  | _ => True
def wC (n : Nat) : AC → Prop
  | .inl (_, q) => wA n q
  | .inr (_, fs) => ∀ v ∈ fs, wv n v
def wL (n : Nat) (ls : XL) : Prop := ∀ o ∈ ls, ∀ v, o = some v → wv n v
theorem wv_le {n m : Nat} (h : n ≤ m) {v : Value} (hv : wv n v) : wv m v := by
  cases v <;> simp only [wv] at hv ⊢
  exact hv.imp (fun q => Nat.lt_of_lt_of_le q h) id
theorem wA_le {n m : Nat} (h : n ≤ m) {q : vp_A} (hq : wA n q) : wA m q := by
  obtain ⟨a, q⟩ := q
  rcases q with f | f | f | f | f <;> simp only [wA] at hq ⊢
  intro j k e
  have := hq j k e
  omega
theorem wC_le {n m : Nat} (h : n ≤ m) {c : AC} (hc : wC n c) : wC m c := by
  rcases c with ⟨t, q⟩ | ⟨ci, fs⟩
  · exact wA_le h hc
  · exact fun v hv => wv_le h (hc v hv)
/-- the same addresses for cells below n and for constants -/
def ag (n : Nat) (ad ad' : Nat → Nat) : Prop := ∀ k, (k < n ∨ 1000000 ≤ k) → ad' k = ad k
theorem ag_rf {n : Nat} {ad : Nat → Nat} : ag n ad ad := fun _ _ => rfl
theorem ag_tr {n m : Nat} {a b c : Nat → Nat} (h : ag n a b) (h2 : ag m b c) (hn : n ≤ m) : ag n a c := fun k hk => by
  rw [h2 k (by omega), h k hk]
theorem cv_ag {n : Nat} {ad ad' : Nat → Nat} (h : ag n ad ad') {v : Value} (hv : wv n v) : cv ad' v = cv ad v := by
  cases v <;> simp only [cv, wv] at hv ⊢
  rw [h _ hv]
theorem map_cv_ag {n : Nat} {ad ad' : Nat → Nat} (h : ag n ad ad') {st : List Value} (hv : ∀ v ∈ st, wv n v) : st.map (cv ad') = st.map (cv ad) :=
  List.map_congr_left (fun v hm => cv_ag h (hv v hm))
theorem cA_ag {n : Nat} {ad ad' : Nat → Nat} (h : ag n ad ad') {q : vp_A} (hq : wA n q) : cA ad' q = cA ad q := by
  obtain ⟨a, q⟩ := q
  rcases q with f | f | f | f | f <;> simp only [cA, wA] at hq ⊢
  congr 5
  funext j
  cases e : f j with
  | none => rfl
  | some k => simp [h k (hq j k e)]
theorem cE_ag {n : Nat} {ad ad' : Nat → Nat} {ca : Nat → ClassId} {k : Nat} (h : ag n ad ad') {c : AC} (hc : wC n c) : cE ad' ca k c = cE ad ca k c := by
  rcases c with ⟨t, q⟩ | ⟨ci, fs⟩
  · simp only [cE]; rw [cA_ag h hc]
  · simp only [cE]; rw [map_cv_ag h hc]
theorem cW_ag {ad ad' : Nat → Nat} {ca ca' : Nat → ClassId} {h : List AC} (hg : ag h.length ad ad') (hc : ∀ k, k < h.length → ca' k = ca k) (hw : ∀ c ∈ h, wC h.length c) : cW ad' ca' h = cW ad ca h := by
  apply List.ext_getElem?
  intro j
  simp only [cW, List.getElem?_mapIdx]
  cases e : h[j]? with
  | none => rfl
  | some c =>
    have hj : j < h.length := (List.getElem?_eq_some_iff.mp e).1
    simp only [Option.map_some, Option.some.injEq, Prod.mk.injEq]
    refine ⟨hg j (Or.inl hj), ?_⟩
    have : cE ad' ca' j c = cE ad' ca j c := by
      rcases c with ⟨t, q⟩ | ⟨ci, fs⟩ <;> simp only [cE]
      rw [hc j hj]
    rw [this]
    exact cE_ag hg (hw c (List.mem_of_getElem? e))
theorem x_at_eq {α : Type} : ∀ (l : List α) (k : Nat), x_at l k = l[k]?
  | [], k => by simp [x_at]
  | c :: t, 0 => by simp [x_at]
  | c :: t, k + 1 => by simp [x_at, x_at_eq t k]
theorem x_pk_some {α β : Type} : ∀ {l : List α} {k : Nat} {v : α} {f : List α → Option β} {o : β}, x_pk l k v f = some o → k < l.length ∧ f (l.set k v) = some o
  | [], k, v, f, o, h => by simp [x_pk] at h
  | c :: t, 0, v, f, o, h => by simpa [x_pk] using h
  | c :: t, k + 1, v, f, o, h => by
    have := x_pk_some (l := t) (k := k) (v := v) (f := fun t => f (c :: t)) (by simpa [x_pk] using h)
    simpa using this
