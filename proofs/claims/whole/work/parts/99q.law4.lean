/-! THE LAW: its code, case by case -/
def lpush (cc : ByteArray) : Nat → List Nat → Prop
  | _, [] => True
  | pc, k :: t => (decode cc pc = .ok (.aload_n 0, 1) ∧ decode cc (pc + 1) = .ok (.iload 4, 2) ∧ (∃ z : Int, decode cc (pc + 3) = .ok (.iconst z, 1) ∧ Int32.ofInt z = nI k) ∧ decode cc (pc + 4) = .ok (.iadd, 1) ∧ decode cc (pc + 5) = .ok (.iaload, 1)) ∧ lpush cc (pc + 6) t
def lstd (cc : ByteArray) (pc : Nat) (ks : List Nat) (qc qr : Nat) : Prop :=
  decode cc pc = .ok (.aload_n 1, 1) ∧ lpush cc (pc + 1) ks ∧ decode cc (pc + 1 + 6 * ks.length) = .ok (.invokevirtual qc, 3) ∧ decode cc (pc + 1 + 6 * ks.length + 3) = .ok (.aload_n 2, 1) ∧ lpush cc (pc + 1 + 6 * ks.length + 3 + 1) ks ∧ decode cc (pc + 1 + 6 * ks.length + 3 + 1 + 6 * ks.length) = .ok (.invokevirtual qr, 3) ∧ ∃ off : Int, decode cc (pc + 1 + 6 * ks.length + 3 + 1 + 6 * ks.length + 3) = .ok (.if_icmp .eq off, 3) ∧ ((pc + 1 + 6 * ks.length + 3 + 1 + 6 * ks.length + 3 : Nat) : Int) + off = ((1335 : Nat) : Int)
/-- what the tables say of a method that is called from elsewhere -/
def LF (own : String) (q j n ci : Nat) : Prop := j < 282 ∧ (ci ≠ 99 ∧ ∃ r, vwCl[ci]? = some r ∧ r.1 = (xy j).cls) ∧ x_J j ∧ Cond.methodLink own q (xy j) ∈ TG ∧ Cond.instanceMethod (xy j) ∈ TG ∧ Cond.selects (xy j).cls (xy j) (xy j) ∈ TG ∧ (parseMethodDescriptor (xy j).desc).map (fun d => d.parameters.length) = some n
section LWE
variable {p : Program} {l : Launch} {e : Env} {R9 : Room} {s : State} {m : MethodId} {args : Array Value} {below : List Frame} {meth : Method} {c : Code} {Q : State → Prop} {cc : ByteArray} {own : String} {D : va_G} {ad0 adV : Nat → Nat} {A : Nat → Prop} {b L i ax ar ao : Nat} {xs : Nat → Int32} {la : Array Slot}
theorem lw_push (G : LG p s m c args cc 7 own D ad0 adV A) (hX : va_X b L xs s s.heap) (hbl : b < s.heap.size) (hbA : ¬ A b) (hl : lv_has la 7 [(0, .ref b), (1, .ref ax), (2, .ref ar), (3, .ref ao), (4, .int (nI i))]) (hL : L ≤ 3072) {H : Heap} {locs : List Loc} {cells slots : Nat} (hS : va_S A s.heap H locs) : ∀ (ks : List Nat) (pc : Nat) (st : List Value), lpush cc pc ks → (∀ k ∈ ks, i + k < L) → W p l e R9 s m args below meth c H locs cells slots Q (F0 m (pc + 6 * ks.length) la ((ks.map (fun k => Value.int (xs (i + k)))).reverse ++ st)) → W p l e R9 s m args below meth c H locs cells slots Q (F0 m pc la st)
  | [], pc, st, _, _, h => h
  | k :: t, pc, st, ⟨⟨d0, d1, ⟨z, d2, hz⟩, d3, d4⟩, ht⟩, hk, h => by
    have hik := hk k List.mem_cons_self
    have G' := G
    obtain ⟨hx, hb, -⟩ := G
    refine lv_aload_n hx hb d0 rfl (lv_at hl 0 rfl) ?_
    refine lv_iload hx hb d1 (lv_at hl 4 rfl) ?_
    refine lv_iconst (v := nI k) hx hb d2 hz ?_
    refine lv_iadd hx hb d3 ?_
    rw [nI_add]
    refine va_sld hx hb hX hbl hbA hS (vp_in_nI hik (by omega)) d4 ?_
    rw [nI_clamp (by omega)]
    refine lw_push G' hX hbl hbA hl hL hS t (pc + 6) _ ht (fun k hk' => hk k (List.mem_cons_of_mem _ hk')) ?_
    have e1 : pc + 6 * (k :: t).length = pc + 6 + 6 * t.length := by simp only [List.length_cons]; omega
    have e2 : ((k :: t).map (fun k => Value.int (xs (i + k)))).reverse ++ st = (t.map (fun k => Value.int (xs (i + k)))).reverse ++ (Value.int (xs (i + k)) :: st) := by simp
    rw [e1, e2] at h
    exact h
theorem lw_std (HJ : x_Je l) (hz0 : ∀ k, 2000000 ≤ k → ad0 k = k - 2000000) (G : LG p s m c args cc 7 own D ad0 adV A) (hX : va_X b L xs s s.heap) (hbl : b < s.heap.size) (hbA : ¬ A b) (hl : lv_has la 7 [(0, .ref b), (1, .ref ax), (2, .ref ar), (3, .ref ao), (4, .int (nI i))]) (hL : L ≤ 3072) {H : Heap} {locs : List Loc} {cells slots : Nat} (hS : va_S A s.heap H locs) (hLS : LSt D A s ad0 ax ar ao H) {ks : List Nat} {jc jr qc qr d pc : Nat} (hOk : Ok d jc jr (.ref 0 :: ks.map (fun k => Value.int (xs (i + k))))) (hp : lstd cc pc ks qc qr) (fc : LF own qc jc ks.length 10) (fr : LF own qr jr ks.length 11) (hk : ∀ k ∈ ks, i + k < L)
    (hfr : d + 6 ≤ R9.frames) (hlo : 41 * (d + 6) ≤ R9.locals) (hcb : cells + 1 ≤ R9.cells) (hsb : slots + 8 ≤ R9.slots)
    (kk : ∀ (H1 : Heap) (locs1 : List Loc), LSt D A s ad0 ax ar ao H1 → va_S A s.heap H1 locs1 → W p l e R9 s m args below meth c H1 locs1 (cells + 1) (slots + 8) Q (F0 m 1335 la [])) : W p l e R9 s m args below meth c H locs cells slots Q (F0 m pc la []) := by
  obtain ⟨p1, p2, p3, p4, p5, p6, off, p7, p8⟩ := hp
  obtain ⟨f1, f2, f3, f4, f5, f6, f7⟩ := fc
  obtain ⟨g1, g2, g3, g4, g5, g6, g7⟩ := fr
  have hti : ∀ v ∈ ks.map (fun k => Value.int (xs (i + k))), ∃ x, v = .int x := fun v hv => by
    obtain ⟨k, -, rfl⟩ := List.mem_map.mp hv
    exact ⟨_, rfl⟩
  have hlen : (ks.map (fun k => Value.int (xs (i + k)))).length = ks.length := List.length_map _
  have hx := G.1
  have hb := G.2.1
  refine lv_aload_n hx hb p1 rfl (lv_at hl 1 rfl) ?_
  refine lw_push G hX hbl hbA hl hL hS ks (pc + 1) [.ref ax] p2 hk ?_
  refine LS_c (rest := []) HJ hz0 G hS hLS hOk hti f1 p3 hl.1 f2 f3 f4 f5 f6 (by rw [hlen]; exact f7) hfr hlo hcb hsb (by simp) (fun v H1 locs1 hLM hS1 => ?_)
  refine lv_aload_n hx hb p4 rfl (lv_at hl 2 rfl) ?_
  refine lw_push G hX hbl hbA hl hL hS1 ks _ [.ref ar, .int v] p5 hk ?_
  refine LS_r (rest := [.int v]) HJ G hS1 hLM hti g1 p6 hl.1 g2 g3 g4 g5 g6 (by rw [hlen]; exact g7) hfr hlo hcb hsb (by simp [Value.category]) (fun H2 locs2 hLS2 hS2 => ?_)
  refine lv_icmp_eq (tgt := 1335) hx hb p7 p8 (fun _ => ?_) (fun h => absurd rfl h)
  exact kk H2 locs2 hLS2 hS2
end LWE
