/-! THE LAW: the three cases that throw -/
def mA (ad ad3 : Nat → Nat) : Nat → Nat := fun k => if k = 146 then ad3 0 else ad k
def mC (ca ca3 : Nat → ClassId) : Nat → ClassId := fun k => if k = 146 then ca3 0 else ca k
def sA0 (ad : Nat → Nat) : Nat → Nat := fun k => if k = 0 then ad 146 else ad k
def sC0 (ca : Nat → ClassId) : Nat → ClassId := fun k => if k = 0 then ca 146 else ca k
set_option maxRecDepth 16384 in
theorem CH_app (I A : Nat → Nat → Int32) (N : Nat → Nat → Int64) (V : Nat → Nat → Option Nat) (lt : Int64) (tw : Option Nat) (sp sr : Nat) (c : AC) : CH I A N V lt tw sp sr [c] = CH I A N V lt tw sp sr [] ++ [c] := rfl
theorem LO_join {D : va_G} {A : Nat → Prop} {s : State} {ad0 ad ad3 : Nat → Nat} {ca ca3 : Nat → ClassId} {h : List AC} {H : Heap} {fo : Nat → Int64} (hn : h.length = 146) (o1 : LO D A s ad0 ad ca h H) (o3 : LO D A s ad0 ad3 ca3 [xRw fo] H) (d2 : ∀ i, i < h.length → ad i ≠ ad3 0) : LO D A s ad0 (mA ad ad3) (mC ca ca3) (h ++ [xRw fo]) H := by
  have hag : ag h.length ad (mA ad ad3) := fun k hk => by unfold mA; rw [if_neg (by omega)]
  have e1 : cW (mA ad ad3) (mC ca ca3) h = cW ad ca h := cW_ag hag (fun k hk => by unfold mC; rw [if_neg (by omega)]) o1.2.2.2.2
  have e2 : cW (mA ad ad3) (mC ca ca3) (h ++ [xRw fo]) = cW ad ca h ++ [(ad3 0, cE ad3 ca3 0 (xRw fo))] := by
    rw [cW_app, e1, hn]
    rfl
  have h3 := cW_at (ad := ad3) (ca := ca3) (h := [xRw fo]) (k := 0) rfl
  have hlen : (cW ad ca h).length = 146 := by unfold cW; rw [List.length_mapIdx]; exact hn
  refine ⟨ag_tr o1.1 hag (Nat.zero_le _), ?_, ⟨?_, ?_⟩, ?_, ?_⟩
  · rw [e2]
    intro k q hk
    rcases Nat.lt_or_ge k 146 with hlt | hge
    · rw [List.getElem?_append_left (by omega)] at hk
      exact o1.2.1 k q hk
    · rw [List.getElem?_append_right (by omega), hlen] at hk
      rcases Nat.eq_or_lt_of_le hge with he | he
      · rw [← he] at hk
        cases hk
        exact o3.2.1 0 _ h3
      · rw [List.getElem?_eq_none (by simp; omega)] at hk
        cases hk
  · rw [e2]
    intro i j p q hi hj hpq
    have key : ∀ (i : Nat) (p : Nat × va_E), (cW ad ca h ++ [(ad3 0, cE ad3 ca3 0 (xRw fo))])[i]? = some p → (i < 146 ∧ (cW ad ca h)[i]? = some p ∧ p.1 = ad i) ∨ (i = 146 ∧ p.1 = ad3 0) := by
      intro i p hi
      rcases Nat.lt_or_ge i 146 with hlt | hge
      · rw [List.getElem?_append_left (by omega)] at hi
        obtain ⟨c, -, rfl⟩ := cW_at' hi
        exact Or.inl ⟨hlt, hi, rfl⟩
      · rw [List.getElem?_append_right (by omega), hlen] at hi
        rcases Nat.eq_or_lt_of_le hge with he | he
        · rw [← he] at hi
          cases hi
          exact Or.inr ⟨he.symm, rfl⟩
        · rw [List.getElem?_eq_none (by simp; omega)] at hi
          cases hi
    rcases key i p hi with ⟨a1, a2, a3⟩ | ⟨a1, a2⟩ <;> rcases key j q hj with ⟨b1, b2, b3⟩ | ⟨b1, b2⟩
    · exact o1.2.2.1.1 i j p q a2 b2 hpq
    · exact absurd (by rw [← a3, ← b2]; exact hpq) (d2 i (by omega))
    · exact absurd (by rw [← b3, ← a2]; exact hpq.symm) (d2 j (by omega))
    · omega
  · rw [e2]
    intro k q hk
    rcases List.mem_append.mp (List.mem_of_getElem? hk) with h9 | h9
    · obtain ⟨k9, hk9⟩ := List.getElem?_of_mem h9
      exact o1.2.2.1.2 k9 q hk9
    · rw [List.mem_singleton.mp h9]
      exact o3.2.2.1.2 0 _ h3
  · intro k t q hk
    rcases Nat.lt_or_ge k 146 with hlt | hge
    · rw [List.getElem?_append_left (by omega)] at hk
      have := o1.2.2.2.1 k t q hk
      unfold mC
      rw [if_neg (by omega)]
      exact this
    · rw [List.getElem?_append_right (by omega), hn] at hk
      rcases Nat.eq_or_lt_of_le hge with he | he
      · rw [← he] at hk ⊢
        have := o3.2.2.2.1 0 t q hk
        unfold mC
        rw [if_pos rfl]
        exact this
      · rw [List.getElem?_eq_none (by simp; omega)] at hk
        cases hk
  · intro c hc
    rcases List.mem_append.mp hc with h9 | h9
    · exact wC_le (by rw [List.length_append]; omega) (o1.2.2.2.2 c h9)
    · rw [List.mem_singleton.mp h9]
      trivial
theorem LO_fst {D : va_G} {A : Nat → Prop} {s : State} {ad0 ad : Nat → Nat} {ca : Nat → ClassId} {h : List AC} {c : AC} {H : Heap} (o : LO D A s ad0 ad ca (h ++ [c]) H) (hw : ∀ c ∈ h, wC h.length c) : LO D A s ad0 ad ca h H := by
  have up : ∀ (k : Nat) (q : Nat × va_E), (cW ad ca h)[k]? = some q → (cW ad ca (h ++ [c]))[k]? = some q := fun k q hk => by
    obtain ⟨c9, h1, rfl⟩ := cW_at' hk
    exact cW_at (by rw [List.getElem?_append_left (List.getElem?_eq_some_iff.mp h1).1]; exact h1)
  exact ⟨o.1, fun k q hk => o.2.1 k q (up k q hk), ⟨fun i j p q hi hj => o.2.2.1.1 i j p q (up i p hi) (up j q hj), fun k q hk => o.2.2.1.2 k q (up k q hk)⟩, fun k t q hk => o.2.2.2.1 k t q (by rw [List.getElem?_append_left (List.getElem?_eq_some_iff.mp hk).1]; exact hk), hw⟩
theorem LO_snd {D : va_G} {A : Nat → Prop} {s : State} {ad0 ad : Nat → Nat} {ca : Nat → ClassId} {h : List AC} {fo : Nat → Int64} {H : Heap} (hn : h.length = 146) (o : LO D A s ad0 ad ca (h ++ [xRw fo]) H) : LO D A s ad0 (sA0 ad) (sC0 ca) [xRw fo] H := by
  have h1 : (h ++ [xRw fo])[146]? = some (xRw fo) := by rw [List.getElem?_append_right (by omega), hn]; rfl
  have h2 := cW_at (ad := ad) (ca := ca) h1
  have one : ∀ (k : Nat) (q : Nat × va_E), (cW (sA0 ad) (sC0 ca) [xRw fo])[k]? = some q → k = 0 ∧ q = (ad 146, cE ad ca 146 (xRw fo)) := fun k q hk => by
    obtain ⟨c9, h3, rfl⟩ := cW_at' hk
    cases k with
    | zero => cases h3; exact ⟨rfl, rfl⟩
    | succ k => simp at h3
  refine ⟨fun k hk => ?_, fun k q hk => ?_, ⟨fun i j p q hi hj _ => ?_, fun k q hk => ?_⟩, fun k t q hk => ?_, fun c hc => ?_⟩
  · unfold sA0
    rw [if_neg (by omega)]
    exact o.1 k hk
  · rw [(one k q hk).2]
    exact o.2.1 146 _ h2
  · rw [(one i p hi).1, (one j q hj).1]
  · rw [(one k q hk).2]
    exact o.2.2.1.2 146 _ h2
  · cases k with
    | zero => cases hk; exact o.2.2.2.1 146 1 _ h1
    | succ k => simp at hk
  · rw [List.mem_singleton.mp hc]
    trivial
section LWZ
variable {p : Program} {l : Launch} {e : Env} {R9 : Room} {s : State} {m : MethodId} {args : Array Value} {below : List Frame} {meth : Method} {c : Code} {Q : State → Prop} {D : va_G} {ad0 adV : Nat → Nat} {A : Nat → Prop} {b L ax ar ao : Nat} {xs : Nat → Int32}
/-- the class and the row, behind a call of the reference -/
theorem LXe_r {hc hr hr2 : List AC} {adc adr ado adr' : Nat → Nat} {cac car cao : Nat → ClassId} {fo : Nat → Int64} {H H1 : Heap} (o1 : LO D A s ad0 adc cac hc H) (o3 : LO D A s ad0 ado cao [xRw fo] H) (d1 : ∀ i j, i < hc.length → j < hr.length → adc i ≠ adr j) (d3 : ∀ j, j < hr.length → adr j ≠ ado 0) (h0 : 0 < hr.length)
    (q2 : ag hr.length adr adr') (q3 : ∀ i, i < hr2.length → va_A (cW adr car hr) H.size (adr' i)) (q4 : ∀ q : Nat, q < H.size → ¬ va_A (cW adr car hr) H.size q → H1[q]? = H[q]?) : LO D A s ad0 adc cac hc H1 ∧ LO D A s ad0 ado cao [xRw fo] H1 ∧ (∀ i j, i < hc.length → j < hr2.length → adc i ≠ adr' j) ∧ (∀ j, j < hr2.length → adr' j ≠ ado 0) ∧ adr' 0 = adr 0 := by
  have n2 : ∀ j, j < hc.length → ¬ va_A (cW adr car hr) H.size (adc j) := fun j hj => va_no (fun i hi h => d1 j i hj hi h.symm) (LO_lt o1 hj).1
  have n3 : ¬ va_A (cW adr car hr) H.size (ado 0) := va_no d3 (LO_lt o3 (i := 0) (Nat.zero_lt_succ _)).1
  refine ⟨LO_kept o1 (fun j hj => q4 _ (LO_lt o1 hj).1 (n2 j hj)), LO_kept o3 (fun i hi => ?_), fun i j hi hj h => n2 i hi (by rw [h]; exact q3 j hj), fun j hj h => n3 (by rw [← h]; exact q3 j hj), q2 0 (Or.inl h0)⟩
  have : i = 0 := by simp at hi; omega
  subst this
  exact q4 _ (LO_lt o3 (i := 0) (Nat.zero_lt_succ _)).1 n3
theorem xc_house {l : Launch} (hst : l.stackTraces = false) (d : Nat) (I A : Nat → Nat → Int32) (N : Nat → Nat → Int64) (V : Nat → Nat → Option Nat) (lt : Int64) (tw : Option Nat) (sp sr : Nat) (X : List AC) (J : Nat → Int32) (w : Int64) (B : Nat → Nat → Int32) (M : Nat → Nat → Int64) (hR : Rl I A N V sp sr J B M) (x1 x2 : Int32) : (∃ v, C (d + 3) 120 [.ref 0, .int x1, .int x2] 0 (CH I A N V lt tw sp sr X) = some ([.int v], 0, CH I A N V lt tw sp sr X) ∧ C (d + 3) 205 [.ref 0, .int x1, .int x2] 0 (RH J w B M) = some ([.int v], 0, RH (up1 J 0 (nI 0)) w B M)) ∨
    (∃ v pcT ls2, R (d + 3) 120 (x_ent 120 [.ref 0, .int x1, .int x2] 0 (CH I A N V lt tw sp sr X)) = some (pcT, ls2, [], 0, CH I A N V lt tw sp sr X) ∧ HT l 120 pcT ∧ C (d + 3) 205 [.ref 0, .int x1, .int x2] 0 (RH J w B M) = some ([.int v], 0, RH (up1 J 0 (nI 1)) w B M)) := by
  obtain ⟨H, m, h1, h2, h3⟩ := hR
  have hV := h1.2.1
  obtain ⟨hH, hD, hH6, hm⟩ := h1.2.1.1
  have hsp : (isN H x1 = false ∨ (decide (x2.toInt < (0 : Int)) || decide ((6 : Int) < x2.toInt)) = true) ∨ ∃ i k, i < H ∧ k ≤ 6 ∧ x1 = nI i ∧ x2 = nI k := by
    by_cases hi : isN H x1 = true
    · rcases sw_in 6 (by decide) x2 with ⟨k, hk, rfl⟩ | hx
      · obtain ⟨i, hi', rfl⟩ := isN_t (by omega) hi
        exact Or.inr ⟨i, k, hi', hk, rfl, rfl⟩
      · exact Or.inl (Or.inr hx)
    · exact Or.inl (Or.inl (by simpa using hi))
  rcases hsp with hx | ⟨i, k, hi', hk, rfl, rfl⟩
  · rcases q120_out d 0 I A N V lt tw sp sr X h1.1 x1 x2 hx with e | e
    · exact Or.inr ⟨_, 11, _, e, ht_120_11 hst, c205_out d 0 J w B M hH6 hH x1 x2 hx⟩
    · exact Or.inr ⟨_, 144, _, e, ht_120_144 hst, c205_out d 0 J w B M hH6 hH x1 x2 hx⟩
  · exact Or.inl ⟨_, q120_in d 0 I A N V lt tw sp sr X h1.1 hi' hk, c205_in d 0 J w B M hH6 hm hH hD hi' hk⟩
theorem xc_worth {l : Launch} (hst : l.stackTraces = false) (d : Nat) (I A : Nat → Nat → Int32) (N : Nat → Nat → Int64) (V : Nat → Nat → Option Nat) (lt : Int64) (tw : Option Nat) (sp sr : Nat) (X : List AC) (J : Nat → Int32) (w : Int64) (B : Nat → Nat → Int32) (M : Nat → Nat → Int64) (hR : Rl I A N V sp sr J B M) (x1 : Int32) : (∃ v, C (d + 3) 121 [.ref 0, .int x1] 0 (CH I A N V lt tw sp sr X) = some ([.int v], 0, CH I A N V lt tw sp sr X) ∧ C (d + 3) 206 [.ref 0, .int x1] 0 (RH J w B M) = some ([.int v], 0, RH (up1 J 0 (nI 0)) w B M)) ∨
    (∃ v pcT ls2, R (d + 3) 121 (x_ent 121 [.ref 0, .int x1] 0 (CH I A N V lt tw sp sr X)) = some (pcT, ls2, [], 0, CH I A N V lt tw sp sr X) ∧ HT l 121 pcT ∧ C (d + 3) 206 [.ref 0, .int x1] 0 (RH J w B M) = some ([.int v], 0, RH (up1 J 0 (nI 1)) w B M)) := by
  obtain ⟨H, m, h1, h2, h3⟩ := hR
  have hV := h1.2.1
  obtain ⟨hH, hD, hH6, hm⟩ := h1.2.1.1
  cases hi : isN H x1 with
  | false => exact Or.inr ⟨_, 11, _, q121_out d 0 I A N V lt tw sp sr X h1.1 x1 hi, ht_121_11 hst, c206_out d 0 J w B M hH6 hH x1 hi⟩
  | true =>
    obtain ⟨i, hi', rfl⟩ := isN_t (by omega) hi
    exact Or.inl ⟨_, q121_in d 0 I A N V lt tw sp sr X h1.1 hi', c206_in d 0 J w B M hH6 hm hH hD hi'⟩
theorem xc_mean {l : Launch} (hst : l.stackTraces = false) (d : Nat) (I A : Nat → Nat → Int32) (N : Nat → Nat → Int64) (V : Nat → Nat → Option Nat) (lt : Int64) (tw : Option Nat) (sp sr : Nat) (X : List AC) (J : Nat → Int32) (w : Int64) (B : Nat → Nat → Int32) (M : Nat → Nat → Int64) (hR : Rl I A N V sp sr J B M) (x1 x2 : Int32) : (∃ v, C (d + 3) 144 [.ref 0, .int x1, .int x2] 0 (CH I A N V lt tw sp sr X) = some ([.int v], 0, CH I A N V lt tw sp sr X) ∧ C (d + 3) 244 [.ref 0, .int x1, .int x2] 0 (RH J w B M) = some ([.int v], 0, RH (up1 J 0 (nI 0)) w B M)) ∨
    (∃ v pcT ls2, R (d + 3) 144 (x_ent 144 [.ref 0, .int x1, .int x2] 0 (CH I A N V lt tw sp sr X)) = some (pcT, ls2, [], 0, CH I A N V lt tw sp sr X) ∧ HT l 144 pcT ∧ C (d + 3) 244 [.ref 0, .int x1, .int x2] 0 (RH J w B M) = some ([.int v], 0, RH (up1 J 0 (nI 1)) w B M)) := by
  obtain ⟨H, m, h1, h2, h3⟩ := hR
  have hV := h1.2.1
  obtain ⟨hH, hD, hH6, hm⟩ := h1.2.1.1
  have hsp : (isN H x1 = false ∨ (popF 12 (open_ (B 2) m x1) = 0) ∨ isN 2 x2 = false) ∨ ∃ i k, i < H ∧ k < 2 ∧ x1 = nI i ∧ x2 = nI k ∧ popF 12 (open_ (B 2) m (nI i)) ≠ 0 := by
    by_cases hi : isN H x1 = true
    · by_cases hp : popF 12 (open_ (B 2) m x1) = 0
      · exact Or.inl (Or.inr (Or.inl hp))
      · by_cases h2' : isN 2 x2 = true
        · obtain ⟨i, hi', rfl⟩ := isN_t (by omega) hi
          obtain ⟨k, hk, rfl⟩ := isN_t (by omega) h2'
          exact Or.inr ⟨i, k, hi', hk, rfl, rfl, hp⟩
        · exact Or.inl (Or.inr (Or.inr (by simpa using h2')))
    · exact Or.inl (Or.inl (by simpa using hi))
  rcases hsp with hx | ⟨i, k, hi', hk, rfl, rfl, hp⟩
  · rcases q144_out d 0 I A N V lt tw sp sr X h1.1 x1 x2 hx with e | ⟨v9, e⟩
    · exact Or.inr ⟨_, 20, _, e, ht_144_20 hst, c244_out d 0 J w B M hV x1 x2 hx⟩
    · exact Or.inr ⟨_, 45, _, e, ht_144_45 hst, c244_out d 0 J w B M hV x1 x2 hx⟩
  · obtain ⟨t9, ht9, hs9⟩ := ages_n hV (nI i)
    exact Or.inl ⟨_, q144_in d 0 I A N V lt tw sp sr X h1.1 hi' (by omega) rfl hp hs9 ht9, c244_in d 0 J w B M hV hi' (by omega) rfl hp hs9 ht9⟩
theorem xL160 : LF "DebtTableLaw" 51 160 0 11 := ⟨by decide, ⟨by decide, _, rfl, rfl⟩, J_160, TG_at 1328 (by decide +kernel) (by decide +kernel), TG_at 1329 (by decide +kernel) (by decide +kernel), TG_at 1330 (by decide +kernel) (by decide +kernel), by decide +kernel⟩
theorem xLM3 : LF "DebtTableLaw" 50 205 2 11 := ⟨by decide, ⟨by decide, _, rfl, rfl⟩, J_205, TG_at 1583 (by decide +kernel) (by decide +kernel), TG_at 1584 (by decide +kernel) (by decide +kernel), TG_at 1585 (by decide +kernel) (by decide +kernel), by decide +kernel⟩
theorem lsc_4 (HJ : x_Je l) (hst : l.stackTraces = false) (hXT : XT A s) (G : LG p s m c args code 7 "DebtTableLaw" D ad0 adV A) (hX : va_X b L xs s s.heap) (hbl : b < s.heap.size) (hbA : ¬ A b) (hL : L ≤ 3072) (hfr : 115 ≤ R9.frames) (hlo : 4700 ≤ R9.locals) : LSC p l e R9 s m args below meth c Q D ad0 A b L ax ar ao 332 := by
  intro i la H locs cells slots hi hl hS hLS hcb hsb kk
  obtain ⟨I, Ac, N, V, lt, tw, sp, sr, J, w, B, M, hR, adc, adr, ado, cac, car, cao, fo, o1, o2, o3, d1, d2, d3, rfl, rfl, rfl⟩ := hLS
  have hx := G.1
  have hb := G.2.1
  have hts := G.2.2.2.2.1
  have hA := G.2.2.2.2.2.2
  have hn : (CH I Ac N V lt tw sp sr []).length = 146 := CH_len I Ac N V lt tw sp sr []
  have hn7 : (CH I Ac N V lt tw sp sr [xRw fo]).length = 147 := CH_len I Ac N V lt tw sp sr [xRw fo]
  refine lv_aload_n hx hb (show decode code 332 = .ok (.aload_n 1, 1) by decide +kernel) rfl (lv_at hl 1 rfl) ?_
  refine lw_push G hX hbl hbA hl hL hS [1, 2] 333 [.ref (adc 0)] ⟨⟨by decide +kernel, by decide +kernel, ⟨1, by decide +kernel, by decide⟩, by decide +kernel, by decide +kernel⟩, ⟨⟨by decide +kernel, by decide +kernel, ⟨2, by decide +kernel, by decide⟩, by decide +kernel, by decide +kernel⟩, trivial⟩⟩ (by intro k hk; simp at hk; omega) ?_
  refine lv_aload_n hx hb (show decode code 345 = .ok (.aload_n 3, 1) by decide +kernel) rfl (lv_at hl 3 rfl) ?_
  have oM := LO_join hn o1 o3 d2
  rw [← CH_app] at oM
  obtain ⟨r, fo2, v, hcase, hC2, hval, hr01⟩ : ∃ (r : Int32) (fo2 : Nat → Int64) (v : Int32), ((∃ v, C 103 120 [.ref 0, .int (xs (i + 1)), .int (xs (i + 2))] 0 (CH I Ac N V lt tw sp sr [xRw fo]) = some ([.int v], 0, CH I Ac N V lt tw sp sr [xRw fo]) ∧ fo2 = vp_updL fo 0 v.toInt64 ∧ r = nI 0) ∨ (∃ pcT ls2, R 103 120 (x_ent 120 [.ref 0, .int (xs (i + 1)), .int (xs (i + 2))] 0 (CH I Ac N V lt tw sp sr [xRw fo])) = some (pcT, ls2, [], 0, CH I Ac N V lt tw sp sr [xRw fo]) ∧ HT l 120 pcT ∧ fo2 = fo ∧ r = nI 1)) ∧ C 103 205 [.ref 0, .int (xs (i + 1)), .int (xs (i + 2))] 0 (RH J w B M) = some ([.int v], 0, RH (up1 J 0 r) w B M) ∧ (r = nI 0 → fo2 0 = v.toInt64) ∧ (r = nI 0 ∨ r = nI 1) := by
    rcases xc_house hst 100 I Ac N V lt tw sp sr [xRw fo] J w B M hR (xs (i + 1)) (xs (i + 2)) with ⟨v, q1, q2⟩ | ⟨v, pcT, ls2, q1, q2, q3⟩
    · exact ⟨nI 0, _, v, Or.inl ⟨v, q1, rfl, rfl⟩, q2, fun _ => rfl, Or.inl rfl⟩
    · exact ⟨nI 1, fo, v, Or.inr ⟨pcT, ls2, q1, q2, rfl, rfl⟩, q3, fun h => absurd h (by decide), Or.inr rfl⟩
  have hM := W3_met HJ (d := 103) (by omega) oM.2.2.2.2 hcase D (mA adc ado) adV (mC cac cao) H.size
  have hpre : ∀ U : State, U.heap = H → s.WarmedH U.vm → XP D (mA adc ado) adV (mC cac cao) (CH I Ac N V lt tw sp sr [xRw fo]) H.size [.ref 0, .int (xs (i + 1)), .int (xs (i + 2)), .ref 146] ([.ref (adc 0), .int (xs (i + 1)), .int (xs (i + 2)), .ref (ado 0)] : List Value).toArray U := fun U hU hW => ⟨LO_pre G oM hS [.ref 0, .int (xs (i + 1)), .int (xs (i + 2)), .ref 146] U hU hW, XT_go hW hXT (fun a ha hna => by rw [hU]; exact hS.2.1 a ha hna) (LO_sub oM hS hA)⟩
  refine LO_call (mc := 1) (ms := 6) (sl2 := 0) (vs := [.int r]) (rest := []) G oM hS (vx_runSW (As := [.ref (adc 0), .int (xs (i + 1)), .int (xs (i + 2)), .ref (ado 0)]) (rest := []) (Ts := TG) ⟨hx, hb, G.2.2.1, G.2.2.2.1, hts⟩ hM (vx_cwSW 4 hts W3_good rfl rfl rfl ⟨by decide, by decide, by decide +kernel⟩ ⟨by show 109 + 1 + 1 ≤ _; omega, by show 8 + (5 + 11) + 41 * (109 + 1) ≤ _; omega⟩) ⟨XP_blind, hpre⟩ rfl rfl hl.1 rfl (lv_room (by simp)) (show decode code 346 = .ok (.invokestatic 45, 3) by decide +kernel) ⟨by omega, by omega⟩) (fun ad' ca' H1 locs1 oM2 hag hin hkeep hsz hS1 => ?_)
  have hn72 : (CH I Ac N V lt tw sp sr [xRw fo2]).length = 147 := CH_len I Ac N V lt tw sp sr [xRw fo2]
  have dM : ∀ j, j < (RH J w B M).length → ¬ va_A (cW (mA adc ado) (mC cac cao) (CH I Ac N V lt tw sp sr [xRw fo])) H.size (adr j) := fun j hj => va_no (fun i9 hi9 => by
    unfold mA
    by_cases h9 : i9 = 146
    · rw [if_pos h9]; exact fun z => d3 j hj z.symm
    · rw [if_neg h9]; exact d1 i9 j (by omega) hj) (LO_lt o2 hj).1
  have r2 : LO D A s ad0 adr car (RH J w B M) H1 := LO_kept o2 (fun j hj => hkeep _ (LO_lt o2 hj).1 (dM j hj))
  have t1 : ∀ i j, i < (CH I Ac N V lt tw sp sr []).length → j < (RH J w B M).length → ad' i ≠ adr j := fun i9 j h9 hj he => dM j hj (by rw [← he]; exact hin i9 (by omega))
  have t3 : ∀ j, j < (RH J w B M).length → adr j ≠ sA0 ad' 0 := fun j hj he => dM j hj (by rw [he]; exact hin 146 (by omega))
  have t2 : ∀ i, i < (CH I Ac N V lt tw sp sr []).length → ad' i ≠ sA0 ad' 0 := fun i9 h9 he => by
    obtain ⟨e9, h8⟩ := cW_ad (ad := ad') (ca := ca') (h := CH I Ac N V lt tw sp sr [xRw fo2]) (i := i9) (by omega)
    obtain ⟨e7, h7⟩ := cW_ad (ad := ad') (ca := ca') (h := CH I Ac N V lt tw sp sr [xRw fo2]) (i := 146) (by omega)
    have := oM2.2.2.1.1 i9 146 _ _ h8 h7 he
    omega
  have a1 : ad' 0 = adc 0 := hag 0 (Or.inl (by omega))
  have a3 : sA0 ad' 0 = ado 0 := hag 146 (Or.inl (by omega))
  rw [CH_app] at oM2
  have r1 := LO_fst oM2 o1.2.2.2.2
  have r3 := LO_snd hn oM2
  refine lv_istore (x := r) (rest := []) hx hb (show decode code 349 = .ok (.istore 5, 2) by decide +kernel) hl (by decide) rfl (fun la1 hl1 => ?_)
  have hlw : lv_has la1 7 [(0, .ref b), (1, .ref (adc 0)), (2, .ref (adr 0)), (3, .ref (ado 0)), (4, .int (nI i))] := ⟨hl1.1, hl1.2.1, fun q hq => hl1.2.2 q (List.mem_cons_of_mem _ hq)⟩
  refine lv_aload_n hx hb (show decode code 351 = .ok (.aload_n 2, 1) by decide +kernel) rfl (lv_at hl1 3 rfl) ?_
  refine lw_push G hX hbl hbA hlw hL hS1 [1, 2] 352 [.ref (adr 0)] ⟨⟨by decide +kernel, by decide +kernel, ⟨1, by decide +kernel, by decide⟩, by decide +kernel, by decide +kernel⟩, ⟨⟨by decide +kernel, by decide +kernel, ⟨2, by decide +kernel, by decide⟩, by decide +kernel, by decide +kernel⟩, trivial⟩⟩ (by intro k hk; simp at hk; omega) ?_
  have hwas2 : ∀ v ∈ ([.ref 0, .int (xs (i + 1)), .int (xs (i + 2))] : List Value), wv (RH J w B M).length v := by
    intro v hv
    rcases List.mem_cons.mp hv with rfl | hv
    · exact Or.inl (Nat.zero_lt_succ _)
    · simp only [List.mem_cons, List.not_mem_nil, or_false] at hv
      rcases hv with rfl | rfl <;> trivial
  obtain ⟨g1, g2, g3, g4, g5, g6, g7⟩ := xLM3
  obtain ⟨-, hM2⟩ := C_met HJ g1 g3 hC2 hwas2 r2.2.2.2.2 (by rw [RH_len]; decide) (by omega)
  refine LO_cv (d := 103 + 4) (t := [.int (xs (i + 1)), .int (xs (i + 2))]) (a := 0) (kc := 11) (rest := []) G r2 hS1 (show decode code 364 = .ok (.invokevirtual 50, 3) by decide +kernel) hl1.1 rfl g2 g3 g4 g5 g6 g7 hM2 (by omega) (by omega) (by rw [RH_len, RH_len]; omega) (by omega) (by simp) (fun adr2 car2 H2 locs2 p1 p2 p3 p4 p5 p6 => ?_)
  obtain ⟨u1, u3, v1, v3, v4⟩ := LXe_r r1 r3 t1 t3 (Nat.zero_lt_succ _) p2 p3 p4
  refine lv_istore (x := v) (rest := []) hx hb (show decode code 367 = .ok (.istore 6, 2) by decide +kernel) hl1 (by decide) rfl (fun la2 hl2 => ?_)
  refine lv_aload_n hx hb (show decode code 369 = .ok (.aload_n 2, 1) by decide +kernel) rfl (lv_at hl2 4 rfl) ?_
  have h160 : C 103 160 [.ref 0] 0 (RH (up1 J 0 r) w B M) = some ([.int r], 0, RH (up1 J 0 r) w B M) := by
    have := c160 103 0 (up1 J 0 r) w B M
    rw [up1_s] at this
    exact this
  obtain ⟨k1, k2, k3, k4, k5, k6, k7⟩ := xL160
  obtain ⟨-, hM3⟩ := C_met HJ k1 k3 h160 (fun v hv => by rw [List.mem_singleton.mp hv]; exact Or.inl (Nat.zero_lt_succ _)) p1.2.2.2.2 (by rw [RH_len]; decide) (by omega)
  have hst2 : (Value.ref (adr 0) :: []) = (([] : List Value).map (cv adr2)).reverse ++ .ref (adr2 0) :: [] := by rw [v4]; rfl
  rw [hst2]
  refine LO_cv (d := 103 + 4) (t := []) (a := 0) (kc := 11) (rest := []) G p1 p6 (show decode code 370 = .ok (.invokevirtual 51, 3) by decide +kernel) hl2.1 rfl k2 k3 k4 k5 k6 k7 hM3 (by omega) (by omega) (by rw [RH_len, RH_len]; omega) (by omega) (by simp) (fun adr3 car3 H3 locs3 s1 s2 s3 s4 s5 s6 => ?_)
  obtain ⟨w1, w3, z1, z3, z4⟩ := LXe_r u1 u3 v1 v3 (Nat.zero_lt_succ _) s2 s3 s4
  have hfin : W p l e R9 s m args below meth c H3 locs3 (cells + 1) (slots + 8) Q (F0 m 397 la2 []) := by
    refine lv_goto (tgt := 1335) hx hb (show decode code 397 = .ok (.goto 938, 3) by decide +kernel) (by rfl) ?_
    exact kk H3 locs3 la2 ⟨hl2.1, hl2.2.1, fun q hq => hl2.2.2 q (List.mem_cons_of_mem _ (List.mem_cons_of_mem _ hq))⟩ ⟨I, Ac, N, V, lt, tw, sp, sr, up1 J 0 r, w, B, M, Rl_0 hR r, ad', adr3, sA0 ad', ca', car3, sC0 ca', fo2, w1, s1, w3, z1, t2, z3, a1, by rw [z4, v4], a3⟩ s6
  refine W.widen (k := cells + 1) (n := slots + 8) (by rw [RH_len, RH_len]; omega) (by omega) ?_
  refine lv_iload (x := r) hx hb (show decode code 373 = .ok (.iload 5, 2) by decide +kernel) (lv_at hl2 1 rfl) ?_
  refine lv_icmp_eq (x := r) (y := r) (tgt := 380) hx hb (show decode code 375 = .ok (.if_icmp .eq 5, 3) by decide +kernel) (by rfl) (fun _ => ?_) (fun h => absurd rfl h)
  refine lv_iload (x := r) hx hb (show decode code 380 = .ok (.iload 5, 2) by decide +kernel) (lv_at hl2 1 rfl) ?_
  rcases hr01 with hr0 | hr1
  · refine lv_if_ne (tgt := 397) hx hb (show decode code 382 = .ok (.ifCond .ne 15, 3) by decide +kernel) (by rfl) (fun h => absurd hr0 h) (fun _ => ?_)
    refine lv_aload_n hx hb (show decode code 385 = .ok (.aload_n 3, 1) by decide +kernel) rfl (lv_at hl2 5 rfl) ?_
    refine lv_iconst (v := nI 0) hx hb (show decode code 386 = .ok (.iconst 0, 1) by decide +kernel) rfl ?_
    rw [← a3]
    refine va_lald (D := D) hx hb (LO_K w3 G.2.2.2.2.2.1.1 (k := 0) (t := 1) rfl) w3.2.1 0 0 (cW_at (ad := sA0 ad') (ca := sC0 ca') (h := [xRw fo2]) (k := 0) rfl) rfl (vp_in_nI (by omega) (by omega)) (show decode code 387 = .ok (.laload, 1) by decide +kernel) ?_
    rw [nI_clamp (by omega), hval hr0]
    refine lv_iload (x := v) hx hb (show decode code 388 = .ok (.iload 6, 2) by decide +kernel) (lv_at hl2 0 rfl) ?_
    refine lv_i2l hx hb (show decode code 390 = .ok (.i2l, 1) by decide +kernel) rfl ?_
    refine W.lcmp hx hb (show decode code 391 = .ok (.lcmp, 1) by decide +kernel) ?_
    exact lv_if_eq (tgt := 397) hx hb (show decode code 392 = .ok (.ifCond .eq 5, 3) by decide +kernel) (by rfl) (fun _ => hfin) (fun h => absurd (by unfold lg_cmp; simp) h)
  · refine lv_if_ne (tgt := 397) hx hb (show decode code 382 = .ok (.ifCond .ne 15, 3) by decide +kernel) (by rfl) (fun _ => hfin) (fun h => absurd h (by rw [hr1]; decide))
theorem xLM4 : LF "DebtTableLaw" 57 206 1 11 := ⟨by decide, ⟨by decide, _, rfl, rfl⟩, J_206, TG_at 1610 (by decide +kernel) (by decide +kernel), TG_at 1611 (by decide +kernel) (by decide +kernel), TG_at 1612 (by decide +kernel) (by decide +kernel), by decide +kernel⟩
theorem lsc_5 (HJ : x_Je l) (hst : l.stackTraces = false) (hXT : XT A s) (G : LG p s m c args code 7 "DebtTableLaw" D ad0 adV A) (hX : va_X b L xs s s.heap) (hbl : b < s.heap.size) (hbA : ¬ A b) (hL : L ≤ 3072) (hfr : 115 ≤ R9.frames) (hlo : 4700 ≤ R9.locals) : LSC p l e R9 s m args below meth c Q D ad0 A b L ax ar ao 400 := by
  intro i la H locs cells slots hi hl hS hLS hcb hsb kk
  obtain ⟨I, Ac, N, V, lt, tw, sp, sr, J, w, B, M, hR, adc, adr, ado, cac, car, cao, fo, o1, o2, o3, d1, d2, d3, rfl, rfl, rfl⟩ := hLS
  have hx := G.1
  have hb := G.2.1
  have hts := G.2.2.2.2.1
  have hA := G.2.2.2.2.2.2
  have hn : (CH I Ac N V lt tw sp sr []).length = 146 := CH_len I Ac N V lt tw sp sr []
  have hn7 : (CH I Ac N V lt tw sp sr [xRw fo]).length = 147 := CH_len I Ac N V lt tw sp sr [xRw fo]
  refine lv_aload_n hx hb (show decode code 400 = .ok (.aload_n 1, 1) by decide +kernel) rfl (lv_at hl 1 rfl) ?_
  refine lw_push G hX hbl hbA hl hL hS [1] 401 [.ref (adc 0)] ⟨⟨by decide +kernel, by decide +kernel, ⟨1, by decide +kernel, by decide⟩, by decide +kernel, by decide +kernel⟩, trivial⟩ (by intro k hk; simp at hk; omega) ?_
  refine lv_aload_n hx hb (show decode code 407 = .ok (.aload_n 3, 1) by decide +kernel) rfl (lv_at hl 3 rfl) ?_
  have oM := LO_join hn o1 o3 d2
  rw [← CH_app] at oM
  obtain ⟨r, fo2, v, hcase, hC2, hval, hr01⟩ : ∃ (r : Int32) (fo2 : Nat → Int64) (v : Int32), ((∃ v, C 103 121 [.ref 0, .int (xs (i + 1))] 0 (CH I Ac N V lt tw sp sr [xRw fo]) = some ([.int v], 0, CH I Ac N V lt tw sp sr [xRw fo]) ∧ fo2 = vp_updL fo 0 v.toInt64 ∧ r = nI 0) ∨ (∃ pcT ls2, R 103 121 (x_ent 121 [.ref 0, .int (xs (i + 1))] 0 (CH I Ac N V lt tw sp sr [xRw fo])) = some (pcT, ls2, [], 0, CH I Ac N V lt tw sp sr [xRw fo]) ∧ HT l 121 pcT ∧ fo2 = fo ∧ r = nI 1)) ∧ C 103 206 [.ref 0, .int (xs (i + 1))] 0 (RH J w B M) = some ([.int v], 0, RH (up1 J 0 r) w B M) ∧ (r = nI 0 → fo2 0 = v.toInt64) ∧ (r = nI 0 ∨ r = nI 1) := by
    rcases xc_worth hst 100 I Ac N V lt tw sp sr [xRw fo] J w B M hR (xs (i + 1)) with ⟨v, q1, q2⟩ | ⟨v, pcT, ls2, q1, q2, q3⟩
    · exact ⟨nI 0, _, v, Or.inl ⟨v, q1, rfl, rfl⟩, q2, fun _ => rfl, Or.inl rfl⟩
    · exact ⟨nI 1, fo, v, Or.inr ⟨pcT, ls2, q1, q2, rfl, rfl⟩, q3, fun h => absurd h (by decide), Or.inr rfl⟩
  have hM := W4_met HJ (d := 103) (by omega) oM.2.2.2.2 hcase D (mA adc ado) adV (mC cac cao) H.size
  have hpre : ∀ U : State, U.heap = H → s.WarmedH U.vm → XP D (mA adc ado) adV (mC cac cao) (CH I Ac N V lt tw sp sr [xRw fo]) H.size [.ref 0, .int (xs (i + 1)), .ref 146] ([.ref (adc 0), .int (xs (i + 1)), .ref (ado 0)] : List Value).toArray U := fun U hU hW => ⟨LO_pre G oM hS [.ref 0, .int (xs (i + 1)), .ref 146] U hU hW, XT_go hW hXT (fun a ha hna => by rw [hU]; exact hS.2.1 a ha hna) (LO_sub oM hS hA)⟩
  refine LO_call (mc := 1) (ms := 6) (sl2 := 0) (vs := [.int r]) (rest := []) G oM hS (vx_runSW (As := [.ref (adc 0), .int (xs (i + 1)), .ref (ado 0)]) (rest := []) (Ts := TG) ⟨hx, hb, G.2.2.1, G.2.2.2.1, hts⟩ hM (vx_cwSW 3 hts W4_good rfl rfl rfl ⟨by decide, by decide, by decide +kernel⟩ ⟨by show 109 + 1 + 1 ≤ _; omega, by show 8 + (4 + 11) + 41 * (109 + 1) ≤ _; omega⟩) ⟨XP_blind, hpre⟩ rfl rfl hl.1 rfl (lv_room (by simp)) (show decode code 408 = .ok (.invokestatic 54, 3) by decide +kernel) ⟨by omega, by omega⟩) (fun ad' ca' H1 locs1 oM2 hag hin hkeep hsz hS1 => ?_)
  have hn72 : (CH I Ac N V lt tw sp sr [xRw fo2]).length = 147 := CH_len I Ac N V lt tw sp sr [xRw fo2]
  have dM : ∀ j, j < (RH J w B M).length → ¬ va_A (cW (mA adc ado) (mC cac cao) (CH I Ac N V lt tw sp sr [xRw fo])) H.size (adr j) := fun j hj => va_no (fun i9 hi9 => by
    unfold mA
    by_cases h9 : i9 = 146
    · rw [if_pos h9]; exact fun z => d3 j hj z.symm
    · rw [if_neg h9]; exact d1 i9 j (by omega) hj) (LO_lt o2 hj).1
  have r2 : LO D A s ad0 adr car (RH J w B M) H1 := LO_kept o2 (fun j hj => hkeep _ (LO_lt o2 hj).1 (dM j hj))
  have t1 : ∀ i j, i < (CH I Ac N V lt tw sp sr []).length → j < (RH J w B M).length → ad' i ≠ adr j := fun i9 j h9 hj he => dM j hj (by rw [← he]; exact hin i9 (by omega))
  have t3 : ∀ j, j < (RH J w B M).length → adr j ≠ sA0 ad' 0 := fun j hj he => dM j hj (by rw [he]; exact hin 146 (by omega))
  have t2 : ∀ i, i < (CH I Ac N V lt tw sp sr []).length → ad' i ≠ sA0 ad' 0 := fun i9 h9 he => by
    obtain ⟨e9, h8⟩ := cW_ad (ad := ad') (ca := ca') (h := CH I Ac N V lt tw sp sr [xRw fo2]) (i := i9) (by omega)
    obtain ⟨e7, h7⟩ := cW_ad (ad := ad') (ca := ca') (h := CH I Ac N V lt tw sp sr [xRw fo2]) (i := 146) (by omega)
    have := oM2.2.2.1.1 i9 146 _ _ h8 h7 he
    omega
  have a1 : ad' 0 = adc 0 := hag 0 (Or.inl (by omega))
  have a3 : sA0 ad' 0 = ado 0 := hag 146 (Or.inl (by omega))
  rw [CH_app] at oM2
  have r1 := LO_fst oM2 o1.2.2.2.2
  have r3 := LO_snd hn oM2
  refine lv_istore (x := r) (rest := []) hx hb (show decode code 411 = .ok (.istore 5, 2) by decide +kernel) hl (by decide) rfl (fun la1 hl1 => ?_)
  have hlw : lv_has la1 7 [(0, .ref b), (1, .ref (adc 0)), (2, .ref (adr 0)), (3, .ref (ado 0)), (4, .int (nI i))] := ⟨hl1.1, hl1.2.1, fun q hq => hl1.2.2 q (List.mem_cons_of_mem _ hq)⟩
  refine lv_aload_n hx hb (show decode code 413 = .ok (.aload_n 2, 1) by decide +kernel) rfl (lv_at hl1 3 rfl) ?_
  refine lw_push G hX hbl hbA hlw hL hS1 [1] 414 [.ref (adr 0)] ⟨⟨by decide +kernel, by decide +kernel, ⟨1, by decide +kernel, by decide⟩, by decide +kernel, by decide +kernel⟩, trivial⟩ (by intro k hk; simp at hk; omega) ?_
  have hwas2 : ∀ v ∈ ([.ref 0, .int (xs (i + 1))] : List Value), wv (RH J w B M).length v := by
    intro v hv
    rcases List.mem_cons.mp hv with rfl | hv
    · exact Or.inl (Nat.zero_lt_succ _)
    · simp only [List.mem_cons, List.not_mem_nil, or_false] at hv
      rcases hv with rfl <;> trivial
  obtain ⟨g1, g2, g3, g4, g5, g6, g7⟩ := xLM4
  obtain ⟨-, hM2⟩ := C_met HJ g1 g3 hC2 hwas2 r2.2.2.2.2 (by rw [RH_len]; decide) (by omega)
  refine LO_cv (d := 103 + 4) (t := [.int (xs (i + 1))]) (a := 0) (kc := 11) (rest := []) G r2 hS1 (show decode code 420 = .ok (.invokevirtual 57, 3) by decide +kernel) hl1.1 rfl g2 g3 g4 g5 g6 g7 hM2 (by omega) (by omega) (by rw [RH_len, RH_len]; omega) (by omega) (by simp) (fun adr2 car2 H2 locs2 p1 p2 p3 p4 p5 p6 => ?_)
  obtain ⟨u1, u3, v1, v3, v4⟩ := LXe_r r1 r3 t1 t3 (Nat.zero_lt_succ _) p2 p3 p4
  refine lv_istore (x := v) (rest := []) hx hb (show decode code 423 = .ok (.istore 6, 2) by decide +kernel) hl1 (by decide) rfl (fun la2 hl2 => ?_)
  refine lv_aload_n hx hb (show decode code 425 = .ok (.aload_n 2, 1) by decide +kernel) rfl (lv_at hl2 4 rfl) ?_
  have h160 : C 103 160 [.ref 0] 0 (RH (up1 J 0 r) w B M) = some ([.int r], 0, RH (up1 J 0 r) w B M) := by
    have := c160 103 0 (up1 J 0 r) w B M
    rw [up1_s] at this
    exact this
  obtain ⟨k1, k2, k3, k4, k5, k6, k7⟩ := xL160
  obtain ⟨-, hM3⟩ := C_met HJ k1 k3 h160 (fun v hv => by rw [List.mem_singleton.mp hv]; exact Or.inl (Nat.zero_lt_succ _)) p1.2.2.2.2 (by rw [RH_len]; decide) (by omega)
  have hst2 : (Value.ref (adr 0) :: []) = (([] : List Value).map (cv adr2)).reverse ++ .ref (adr2 0) :: [] := by rw [v4]; rfl
  rw [hst2]
  refine LO_cv (d := 103 + 4) (t := []) (a := 0) (kc := 11) (rest := []) G p1 p6 (show decode code 426 = .ok (.invokevirtual 51, 3) by decide +kernel) hl2.1 rfl k2 k3 k4 k5 k6 k7 hM3 (by omega) (by omega) (by rw [RH_len, RH_len]; omega) (by omega) (by simp) (fun adr3 car3 H3 locs3 s1 s2 s3 s4 s5 s6 => ?_)
  obtain ⟨w1, w3, z1, z3, z4⟩ := LXe_r u1 u3 v1 v3 (Nat.zero_lt_succ _) s2 s3 s4
  have hfin : W p l e R9 s m args below meth c H3 locs3 (cells + 1) (slots + 8) Q (F0 m 453 la2 []) := by
    refine lv_goto (tgt := 1335) hx hb (show decode code 453 = .ok (.goto 882, 3) by decide +kernel) (by rfl) ?_
    exact kk H3 locs3 la2 ⟨hl2.1, hl2.2.1, fun q hq => hl2.2.2 q (List.mem_cons_of_mem _ (List.mem_cons_of_mem _ hq))⟩ ⟨I, Ac, N, V, lt, tw, sp, sr, up1 J 0 r, w, B, M, Rl_0 hR r, ad', adr3, sA0 ad', ca', car3, sC0 ca', fo2, w1, s1, w3, z1, t2, z3, a1, by rw [z4, v4], a3⟩ s6
  refine W.widen (k := cells + 1) (n := slots + 8) (by rw [RH_len, RH_len]; omega) (by omega) ?_
  refine lv_iload (x := r) hx hb (show decode code 429 = .ok (.iload 5, 2) by decide +kernel) (lv_at hl2 1 rfl) ?_
  refine lv_icmp_eq (x := r) (y := r) (tgt := 436) hx hb (show decode code 431 = .ok (.if_icmp .eq 5, 3) by decide +kernel) (by rfl) (fun _ => ?_) (fun h => absurd rfl h)
  refine lv_iload (x := r) hx hb (show decode code 436 = .ok (.iload 5, 2) by decide +kernel) (lv_at hl2 1 rfl) ?_
  rcases hr01 with hr0 | hr1
  · refine lv_if_ne (tgt := 453) hx hb (show decode code 438 = .ok (.ifCond .ne 15, 3) by decide +kernel) (by rfl) (fun h => absurd hr0 h) (fun _ => ?_)
    refine lv_aload_n hx hb (show decode code 441 = .ok (.aload_n 3, 1) by decide +kernel) rfl (lv_at hl2 5 rfl) ?_
    refine lv_iconst (v := nI 0) hx hb (show decode code 442 = .ok (.iconst 0, 1) by decide +kernel) rfl ?_
    rw [← a3]
    refine va_lald (D := D) hx hb (LO_K w3 G.2.2.2.2.2.1.1 (k := 0) (t := 1) rfl) w3.2.1 0 0 (cW_at (ad := sA0 ad') (ca := sC0 ca') (h := [xRw fo2]) (k := 0) rfl) rfl (vp_in_nI (by omega) (by omega)) (show decode code 443 = .ok (.laload, 1) by decide +kernel) ?_
    rw [nI_clamp (by omega), hval hr0]
    refine lv_iload (x := v) hx hb (show decode code 444 = .ok (.iload 6, 2) by decide +kernel) (lv_at hl2 0 rfl) ?_
    refine lv_i2l hx hb (show decode code 446 = .ok (.i2l, 1) by decide +kernel) rfl ?_
    refine W.lcmp hx hb (show decode code 447 = .ok (.lcmp, 1) by decide +kernel) ?_
    exact lv_if_eq (tgt := 453) hx hb (show decode code 448 = .ok (.ifCond .eq 5, 3) by decide +kernel) (by rfl) (fun _ => hfin) (fun h => absurd (by unfold lg_cmp; simp) h)
  · refine lv_if_ne (tgt := 453) hx hb (show decode code 438 = .ok (.ifCond .ne 15, 3) by decide +kernel) (by rfl) (fun _ => hfin) (fun h => absurd h (by rw [hr1]; decide))
theorem xLM5 : LF "DebtTableLaw" 141 244 2 11 := ⟨by decide, ⟨by decide, _, rfl, rfl⟩, J_244, TG_at 1789 (by decide +kernel) (by decide +kernel), TG_at 1790 (by decide +kernel) (by decide +kernel), TG_at 1791 (by decide +kernel) (by decide +kernel), by decide +kernel⟩
theorem lsc_26 (HJ : x_Je l) (hst : l.stackTraces = false) (hXT : XT A s) (G : LG p s m c args code 7 "DebtTableLaw" D ad0 adV A) (hX : va_X b L xs s s.heap) (hbl : b < s.heap.size) (hbA : ¬ A b) (hL : L ≤ 3072) (hfr : 115 ≤ R9.frames) (hlo : 4700 ≤ R9.locals) : LSC p l e R9 s m args below meth c Q D ad0 A b L ax ar ao 968 := by
  intro i la H locs cells slots hi hl hS hLS hcb hsb kk
  obtain ⟨I, Ac, N, V, lt, tw, sp, sr, J, w, B, M, hR, adc, adr, ado, cac, car, cao, fo, o1, o2, o3, d1, d2, d3, rfl, rfl, rfl⟩ := hLS
  have hx := G.1
  have hb := G.2.1
  have hts := G.2.2.2.2.1
  have hA := G.2.2.2.2.2.2
  have hn : (CH I Ac N V lt tw sp sr []).length = 146 := CH_len I Ac N V lt tw sp sr []
  have hn7 : (CH I Ac N V lt tw sp sr [xRw fo]).length = 147 := CH_len I Ac N V lt tw sp sr [xRw fo]
  refine lv_aload_n hx hb (show decode code 968 = .ok (.aload_n 1, 1) by decide +kernel) rfl (lv_at hl 1 rfl) ?_
  refine lw_push G hX hbl hbA hl hL hS [1, 2] 969 [.ref (adc 0)] ⟨⟨by decide +kernel, by decide +kernel, ⟨1, by decide +kernel, by decide⟩, by decide +kernel, by decide +kernel⟩, ⟨⟨by decide +kernel, by decide +kernel, ⟨2, by decide +kernel, by decide⟩, by decide +kernel, by decide +kernel⟩, trivial⟩⟩ (by intro k hk; simp at hk; omega) ?_
  refine lv_aload_n hx hb (show decode code 981 = .ok (.aload_n 3, 1) by decide +kernel) rfl (lv_at hl 3 rfl) ?_
  have oM := LO_join hn o1 o3 d2
  rw [← CH_app] at oM
  obtain ⟨r, fo2, v, hcase, hC2, hval, hr01⟩ : ∃ (r : Int32) (fo2 : Nat → Int64) (v : Int32), ((∃ v, C 103 144 [.ref 0, .int (xs (i + 1)), .int (xs (i + 2))] 0 (CH I Ac N V lt tw sp sr [xRw fo]) = some ([.int v], 0, CH I Ac N V lt tw sp sr [xRw fo]) ∧ fo2 = vp_updL fo 0 v.toInt64 ∧ r = nI 0) ∨ (∃ pcT ls2, R 103 144 (x_ent 144 [.ref 0, .int (xs (i + 1)), .int (xs (i + 2))] 0 (CH I Ac N V lt tw sp sr [xRw fo])) = some (pcT, ls2, [], 0, CH I Ac N V lt tw sp sr [xRw fo]) ∧ HT l 144 pcT ∧ fo2 = fo ∧ r = nI 1)) ∧ C 103 244 [.ref 0, .int (xs (i + 1)), .int (xs (i + 2))] 0 (RH J w B M) = some ([.int v], 0, RH (up1 J 0 r) w B M) ∧ (r = nI 0 → fo2 0 = v.toInt64) ∧ (r = nI 0 ∨ r = nI 1) := by
    rcases xc_mean hst 100 I Ac N V lt tw sp sr [xRw fo] J w B M hR (xs (i + 1)) (xs (i + 2)) with ⟨v, q1, q2⟩ | ⟨v, pcT, ls2, q1, q2, q3⟩
    · exact ⟨nI 0, _, v, Or.inl ⟨v, q1, rfl, rfl⟩, q2, fun _ => rfl, Or.inl rfl⟩
    · exact ⟨nI 1, fo, v, Or.inr ⟨pcT, ls2, q1, q2, rfl, rfl⟩, q3, fun h => absurd h (by decide), Or.inr rfl⟩
  have hM := W5_met HJ (d := 103) (by omega) oM.2.2.2.2 hcase D (mA adc ado) adV (mC cac cao) H.size
  have hpre : ∀ U : State, U.heap = H → s.WarmedH U.vm → XP D (mA adc ado) adV (mC cac cao) (CH I Ac N V lt tw sp sr [xRw fo]) H.size [.ref 0, .int (xs (i + 1)), .int (xs (i + 2)), .ref 146] ([.ref (adc 0), .int (xs (i + 1)), .int (xs (i + 2)), .ref (ado 0)] : List Value).toArray U := fun U hU hW => ⟨LO_pre G oM hS [.ref 0, .int (xs (i + 1)), .int (xs (i + 2)), .ref 146] U hU hW, XT_go hW hXT (fun a ha hna => by rw [hU]; exact hS.2.1 a ha hna) (LO_sub oM hS hA)⟩
  refine LO_call (mc := 1) (ms := 6) (sl2 := 0) (vs := [.int r]) (rest := []) G oM hS (vx_runSW (As := [.ref (adc 0), .int (xs (i + 1)), .int (xs (i + 2)), .ref (ado 0)]) (rest := []) (Ts := TG) ⟨hx, hb, G.2.2.1, G.2.2.2.1, hts⟩ hM (vx_cwSW 4 hts W5_good rfl rfl rfl ⟨by decide, by decide, by decide +kernel⟩ ⟨by show 109 + 1 + 1 ≤ _; omega, by show 8 + (5 + 11) + 41 * (109 + 1) ≤ _; omega⟩) ⟨XP_blind, hpre⟩ rfl rfl hl.1 rfl (lv_room (by simp)) (show decode code 982 = .ok (.invokestatic 139, 3) by decide +kernel) ⟨by omega, by omega⟩) (fun ad' ca' H1 locs1 oM2 hag hin hkeep hsz hS1 => ?_)
  have hn72 : (CH I Ac N V lt tw sp sr [xRw fo2]).length = 147 := CH_len I Ac N V lt tw sp sr [xRw fo2]
  have dM : ∀ j, j < (RH J w B M).length → ¬ va_A (cW (mA adc ado) (mC cac cao) (CH I Ac N V lt tw sp sr [xRw fo])) H.size (adr j) := fun j hj => va_no (fun i9 hi9 => by
    unfold mA
    by_cases h9 : i9 = 146
    · rw [if_pos h9]; exact fun z => d3 j hj z.symm
    · rw [if_neg h9]; exact d1 i9 j (by omega) hj) (LO_lt o2 hj).1
  have r2 : LO D A s ad0 adr car (RH J w B M) H1 := LO_kept o2 (fun j hj => hkeep _ (LO_lt o2 hj).1 (dM j hj))
  have t1 : ∀ i j, i < (CH I Ac N V lt tw sp sr []).length → j < (RH J w B M).length → ad' i ≠ adr j := fun i9 j h9 hj he => dM j hj (by rw [← he]; exact hin i9 (by omega))
  have t3 : ∀ j, j < (RH J w B M).length → adr j ≠ sA0 ad' 0 := fun j hj he => dM j hj (by rw [he]; exact hin 146 (by omega))
  have t2 : ∀ i, i < (CH I Ac N V lt tw sp sr []).length → ad' i ≠ sA0 ad' 0 := fun i9 h9 he => by
    obtain ⟨e9, h8⟩ := cW_ad (ad := ad') (ca := ca') (h := CH I Ac N V lt tw sp sr [xRw fo2]) (i := i9) (by omega)
    obtain ⟨e7, h7⟩ := cW_ad (ad := ad') (ca := ca') (h := CH I Ac N V lt tw sp sr [xRw fo2]) (i := 146) (by omega)
    have := oM2.2.2.1.1 i9 146 _ _ h8 h7 he
    omega
  have a1 : ad' 0 = adc 0 := hag 0 (Or.inl (by omega))
  have a3 : sA0 ad' 0 = ado 0 := hag 146 (Or.inl (by omega))
  rw [CH_app] at oM2
  have r1 := LO_fst oM2 o1.2.2.2.2
  have r3 := LO_snd hn oM2
  refine lv_istore (x := r) (rest := []) hx hb (show decode code 985 = .ok (.istore 5, 2) by decide +kernel) hl (by decide) rfl (fun la1 hl1 => ?_)
  have hlw : lv_has la1 7 [(0, .ref b), (1, .ref (adc 0)), (2, .ref (adr 0)), (3, .ref (ado 0)), (4, .int (nI i))] := ⟨hl1.1, hl1.2.1, fun q hq => hl1.2.2 q (List.mem_cons_of_mem _ hq)⟩
  refine lv_aload_n hx hb (show decode code 987 = .ok (.aload_n 2, 1) by decide +kernel) rfl (lv_at hl1 3 rfl) ?_
  refine lw_push G hX hbl hbA hlw hL hS1 [1, 2] 988 [.ref (adr 0)] ⟨⟨by decide +kernel, by decide +kernel, ⟨1, by decide +kernel, by decide⟩, by decide +kernel, by decide +kernel⟩, ⟨⟨by decide +kernel, by decide +kernel, ⟨2, by decide +kernel, by decide⟩, by decide +kernel, by decide +kernel⟩, trivial⟩⟩ (by intro k hk; simp at hk; omega) ?_
  have hwas2 : ∀ v ∈ ([.ref 0, .int (xs (i + 1)), .int (xs (i + 2))] : List Value), wv (RH J w B M).length v := by
    intro v hv
    rcases List.mem_cons.mp hv with rfl | hv
    · exact Or.inl (Nat.zero_lt_succ _)
    · simp only [List.mem_cons, List.not_mem_nil, or_false] at hv
      rcases hv with rfl | rfl <;> trivial
  obtain ⟨g1, g2, g3, g4, g5, g6, g7⟩ := xLM5
  obtain ⟨-, hM2⟩ := C_met HJ g1 g3 hC2 hwas2 r2.2.2.2.2 (by rw [RH_len]; decide) (by omega)
  refine LO_cv (d := 103 + 4) (t := [.int (xs (i + 1)), .int (xs (i + 2))]) (a := 0) (kc := 11) (rest := []) G r2 hS1 (show decode code 1000 = .ok (.invokevirtual 141, 3) by decide +kernel) hl1.1 rfl g2 g3 g4 g5 g6 g7 hM2 (by omega) (by omega) (by rw [RH_len, RH_len]; omega) (by omega) (by simp) (fun adr2 car2 H2 locs2 p1 p2 p3 p4 p5 p6 => ?_)
  obtain ⟨u1, u3, v1, v3, v4⟩ := LXe_r r1 r3 t1 t3 (Nat.zero_lt_succ _) p2 p3 p4
  refine lv_istore (x := v) (rest := []) hx hb (show decode code 1003 = .ok (.istore 6, 2) by decide +kernel) hl1 (by decide) rfl (fun la2 hl2 => ?_)
  refine lv_aload_n hx hb (show decode code 1005 = .ok (.aload_n 2, 1) by decide +kernel) rfl (lv_at hl2 4 rfl) ?_
  have h160 : C 103 160 [.ref 0] 0 (RH (up1 J 0 r) w B M) = some ([.int r], 0, RH (up1 J 0 r) w B M) := by
    have := c160 103 0 (up1 J 0 r) w B M
    rw [up1_s] at this
    exact this
  obtain ⟨k1, k2, k3, k4, k5, k6, k7⟩ := xL160
  obtain ⟨-, hM3⟩ := C_met HJ k1 k3 h160 (fun v hv => by rw [List.mem_singleton.mp hv]; exact Or.inl (Nat.zero_lt_succ _)) p1.2.2.2.2 (by rw [RH_len]; decide) (by omega)
  have hst2 : (Value.ref (adr 0) :: []) = (([] : List Value).map (cv adr2)).reverse ++ .ref (adr2 0) :: [] := by rw [v4]; rfl
  rw [hst2]
  refine LO_cv (d := 103 + 4) (t := []) (a := 0) (kc := 11) (rest := []) G p1 p6 (show decode code 1006 = .ok (.invokevirtual 51, 3) by decide +kernel) hl2.1 rfl k2 k3 k4 k5 k6 k7 hM3 (by omega) (by omega) (by rw [RH_len, RH_len]; omega) (by omega) (by simp) (fun adr3 car3 H3 locs3 s1 s2 s3 s4 s5 s6 => ?_)
  obtain ⟨w1, w3, z1, z3, z4⟩ := LXe_r u1 u3 v1 v3 (Nat.zero_lt_succ _) s2 s3 s4
  have hfin : W p l e R9 s m args below meth c H3 locs3 (cells + 1) (slots + 8) Q (F0 m 1033 la2 []) := by
    refine lv_goto (tgt := 1335) hx hb (show decode code 1033 = .ok (.goto 302, 3) by decide +kernel) (by rfl) ?_
    exact kk H3 locs3 la2 ⟨hl2.1, hl2.2.1, fun q hq => hl2.2.2 q (List.mem_cons_of_mem _ (List.mem_cons_of_mem _ hq))⟩ ⟨I, Ac, N, V, lt, tw, sp, sr, up1 J 0 r, w, B, M, Rl_0 hR r, ad', adr3, sA0 ad', ca', car3, sC0 ca', fo2, w1, s1, w3, z1, t2, z3, a1, by rw [z4, v4], a3⟩ s6
  refine W.widen (k := cells + 1) (n := slots + 8) (by rw [RH_len, RH_len]; omega) (by omega) ?_
  refine lv_iload (x := r) hx hb (show decode code 1009 = .ok (.iload 5, 2) by decide +kernel) (lv_at hl2 1 rfl) ?_
  refine lv_icmp_eq (x := r) (y := r) (tgt := 1016) hx hb (show decode code 1011 = .ok (.if_icmp .eq 5, 3) by decide +kernel) (by rfl) (fun _ => ?_) (fun h => absurd rfl h)
  refine lv_iload (x := r) hx hb (show decode code 1016 = .ok (.iload 5, 2) by decide +kernel) (lv_at hl2 1 rfl) ?_
  rcases hr01 with hr0 | hr1
  · refine lv_if_ne (tgt := 1033) hx hb (show decode code 1018 = .ok (.ifCond .ne 15, 3) by decide +kernel) (by rfl) (fun h => absurd hr0 h) (fun _ => ?_)
    refine lv_aload_n hx hb (show decode code 1021 = .ok (.aload_n 3, 1) by decide +kernel) rfl (lv_at hl2 5 rfl) ?_
    refine lv_iconst (v := nI 0) hx hb (show decode code 1022 = .ok (.iconst 0, 1) by decide +kernel) rfl ?_
    rw [← a3]
    refine va_lald (D := D) hx hb (LO_K w3 G.2.2.2.2.2.1.1 (k := 0) (t := 1) rfl) w3.2.1 0 0 (cW_at (ad := sA0 ad') (ca := sC0 ca') (h := [xRw fo2]) (k := 0) rfl) rfl (vp_in_nI (by omega) (by omega)) (show decode code 1023 = .ok (.laload, 1) by decide +kernel) ?_
    rw [nI_clamp (by omega), hval hr0]
    refine lv_iload (x := v) hx hb (show decode code 1024 = .ok (.iload 6, 2) by decide +kernel) (lv_at hl2 0 rfl) ?_
    refine lv_i2l hx hb (show decode code 1026 = .ok (.i2l, 1) by decide +kernel) rfl ?_
    refine W.lcmp hx hb (show decode code 1027 = .ok (.lcmp, 1) by decide +kernel) ?_
    exact lv_if_eq (tgt := 1033) hx hb (show decode code 1028 = .ok (.ifCond .eq 5, 3) by decide +kernel) (by rfl) (fun _ => hfin) (fun h => absurd (by unfold lg_cmp; simp) h)
  · refine lv_if_ne (tgt := 1033) hx hb (show decode code 1018 = .ok (.ifCond .ne 15, 3) by decide +kernel) (by rfl) (fun _ => hfin) (fun h => absurd h (by rw [hr1]; decide))
end LWZ
