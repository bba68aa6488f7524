/-! THE TWO STATES SIDE BY SIDE -/
def Yr (n : Nat → Int32) : Prop := ∃ y, y ≤ 400 ∧ n 70 = nI y
/-- letters, packed by 256 and by 27 -/
def p256 (s : List Nat) : Nat := s.foldl (fun a c => a * 256 + c) 0
def p27 (s : List Nat) : Nat := s.foldl (fun a c => a * 27 + (c - 96)) 0
def Lts (s : List Nat) : Prop := 1 ≤ s.length ∧ s.length ≤ 7 ∧ ∀ c ∈ s, 97 ≤ c ∧ c ≤ 122
def Nw (l w : Int64) : Prop := ∃ s, Lts s ∧ l = Int64.ofNat (p256 s) ∧ w = Int64.ofNat (p27 s)
def Nm (f g : Nat → Int64) (H : Nat) : Prop := ∀ h, h < H → Nw (f h) (g h)
/-- a byte as the class keeps it -/
def by8 (b : Nat) : Int32 := if b < 128 then nI b else nI b - nI 256
/-- the steps from i to k are what node k says -/
def Cm (W : Nat → Option Nat) (S T n : Nat → Int32) : Nat → Nat → Nat → Prop
  | 0, _, _ => False
  | f + 1, i, k =>
    (∃ a, 12 ≤ a ∧ a ≤ 20 ∧ i = k ∧ n (129 + 4 * k) = nI (50 + a) ∧ W k = some (1000000 + a) ∧ (a = 16 → n (130 + 4 * k) = T k) ∧ (17 ≤ a → n (131 + 4 * k) = T k ∧ n (132 + 4 * k) = S k)) ∨
    (∃ x, k = x + 1 ∧ n (129 + 4 * k) = nI 1 ∧ n (130 + 4 * k) = nI x ∧ W k = some 1000011 ∧ Cm W S T n f i x) ∨
    (∃ x y, k = y + 1 ∧ n (129 + 4 * k) = nI 2 ∧ n (130 + 4 * k) = nI x ∧ n (131 + 4 * k) = nI y ∧ W k = some 1000010 ∧ Cm W S T n f i x ∧ Cm W S T n f (x + 1) y) ∨
    (∃ x y, k = y + 1 ∧ n (129 + 4 * k) = nI 3 ∧ n (130 + 4 * k) = nI x ∧ n (131 + 4 * k) = nI y ∧ W k = some 1000009 ∧ Cm W S T n f i x ∧ Cm W S T n f (x + 1) y)
def Sn (I A : Nat → Nat → Int32) (V : Nat → Nat → Option Nat) (s : Nat) (n : Nat → Int32) : Prop :=
  (n 127 = nI 0 ∧ I s 3 = nI 0) ∨ (n 127 = nI 1 ∧ ∃ L f, L < 40 ∧ I s 3 = nI (L + 1) ∧ n 128 = nI L ∧ Cm (V (s + 1)) (A (s + 2)) (A (s + 3)) n f 0 L)
theorem Cm_c {W : Nat → Option Nat} {S T n n' : Nat → Int32} (h : ∀ k, 127 ≤ k → n' k = n k) : ∀ (f i k : Nat), Cm W S T n f i k → Cm W S T n' f i k := by
  intro f
  induction f with
  | zero => intro i k h; exact h
  | succ f ih =>
    intro i k hc
    rcases hc with ⟨a, h1, h2, h3, h4, h5, h6, h7⟩ | ⟨x, h1, h2, h3, h4, h5⟩ | ⟨x, y, h1, h2, h3, h4, h5, h6, h7⟩ | ⟨x, y, h1, h2, h3, h4, h5, h6, h7⟩
    · refine Or.inl ⟨a, h1, h2, h3, ?_, h5, ?_, ?_⟩
      · rw [h _ (by omega)]; exact h4
      · intro e; rw [h _ (by omega)]; exact h6 e
      · intro e; rw [h _ (by omega), h _ (by omega)]; exact h7 e
    · refine Or.inr (Or.inl ⟨x, h1, ?_, ?_, h4, ih _ _ h5⟩)
      · rw [h _ (by omega)]; exact h2
      · rw [h _ (by omega)]; exact h3
    · refine Or.inr (Or.inr (Or.inl ⟨x, y, h1, ?_, ?_, ?_, h5, ih _ _ h6, ih _ _ h7⟩))
      · rw [h _ (by omega)]; exact h2
      · rw [h _ (by omega)]; exact h3
      · rw [h _ (by omega)]; exact h4
    · refine Or.inr (Or.inr (Or.inr ⟨x, y, h1, ?_, ?_, ?_, h5, ih _ _ h6, ih _ _ h7⟩))
      · rw [h _ (by omega)]; exact h2
      · rw [h _ (by omega)]; exact h3
      · rw [h _ (by omega)]; exact h4
theorem Sn_c {I A I' A' : Nat → Nat → Int32} {V V' : Nat → Nat → Option Nat} {s : Nat} {n n' : Nat → Int32} (h : Sn I A V s n) (hn : ∀ k, 127 ≤ k → n' k = n k) (h1 : I' s 3 = I s 3) (h2 : V' (s + 1) = V (s + 1)) (h3 : A' (s + 2) = A (s + 2)) (h4 : A' (s + 3) = A (s + 3)) : Sn I' A' V' s n' := by
  unfold Sn at h ⊢
  rw [h1, h2, h3, h4, hn 127 (by omega), hn 128 (by omega)]
  rcases h with h | ⟨h, L, f, e1, e2, e3, e4⟩
  · exact Or.inl h
  · exact Or.inr ⟨h, L, f, e1, e2, e3, Cm_c hn _ _ _ e4⟩
theorem Sh_c {I A I' A' : Nat → Nat → Int32} {a : Nat} {n n' : Nat → Int32} {H m : Nat} (h : Sh I A a n H m) (hn : ∀ k, k < 127 → n' k = n k) (h1 : I' a = I a) (h2 : ∀ q, a + 2 ≤ q → q ≤ a + 8 → A' q = A q) : Sh I' A' a n' H m := by
  obtain ⟨⟨hH, hD, hH6, hm⟩, ⟨hg1, hg2, hy, hp⟩, hC, hIn, hCh, hW, hT, hL, hG⟩ := h
  refine ⟨⟨?_, ?_, hH6, hm⟩, ⟨?_, ?_, ?_, ?_⟩, ?_, ?_, ?_, ?_, ?_, ?_, ?_⟩
  · rw [h1]; exact hH
  · rw [h1]; exact hD
  · rw [h1, hn _ (by omega)]; exact hg1
  · rw [h1, hn _ (by omega)]; exact hg2
  · rw [h1, hn _ (by omega)]; exact hy
  · rw [h1, hn _ (by omega)]; exact hp
  · intro k hk; rw [h2 _ (by omega) (by omega), hn _ (by omega)]; exact hC k hk
  · intro k hk; rw [h2 _ (by omega) (by omega), hn _ (by omega)]; exact hIn k hk
  · intro k hk; rw [h2 _ (by omega) (by omega), hn _ (by omega)]; exact hCh k hk
  · intro k hk; rw [h2 _ (by omega) (by omega), hn _ (by omega)]; exact hW k hk
  · intro k hk; rw [h2 _ (by omega) (by omega), hn _ (by omega)]; exact hT k hk
  · intro k hk; rw [h2 _ (by omega) (by omega), hn _ (by omega)]; exact hL k hk
  · intro k hk; rw [h2 _ (by omega) (by omega), hn _ (by omega)]; exact hG k hk
theorem Vd_c {n n' : Nat → Int32} {H m : Nat} (hV : Vd n H m) (h : ∀ k, k < 127 → n' k = n k) : Vd n' H m := by
  obtain ⟨⟨h0, h72, hH, hm⟩, hg, hy, hc, ha, hb, hn, hl, hag, hz, hz2⟩ := hV
  refine ⟨⟨?_, ?_, hH, hm⟩, ?_, ?_, ?_, ?_, ?_, ?_, ?_, ?_, ?_, ?_⟩
  · rw [h _ (by omega), h0]
  · rw [h _ (by omega), h72]
  · rw [h _ (by omega)]; exact hg
  · rw [h _ (by omega)]; exact hy
  · intro q hq; rw [h _ (by omega)]; exact hc q hq
  · intro q hq; rw [h _ (by omega)]; exact ha q hq
  · intro q hq; rw [h _ (by omega)]; exact hb q hq
  · intro q hq; rw [h _ (by omega), h _ (by omega)]; exact hn q hq
  · intro q hq; rw [h _ (by omega)]; exact hl q hq
  · intro q hq; rw [h _ (by omega)]; exact hag q hq
  · intro q h1 h2; rw [h _ (by omega)]; exact hz q h1 h2
  · intro q h1 h2; rw [h _ (by omega)]; exact hz2 q h1 h2
/-- the tape -/
def RT (I A : Nat → Nat → Int32) (J : Nat → Int32) (B : Nat → Nat → Int32) : Prop := ∃ t, t ≤ 940 ∧ I 1 1 = nI t ∧ J 2 = nI t ∧ ∀ k, k < t → ∃ b, b < 256 ∧ B 1 k = nI b ∧ A 2 k = by8 b
/-- what was told last -/
def RQ (I A : Nat → Nat → Int32) (J : Nat → Int32) (B : Nat → Nat → Int32) : Prop :=
  (I 0 13 = J 10 ∧ I 0 14 = J 28 ∧ I 0 15 = J 31) ∧
  (∃ q, q ≤ 6 ∧ I 95 3 = nI q ∧ J 27 = nI q ∧ ∀ k, k < q → A 98 k = B 12 k) ∧
  (∃ t, t ≤ 32 ∧ I 106 1 = nI t ∧ J 33 = nI t ∧ ∀ k, k < t → A 107 k = B 15 k) ∧
  (∃ b, I 101 5 = x_b b ∧ J 38 = x_b b ∧ (b = true → I 101 6 = B 17 0 ∧ I 101 7 = B 17 1 ∧ I 101 8 = B 17 2 ∧ I 101 9 = B 17 3))
/-- images -/
def RI (I A : Nat → Nat → Int32) (N : Nat → Nat → Int64) (V : Nat → Nat → Option Nat) (B : Nat → Nat → Int32) (M : Nat → Nat → Int64) : Prop :=
  ∀ k, k < 2 → ∃ b, A 118 k = x_b b ∧ B 10 k = x_b b ∧ (b = true → ∃ H m, Sh I A (120 + 13 * k) (fun i => B 4 (369 * k + i)) H m ∧ Vd (fun i => B 4 (369 * k + i)) H m ∧ Yr (fun i => B 4 (369 * k + i)) ∧ Nm (N (121 + 13 * k)) (fun i => M 9 (6 * k + i)) H ∧ Sn I A V (129 + 13 * k) (fun i => B 4 (369 * k + i)))
def RV (V : Nat → Nat → Option Nat) : Prop := V22 V ∧ V 116 0 = some 120 ∧ V 116 1 = some 133 ∧ V 117 0 = some 129 ∧ V 117 1 = some 142
def RC (I A : Nat → Nat → Int32) (V : Nat → Nat → Option Nat) (sp sr : Nat) (B : Nat → Nat → Int32) : Prop := ((sp = 108 ∧ sr = 112) ∨ (sp = 112 ∧ sr = 108)) ∧ Sn I A V sp (B 2)
def RS (I A : Nat → Nat → Int32) (N : Nat → Nat → Int64) (B : Nat → Nat → Int32) (M : Nat → Nat → Int64) (H m : Nat) : Prop := Sh I A 3 (B 2) H m ∧ Vd (B 2) H m ∧ Yr (B 2) ∧ Nm (N 4) (M 7) H
def RZ (I A : Nat → Nat → Int32) (N : Nat → Nat → Int64) (V : Nat → Nat → Option Nat) (sp sr : Nat) (J : Nat → Int32) (B : Nat → Nat → Int32) (M : Nat → Nat → Int64) : Prop := RT I A J B ∧ RQ I A J B ∧ RI I A N V B M ∧ RV V ∧ RC I A V sp sr B
/-- acts that can be undone -/
def RPx (p z : Nat) (I A : Nat → Nat → Int32) (N : Nat → Nat → Int64) (J : Nat → Int32) (B : Nat → Nat → Int32) (M : Nat → Nat → Int64) (H : Nat) : Prop :=
  (p < 8 ∧ z ≤ 8 ∧ I 21 1 = nI p ∧ I 21 2 = nI z ∧ J 24 = nI z) ∧ ∀ j, j < z → ∃ m, Sh I A (23 + 9 * ((p + 8 - z + j) % 8)) (lay (B 2) (B 5) (57 * j)) H m ∧ Vd (lay (B 2) (B 5) (57 * j)) H m ∧ Yr (lay (B 2) (B 5) (57 * j)) ∧ Nm (N (23 + 9 * ((p + 8 - z + j) % 8) + 1)) (M 7) H
def RP (I A : Nat → Nat → Int32) (N : Nat → Nat → Int64) (J : Nat → Int32) (B : Nat → Nat → Int32) (M : Nat → Nat → Int64) (H : Nat) : Prop := ∃ p z, RPx p z I A N J B M H
def Rl (I A : Nat → Nat → Int32) (N : Nat → Nat → Int64) (V : Nat → Nat → Option Nat) (sp sr : Nat) (J : Nat → Int32) (B : Nat → Nat → Int32) (M : Nat → Nat → Int64) : Prop := ∃ H m, RS I A N B M H m ∧ RP I A N J B M H ∧ RZ I A N V sp sr J B M
theorem lay_c {n n' B : Nat → Int32} {p : Nat} (h : ∀ k, (k < 70 ∨ 127 ≤ k) → n' k = n k) : lay n' B p = lay n B p := by
  funext k
  unfold lay
  split
  · rfl
  · exact h k (by omega)
theorem Nm_c {f f' g : Nat → Int64} {H : Nat} (h : Nm f g H) (hH : H ≤ 6) (e : ∀ k, k < 6 → f' k = f k) : Nm f' g H := fun k hk => by rw [e k (by omega)]; exact h k hk
theorem Yr_c {n n' : Nat → Int32} (h : Yr n) (e : n' 70 = n 70) : Yr n' := by
  obtain ⟨y, h1, h2⟩ := h
  exact ⟨y, h1, e.trans h2⟩
theorem Sn_lt {s sp sr : Nat} (h : (sp = 108 ∧ sr = 112) ∨ (sp = 112 ∧ sr = 108)) : 108 ≤ sp ∧ 108 ≤ sr ∧ sp ≤ 112 ∧ sr ≤ 112 := by omega
/-- what the rest hangs on -/
theorem RZ_f {I A I' A' : Nat → Nat → Int32} {N N' : Nat → Nat → Int64} {V : Nat → Nat → Option Nat} {sp sr : Nat} {J J' : Nat → Int32} {B B' : Nat → Nat → Int32} {M M' : Nat → Nat → Int64} (h : RZ I A N V sp sr J B M)
    (hI : ∀ q, (q ≤ 1 ∨ q = 95 ∨ q = 101 ∨ q = 106 ∨ 108 ≤ q) → I' q = I q) (hA : ∀ q, (q ≤ 2 ∨ q = 98 ∨ q = 107 ∨ (108 ≤ q ∧ q ≤ 118) ∨ 120 ≤ q) → A' q = A q) (hN : ∀ q, 95 ≤ q → N' q = N q)
    (hJ : J' 2 = J 2 ∧ J' 10 = J 10 ∧ J' 27 = J 27 ∧ J' 28 = J 28 ∧ J' 31 = J 31 ∧ J' 33 = J 33 ∧ J' 38 = J 38)
    (hB : B' 1 = B 1 ∧ B' 4 = B 4 ∧ B' 10 = B 10 ∧ B' 12 = B 12 ∧ B' 15 = B 15 ∧ B' 17 = B 17) (hM : M' 9 = M 9) (hn : ∀ k, 127 ≤ k → B' 2 k = B 2 k) : RZ I' A' N' V sp sr J' B' M' := by
  obtain ⟨j2, j10, j27, j28, j31, j33, j38⟩ := hJ
  obtain ⟨b1, b4, b10, b12, b15, b17⟩ := hB
  obtain ⟨hT, ⟨⟨q1, q2, q3⟩, qr, ql, qt⟩, hi, hv, hc1, hc2⟩ := h
  refine ⟨?_, ⟨⟨?_, ?_, ?_⟩, ?_, ?_, ?_⟩, ?_, hv, hc1, ?_⟩
  · unfold RT at hT ⊢
    rw [hI 1 (by omega), hA 2 (by omega), j2, b1]; exact hT
  · rw [hI 0 (by omega), j10]; exact q1
  · rw [hI 0 (by omega), j28]; exact q2
  · rw [hI 0 (by omega), j31]; exact q3
  · rw [hI 95 (by omega), hA 98 (by omega), j27, b12]; exact qr
  · rw [hI 106 (by omega), hA 107 (by omega), j33, b15]; exact ql
  · rw [hI 101 (by omega), j38, b17]; exact qt
  · intro k hk
    obtain ⟨b, e1, e2, e3⟩ := hi k hk
    refine ⟨b, ?_, ?_, ?_⟩
    · rw [hA 118 (by omega)]; exact e1
    · rw [b10]; exact e2
    · intro hb
      obtain ⟨H, m, f1, f2, f3, f4, f5⟩ := e3 hb
      rw [b4, hM, hN _ (by omega)]
      exact ⟨H, m, Sh_c f1 (fun _ _ => rfl) (hI _ (by omega)) (fun q _ _ => hA q (by omega)), f2, f3, f4, Sn_c f5 (fun _ _ => rfl) (by rw [hI _ (by omega)]) rfl (hA _ (by omega)) (hA _ (by omega))⟩
  · have := Sn_lt (s := 0) hc1
    exact Sn_c hc2 hn (by rw [hI _ (by omega)]) rfl (hA _ (by omega)) (hA _ (by omega))
theorem RPx_push {p z : Nat} {I A I' A' : Nat → Nat → Int32} {N N' : Nat → Nat → Int64} {J J' : Nat → Int32} {B B' : Nat → Nat → Int32} {M M' : Nat → Nat → Int64} {H m0 : Nat} {n0 : Nat → Int32} (h : RPx p z I A N J B M H)
    (e1 : I' 21 1 = nI ((p + 1) % 8)) (e2 : I' 21 2 = nI (min 8 (z + 1))) (eJ : J' 24 = nI (min 8 (z + 1)))
    (hS : Sh I' A' (23 + 9 * p) n0 H m0) (hV : Vd n0 H m0) (hY : Yr n0) (hN : Nm (N' (23 + 9 * p + 1)) (M 7) H)
    (hI : ∀ q, 23 ≤ q → q ≤ 93 → q ≠ 23 + 9 * p → I' q = I q) (hA : ∀ q, 23 ≤ q → q ≤ 94 → (q < 23 + 9 * p + 2 ∨ 23 + 9 * p + 8 < q) → A' q = A q) (hNN : ∀ q, 23 ≤ q → q ≤ 94 → q ≠ 23 + 9 * p + 1 → N' q = N q) (hM : M' 7 = M 7)
    (b1 : ∀ j k, j < min 8 (z + 1) - 1 → k < 57 → B' 5 (57 * j + k) = B 5 (57 * (j + (z + 1 - min 8 (z + 1))) + k)) (b2 : ∀ k, k < 57 → B' 5 (57 * (min 8 (z + 1) - 1) + k) = n0 (70 + k))
    (hn : ∀ k, (k < 70 ∨ 127 ≤ k) → B' 2 k = B 2 k) (hn0 : ∀ k, (k < 70 ∨ 127 ≤ k) → n0 k = B 2 k) : RPx ((p + 1) % 8) (min 8 (z + 1)) I' A' N' J' B' M' H := by
  obtain ⟨⟨hp, hz, -, -, -⟩, hj⟩ := h
  refine ⟨⟨Nat.mod_lt _ (by decide), Nat.min_le_left _ _, e1, e2, eJ⟩, ?_⟩
  intro j hjz
  by_cases hl : j = min 8 (z + 1) - 1
  · have hs : ((p + 1) % 8 + 8 - min 8 (z + 1) + j) % 8 = p := by omega
    have hlay : lay (B' 2) (B' 5) (57 * j) = n0 := by
      funext k
      by_cases hk : 70 ≤ k ∧ k < 127
      · obtain ⟨i, rfl⟩ : ∃ i, k = 70 + i := ⟨k - 70, by omega⟩
        rw [lay_i (by omega), hl, b2 i (by omega)]
      · rw [lay_o (by omega), hn k (by omega), hn0 k (by omega)]
    rw [hs, hlay, hM]
    exact ⟨m0, hS, hV, hY, hN⟩
  · have hs : ((p + 1) % 8 + 8 - min 8 (z + 1) + j) % 8 = (p + 8 - z + (j + (z + 1 - min 8 (z + 1)))) % 8 := by omega
    have hsp : (p + 8 - z + (j + (z + 1 - min 8 (z + 1)))) % 8 ≠ p := by omega
    have hs8 : (p + 8 - z + (j + (z + 1 - min 8 (z + 1)))) % 8 < 8 := Nat.mod_lt _ (by decide)
    have hlay : lay (B' 2) (B' 5) (57 * j) = lay (B 2) (B 5) (57 * (j + (z + 1 - min 8 (z + 1)))) := by
      funext k
      by_cases hk : 70 ≤ k ∧ k < 127
      · obtain ⟨i, rfl⟩ : ∃ i, k = 70 + i := ⟨k - 70, by omega⟩
        rw [lay_i (by omega), lay_i (by omega), b1 j i (by omega) (by omega)]
      · rw [lay_o (by omega), lay_o (by omega), hn k (by omega)]
    obtain ⟨m, f1, f2, f3, f4⟩ := hj (j + (z + 1 - min 8 (z + 1))) (by omega)
    rw [hs, hlay, hM]
    generalize (p + 8 - z + (j + (z + 1 - min 8 (z + 1)))) % 8 = s at f1 f4 hsp hs8 ⊢
    refine ⟨m, Sh_c f1 (fun _ _ => rfl) (hI _ (by omega) (by omega) (by omega)) (fun q _ _ => hA q (by omega) (by omega) (by omega)), f2, f3, ?_⟩
    rw [hNN _ (by omega) (by omega) (by omega)]
    exact f4
/-- the kept ones are as they were -/
theorem RPx_c {p z : Nat} {I A I' A' : Nat → Nat → Int32} {N N' : Nat → Nat → Int64} {J J' : Nat → Int32} {B B' : Nat → Nat → Int32} {M M' : Nat → Nat → Int64} {H : Nat} (h : RPx p z I A N J B M H)
    (hI : ∀ q, 21 ≤ q → q ≤ 93 → I' q = I q) (hA : ∀ q, 23 ≤ q → q ≤ 94 → A' q = A q) (hN : ∀ q, 23 ≤ q → q ≤ 94 → N' q = N q) (hM : M' 7 = M 7) (hJ : J' 24 = J 24) (hB : B' 5 = B 5) (hn : ∀ k, (k < 70 ∨ 127 ≤ k) → B' 2 k = B 2 k) : RPx p z I' A' N' J' B' M' H := by
  obtain ⟨⟨hp, hz, h1, h2, h3⟩, hj⟩ := h
  refine ⟨⟨hp, hz, ?_, ?_, ?_⟩, ?_⟩
  · rw [hI 21 (by omega) (by omega)]; exact h1
  · rw [hI 21 (by omega) (by omega)]; exact h2
  · rw [hJ]; exact h3
  · intro j hjz
    obtain ⟨m, f1, f2, f3, f4⟩ := hj j hjz
    have hs8 : (p + 8 - z + j) % 8 < 8 := Nat.mod_lt _ (by decide)
    rw [hB, hM, lay_c hn, hN _ (by omega) (by omega)]
    exact ⟨m, Sh_c f1 (fun _ _ => rfl) (hI _ (by omega) (by omega)) (fun q _ _ => hA q (by omega) (by omega)), f2, f3, f4⟩
/-- nothing can be undone -/
theorem RPx_0 {p : Nat} {I A : Nat → Nat → Int32} {N : Nat → Nat → Int64} {J : Nat → Int32} {B : Nat → Nat → Int32} {M : Nat → Nat → Int64} {H : Nat} (hp : p < 8) (h1 : I 21 1 = nI p) (h2 : I 21 2 = nI 0) (h3 : J 24 = nI 0) : RPx p 0 I A N J B M H :=
  ⟨⟨hp, by omega, h1, h2, h3⟩, fun j hj => by omega⟩
theorem RPx_pop {p z : Nat} {I A I' A' : Nat → Nat → Int32} {N N' : Nat → Nat → Int64} {J J' : Nat → Int32} {B B' : Nat → Nat → Int32} {M M' : Nat → Nat → Int64} {H : Nat} (h : RPx p (z + 1) I A N J B M H)
    (e1 : I' 21 1 = nI ((p + 7) % 8)) (e2 : I' 21 2 = nI z) (eJ : J' 24 = nI z)
    (hI : ∀ q, 23 ≤ q → q ≤ 93 → I' q = I q) (hA : ∀ q, 23 ≤ q → q ≤ 94 → A' q = A q) (hN : ∀ q, 23 ≤ q → q ≤ 94 → N' q = N q) (hM : M' 7 = M 7) (hB : B' 5 = B 5) (hn : B' 2 = lay (B 2) (B 5) (57 * z)) : RPx ((p + 7) % 8) z I' A' N' J' B' M' H := by
  obtain ⟨⟨hp, hz, -, -, -⟩, hj⟩ := h
  refine ⟨⟨Nat.mod_lt _ (by decide), by omega, e1, e2, eJ⟩, ?_⟩
  intro j hjz
  have hs : ((p + 7) % 8 + 8 - z + j) % 8 = (p + 8 - (z + 1) + j) % 8 := by omega
  have hs8 : (p + 8 - (z + 1) + j) % 8 < 8 := Nat.mod_lt _ (by decide)
  obtain ⟨m, f1, f2, f3, f4⟩ := hj j (by omega)
  rw [hs, hB, hM, hn, lay_lay, hN _ (by omega) (by omega)]
  exact ⟨m, Sh_c f1 (fun _ _ => rfl) (hI _ (by omega) (by omega)) (fun q _ _ => hA q (by omega) (by omega)), f2, f3, f4⟩
