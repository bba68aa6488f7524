/-! PURE ROWS: numbers, loops, what a call gives back -/
def x_b (b : Bool) : Int32 := cond b 1 0
/-- step by step from i on, k times -/
def x_it {σ : Type} (f : Nat → σ → σ) : Nat → Nat → σ → σ
  | _, 0, s => s
  | i, k + 1, s => x_it f (i + 1) k (f i s)
theorem x_it_congr {σ : Type} {f g : Nat → σ → σ} : ∀ (k i : Nat) (s : σ), (∀ j s, i ≤ j → j < i + k → f j s = g j s) → x_it f i k s = x_it g i k s
  | 0, _, _, _ => rfl
  | k + 1, i, s, h => by
    simp only [x_it]
    rw [h i s (Nat.le_refl i) (by omega)]
    exact x_it_congr k (i + 1) (g i s) (fun j s h1 h2 => h j s (by omega) (by omega))
theorem x_it_inv {σ : Type} {f : Nat → σ → σ} (P : Nat → σ → Prop) : ∀ (k i : Nat) (s : σ), P i s → (∀ j s, i ≤ j → j < i + k → P j s → P (j + 1) (f j s)) → P (i + k) (x_it f i k s)
  | 0, _, _, h, _ => h
  | k + 1, i, s, h, hs => by
    have := x_it_inv P k (i + 1) (f i s) (hs i s (Nat.le_refl i) (by omega) h) (fun j s h1 h2 h3 => hs j s (by omega) (by omega) h3)
    rw [show i + 1 + k = i + (k + 1) by omega] at this
    exact this
theorem x_it_succ {σ : Type} {f : Nat → σ → σ} : ∀ (k i : Nat) (s : σ), x_it f i (k + 1) s = f (i + k) (x_it f i k s)
  | 0, _, _ => rfl
  | k + 1, i, s => by
    have := x_it_succ (f := f) k (i + 1) (f i s)
    rw [show i + 1 + k = i + (k + 1) by omega] at this
    exact this
/-- a loop that goes up to n -/
theorem x_loop {σ ρ : Type} (H : Nat → σ → ρ) (f : Nat → σ → σ) (n : Nat) (P : Nat → σ → Prop) (hs : ∀ i s, i < n → P i s → H i s = H (i + 1) (f i s) ∧ P (i + 1) (f i s)) : ∀ (k i : Nat) (s : σ), i + k = n → P i s → H i s = H n (x_it f i k s)
  | 0, i, s, h, _ => by rw [show n = i by omega]; rfl
  | k + 1, i, s, h, hp => by
    obtain ⟨h1, h2⟩ := hs i s (by omega) hp
    rw [h1, x_loop H f n P hs k (i + 1) (f i s) (by omega) h2]
    rfl
/-- a loop that may end ahead of n -/
def x_fd {ρ : Type} (f : Nat → Option ρ) : Nat → Nat → Option ρ
  | _, 0 => none
  | i, k + 1 => (match f i with | some r => some r | none => x_fd f (i + 1) k)
theorem x_fd_congr {ρ : Type} {f g : Nat → Option ρ} : ∀ (k i : Nat), (∀ j, i ≤ j → j < i + k → f j = g j) → x_fd f i k = x_fd g i k
  | 0, _, _ => rfl
  | k + 1, i, h => by
    simp only [x_fd]
    rw [h i (Nat.le_refl i) (by omega), x_fd_congr k (i + 1) (fun j h1 h2 => h j (by omega) (by omega))]
theorem n_la (k d : Nat) : (OfNat.ofNat k : Int32) + nI d = nI (OfNat.ofNat k + d) := nI_add k d
theorem n_al (k d : Nat) : nI d + (OfNat.ofNat k : Int32) = nI (d + OfNat.ofNat k) := nI_add d k
theorem n_lit (k : Nat) : (OfNat.ofNat k : Int32) = nI (OfNat.ofNat k) := rfl
theorem n_cl (k : Nat) (h : (OfNat.ofNat k : Nat) < 2 ^ 31) : (OfNat.ofNat k : Int32).toNatClampNeg = OfNat.ofNat k := nI_clamp h
theorem xin_n {k n : Nat} (h : k < n) (hn : n ≤ 2 ^ 31) : x_in (nI k) n = true := by
  have := nI_toInt (n := k) (by omega)
  simp only [x_in, this, Bool.and_eq_true, decide_eq_true_eq]
  omega
theorem dle_n {a b : Nat} (ha : a < 2 ^ 31) (hb : b < 2 ^ 31) : decide (nI a ≤ nI b) = decide (a ≤ b) := by simp only [nI_leI ha hb]
theorem dlt_n {a b : Nat} (ha : a < 2 ^ 31) (hb : b < 2 ^ 31) : decide (nI a < nI b) = decide (a < b) := by simp only [nI_ltI ha hb]
theorem deq_n {a b : Nat} (ha : a < 2 ^ 31) (hb : b < 2 ^ 31) : decide (nI a = nI b) = decide (a = b) := by simp only [nI_eq ha hb]
theorem dle_l {b : Nat} (k : Nat) (hk : (OfNat.ofNat k : Nat) < 2 ^ 31) (hb : b < 2 ^ 31) : ((OfNat.ofNat k : Int32) ≤ nI b) = (OfNat.ofNat k ≤ b) := propext (nI_leI hk hb)
theorem dle_r {a : Nat} (k : Nat) (hk : (OfNat.ofNat k : Nat) < 2 ^ 31) (ha : a < 2 ^ 31) : (nI a ≤ (OfNat.ofNat k : Int32)) = (a ≤ OfNat.ofNat k) := propext (nI_leI ha hk)
theorem dlt_l {b : Nat} (k : Nat) (hk : (OfNat.ofNat k : Nat) < 2 ^ 31) (hb : b < 2 ^ 31) : ((OfNat.ofNat k : Int32) < nI b) = (OfNat.ofNat k < b) := propext (nI_ltI hk hb)
theorem dlt_r {a : Nat} (k : Nat) (hk : (OfNat.ofNat k : Nat) < 2 ^ 31) (ha : a < 2 ^ 31) : (nI a < (OfNat.ofNat k : Int32)) = (a < OfNat.ofNat k) := propext (nI_ltI ha hk)
theorem deq_r {a : Nat} (k : Nat) (hk : (OfNat.ofNat k : Nat) < 2 ^ 31) (ha : a < 2 ^ 31) : (nI a = (OfNat.ofNat k : Int32)) = (a = OfNat.ofNat k) := propext (nI_eq ha hk)
theorem deq_l {b : Nat} (k : Nat) (hk : (OfNat.ofNat k : Nat) < 2 ^ 31) (hb : b < 2 ^ 31) : ((OfNat.ofNat k : Int32) = nI b) = (OfNat.ofNat k = b) := propext (nI_eq hk hb)
theorem dle_e {a b : Nat} (ha : a < 2 ^ 31) (hb : b < 2 ^ 31) : (nI a ≤ nI b) = (a ≤ b) := propext (nI_leI ha hb)
theorem dlt_e {a b : Nat} (ha : a < 2 ^ 31) (hb : b < 2 ^ 31) : (nI a < nI b) = (a < b) := propext (nI_ltI ha hb)
theorem deq_e {a b : Nat} (ha : a < 2 ^ 31) (hb : b < 2 ^ 31) : (nI a = nI b) = (a = b) := propext (nI_eq ha hb)
theorem lp0 {σ ρ : Type} (H : Nat → σ → ρ) (f : Nat → σ → σ) (n : Nat) (r : σ → ρ) (hs : ∀ i s, i < n → H i s = H (i + 1) (f i s)) (he : ∀ s, H n s = r s) (s0 : σ) : H 0 s0 = r (x_it f 0 n s0) :=
  (x_loop H f n (fun _ _ => True) (fun i s h _ => ⟨hs i s h, trivial⟩) n 0 s0 (by omega) trivial).trans (he _)
theorem lpP {σ ρ : Type} (H : Nat → σ → ρ) (f : Nat → σ → σ) (n : Nat) (P : Nat → σ → Prop) (r : σ → ρ) (hs : ∀ i s, i < n → P i s → H i s = H (i + 1) (f i s) ∧ P (i + 1) (f i s)) (he : ∀ s, P n s → H n s = r s) (s0 : σ) (h0 : P 0 s0) : H 0 s0 = r (x_it f 0 n s0) := by
  have h1 := x_loop H f n P hs n 0 s0 (by omega) h0
  have h2 := x_it_inv (f := f) P n 0 s0 h0 (fun j s _ hj hp => (hs j s (by omega) hp).2)
  rw [Nat.zero_add] at h2
  exact h1.trans (he _ h2)
theorem lfd {ρ : Type} (H : Nat → ρ) (g : Nat → Option ρ) (n : Nat) (e : ρ) (hs : ∀ i, i < n → H i = (match g i with | some r => r | none => H (i + 1))) (he : H n = e) : ∀ (k i : Nat), i + k = n → H i = (x_fd g i k).getD e
  | 0, i, h => by rw [show i = n by omega, he]; rfl
  | k + 1, i, h => by
    rw [hs i (by omega)]
    simp only [x_fd]
    cases hg : g i with
    | some r => rfl
    | none => exact lfd H g n e hs he k (i + 1) (by omega)
theorem d_not_le (x y : Int32) : decide (¬ x ≤ y) = decide (y < x) := by simp [Int32.not_le]
theorem C_i {d j : Nat} {as : List Value} {sl : Nat} {h : List AC} {pc2 : Nat} {ls2 : XL} {v : Int32} {sl2 : Nat} {h2 : List AC} (hR : R d j (x_ent j as sl h) = some (pc2, ls2, [.int v], sl2, h2)) (hk : xrk j = 1) (hi : (xk j pc2).1 = .ireturn) : C d j as sl h = some ([.int v], sl2, h2) := C_of hR (by rw [hk, hi]; rfl)
theorem C_b {d j : Nat} {as : List Value} {sl : Nat} {h : List AC} {pc2 : Nat} {ls2 : XL} {b : Bool} {sl2 : Nat} {h2 : List AC} (hR : R d j (x_ent j as sl h) = some (pc2, ls2, [.int (x_b b)], sl2, h2)) (hk : xrk j = 2) (hi : (xk j pc2).1 = .ireturn) : C d j as sl h = some ([.int (x_b b)], sl2, h2) := C_of hR (by rw [hk, hi]; cases b <;> rfl)
theorem C_v {d j : Nat} {as : List Value} {sl : Nat} {h : List AC} {pc2 : Nat} {ls2 : XL} {sl2 : Nat} {h2 : List AC} (hR : R d j (x_ent j as sl h) = some (pc2, ls2, [], sl2, h2)) (hk : xrk j = 0) (hi : (xk j pc2).1 = .return_) : C d j as sl h = some ([], sl2, h2) := C_of hR (by rw [hk, hi]; rfl)
theorem C_l {d j : Nat} {as : List Value} {sl : Nat} {h : List AC} {pc2 : Nat} {ls2 : XL} {v : Int64} {sl2 : Nat} {h2 : List AC} (hR : R d j (x_ent j as sl h) = some (pc2, ls2, [.long v], sl2, h2)) (hk : xrk j = 3) (hi : (xk j pc2).1 = .lreturn) : C d j as sl h = some ([.long v], sl2, h2) := C_of hR (by rw [hk, hi]; rfl)
theorem b_some {vs : List Value} {sl : Nat} {h : List AC} {k : List Value → Nat → List AC → Option XR} : bC (some (vs, sl, h)) k = k vs sl h := rfl
theorem x_b0 (b : Bool) : decide (x_b b = 0) = !b := by cases b <;> rfl
theorem x_b1 (b : Bool) : decide (x_b b = 1) = b := by cases b <;> rfl
