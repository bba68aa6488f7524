/-! AN ABSTRACT MACHINE over a list of cells; a reference is a place in that list, or (from 1000000 on) a constant. -/
abbrev AC : Type := (Nat × vp_A) ⊕ (Nat × List Value)
abbrev XL : Type := List (Option Value)
abbrev XR : Type := Nat × XL × List Value × Nat × List AC
abbrev XE : Type := Instr × Nat × List Nat × Int32
abbrev XO : Type := (Bool × XR × XR) ⊕ (Nat × List Value × List Value)
def x_bad : XE := (.nop, 1, [], 0)
def x_at {α : Type} : List α → Nat → Option α
  | [], _ => none
  | c :: _, 0 => some c
  | _ :: t, k + 1 => x_at t k
def x_dead : XR := (65535, [], [], 0, [])
def x_nx (x : XR) : Option XO := some (.inl (true, x, x))
def x_br (b : Bool) (x1 x2 : XR) : Option XO := some (.inl (b, x1, x2))
def x_in (i : Int32) (n : Nat) : Bool := decide (0 ≤ i.toInt) && decide (i.toInt < (n : Int))
def x_rf : Option Nat → Value
  | some k => .ref k
  | none => .null
def x_max (x y : Int32) : Int32 := if x < y then y else x
def x_min (x y : Int32) : Int32 := if y < x then y else x
def x_isL : Option (Option Value) → Bool
  | some (some (.long _)) => true
  | some (some (.double _)) => true
  | _ => false
/-- the place below k holds no long -/
def x_free (ls : XL) : Nat → Bool
  | 0 => true
  | k + 1 => !x_isL (x_at ls k)
/-- place k of l is v from now on; none if there is no such place -/
def x_pk {α β : Type} : List α → Nat → α → (List α → Option β) → Option β
  | [], _, _, _ => none
  | _ :: t, 0, v, f => f (v :: t)
  | c :: t, k + 1, v, f => x_pk t k v (fun t => f (c :: t))
def x_st1 (ls : XL) (k : Nat) (v : Value) (f : XL → Option XO) : Option XO := cond (x_free ls k) (x_pk ls k (some v) f) none
def x_st2 (ls : XL) (k : Nat) (v : Value) (f : XL → Option XO) : Option XO := cond (x_free ls k) (x_pk ls k (some v) (fun ls => x_pk ls (k + 1) none f)) none
/-- a constant of the words -/
def x_isw (a : Nat) : Bool := Nat.ble 1000000 a && Nat.ble a 1000020
def x_ist (a : Nat) : Bool := Nat.ble 1000200 a && Nat.ble a 1000203
/-- how many words of the stack the values take -/
def x_cat : List Value → Nat
  | [] => 0
  | v :: t => v.category + x_cat t
def x_inv (k : Nat) (st : List Value) (o : Option XO) : Option XO := cond (Nat.ble k st.length && Nat.ble (x_cat (st.drop k)) 8) o none
def x_lets : Nat → Int64
  | 0 => 448546567013 | 1 => 1684365940 | 2 => 444301539187 | 3 => 7364985 | 4 => 27707085054506867 | 5 => 1936026732 | 6 => 28832984776406629 | 7 => 427020345714 | 8 => 2036687218 | 9 => 28530 | 10 => 6385252 | 11 => 7237492 | 12 => 1718773093 | 13 => 422826699621 | 14 => 1718971500 | 15 => 125797149402468 | 16 => 1870095731 | 17 => 427070942835 | 18 => 431197680755 | 19 => 109299962049139 | _ => 121450625394034
def x_swm : Nat → Int32
  | 12 => 1 | 13 => 2 | 14 => 3 | 16 => 4 | 17 => 5 | 18 => 6 | 19 => 7 | 20 => 8 | _ => 0
def x_str : Nat → List Int32
  | 0 => [32, 111, 119, 101, 115, 32] | 1 => [32] | 2 => [32, 111, 102, 32] | 3 => [32, 112, 97, 105, 100] | _ => []
def x_dfl : Nat → List Value
  | 0 => [.int 0]
  | 1 => [.null, .null, .null, .null, .int 0, .int 0, .int 0, .int 0, .int 0, .int 0]
  | 2 => [.null, .int 0]
  | 3 => [.null, .int 0, .int 0]
  | 4 => [.null, .null, .null, .int 0]
  | 5 => [.null, .null, .null, .int 0]
  | 6 => [.null, .null, .null, .null, .null, .null, .null, .null, .int 0, .int 0, .int 0, .int 0, .int 0, .int 0]
  | 7 => [.null, .null, .int 0]
  | 8 => [.null, .int 0, .int 0, .int 0, .int 0, .int 0, .null, .long 0, .int 0, .int 0, .int 0, .int 0]
  | 9 => [.null, .null, .null, .int 0, .null, .null]
  | 10 => [.null, .null, .null, .null, .null, .null, .null, .null, .null, .null, .null, .null, .null, .int 0, .int 0, .int 0]
  | 11 => [.int 0, .null, .int 0, .int 0, .int 0, .int 0, .int 0, .int 0, .int 0, .int 0, .int 0, .int 0, .long 0, .int 0, .null, .null, .null, .null, .null, .null, .null, .null, .null, .int 0, .int 0, .null, .null, .int 0, .int 0, .null, .null, .int 0, .null, .int 0, .int 0, .null, .null, .int 0, .int 0, .null, .int 0, .int 0, .int 0, .int 0]
  | _ => []
def x_fit (t : Nat) (v : Value) : Bool :=
  match t, v with
  | 0, .int _ => true
  | 1, .int x => decide (x = 0) || decide (x = 1)
  | 2, .long _ => true
  | 3, .ref _ => true
  | 3, .null => true
  | _, _ => false
/-- what an array of references of kind t may take: an object of its class -/
def x_aok (h : List AC) (t w : Nat) : Bool :=
  match x_at h w with
  | some (.inr (ci, _)) => (Nat.beq t 4 && Nat.beq ci 6) || (Nat.beq t 6 && Nat.beq ci 4)
  | _ => Nat.beq t 5 && x_isw w
/-- the receiver of a call -/
def x_rcv (h : List AC) (c : Nat) (as : List Value) : Bool :=
  match as with
  | .ref a :: _ => (match x_at h a with
    | some (.inr (ci, _)) => Nat.beq c ci
    | _ => Nat.beq c 99 && x_isw a)
  | _ => false
def x_tsw (pc : Nat) (x : Int32) (df lo hi : Int) (offs : Array Int) : Nat :=
  cond (decide (x.toInt < lo) || decide (hi < x.toInt)) ((pc : Int) + df).toNat ((pc : Int) + offs.toList.getD (x.toInt - lo).toNat 0).toNat
def x_cpy (nx : Nat) (ls : XL) (st : List Value) (sl : Nat) (h : List AC) : Option XO :=
  match st with
  | .int k :: .int dp :: .ref d :: .int sp :: .ref s :: st => (match x_at h s, x_at h d with
    | some (.inl (0, m, .inl f)), some (.inl (0, m2, .inl g)) => cond (!Nat.beq s d && Nat.ble m 4096) (x_pk h d (.inl (0, m2, .inl (va_cpy f g 0 0 m))) (fun h => x_br (decide (sp = 0) && decide (dp = 0) && decide (k = Int32.ofNat m) && Nat.beq m m2) (nx, ls, st, sl, h) x_dead)) none
    | some (.inl (1, m, .inr (.inl f))), some (.inl (1, m2, .inr (.inl g))) => cond (!Nat.beq s d && Nat.ble m 4096) (x_pk h d (.inl (1, m2, .inr (.inl (va_cpy f g 0 0 m)))) (fun h => x_br (decide (sp = 0) && decide (dp = 0) && decide (k = Int32.ofNat m) && Nat.beq m m2) (nx, ls, st, sl, h) x_dead)) none
    | _, _ => none)
  | _ => none
/-- one instruction: where it goes, or which call it makes -/
def dec (ins : Instr) (nx : Nat) (aux : List Nat) (v : Int32) (pc : Nat) (ls : XL) (st : List Value) (sl : Nat) (h : List AC) : Option XO :=
  match ins with
  | .iload k => (match x_at ls k with | some (some (.int x)) => x_nx (nx, ls, (.int x) :: st, sl, h) | _ => none)
  | .iload_n k => (match x_at ls k.val with | some (some (.int x)) => x_nx (nx, ls, (.int x) :: st, sl, h) | _ => none)
  | .lload k => (match x_at ls k with | some (some (.long x)) => x_nx (nx, ls, (.long x) :: st, sl, h) | _ => none)
  | .lload_n k => (match x_at ls k.val with | some (some (.long x)) => x_nx (nx, ls, (.long x) :: st, sl, h) | _ => none)
  | .aload k => (match x_at ls k with | some (some (.ref a)) => x_nx (nx, ls, .ref a :: st, sl, h) | some (some .null) => x_nx (nx, ls, .null :: st, sl, h) | _ => none)
  | .aload_n k => (match x_at ls k.val with | some (some (.ref a)) => x_nx (nx, ls, .ref a :: st, sl, h) | some (some .null) => x_nx (nx, ls, .null :: st, sl, h) | _ => none)
  | .istore k => (match st with | .int x :: st => x_st1 ls k (.int x) (fun ls => x_nx (nx, ls, st, sl, h)) | _ => none)
  | .lstore k => (match st with | .long x :: st => x_st2 ls k (.long x) (fun ls => x_nx (nx, ls, st, sl, h)) | _ => none)
  | .astore k => (match st with | .ref a :: st => x_st1 ls k (.ref a) (fun ls => x_nx (nx, ls, st, sl, h)) | .null :: st => x_st1 ls k .null (fun ls => x_nx (nx, ls, st, sl, h)) | _ => none)
  | .istore_n k => (match st with | .int x :: st => x_st1 ls k.val (.int x) (fun ls => x_nx (nx, ls, st, sl, h)) | _ => none)
  | .lstore_n k => (match st with | .long x :: st => x_st2 ls k.val (.long x) (fun ls => x_nx (nx, ls, st, sl, h)) | _ => none)
  | .astore_n k => (match st with | .ref a :: st => x_st1 ls k.val (.ref a) (fun ls => x_nx (nx, ls, st, sl, h)) | .null :: st => x_st1 ls k.val .null (fun ls => x_nx (nx, ls, st, sl, h)) | _ => none)
  | .iinc k _ => (match x_at ls k with | some (some (.int x)) => x_st1 ls k (.int (x + v)) (fun ls => x_nx (nx, ls, st, sl, h)) | _ => none)
  | .iconst _ => x_nx (nx, ls, .int v :: st, sl, h)
  | .bipush _ => x_nx (nx, ls, .int v :: st, sl, h)
  | .sipush _ => x_nx (nx, ls, .int v :: st, sl, h)
  | .lconst k => x_nx (nx, ls, .long (Int64.ofNat k.val) :: st, sl, h)
  | .aconst_null => x_nx (nx, ls, .null :: st, sl, h)
  | .ldc _ => (match aux with | [] => x_nx (nx, ls, .int v :: st, sl, h) | [k] => cond (x_ist k) (x_nx (nx, ls, .ref k :: st, sl, h)) none | _ => none)
  | .ldc_w _ => (match aux with | [] => x_nx (nx, ls, .int v :: st, sl, h) | _ => none)
  | .ldc2_w _ => x_nx (nx, ls, .long v.toInt64 :: st, sl, h)
  | .iadd => (match st with | .int y :: .int x :: st => x_nx (nx, ls, .int (x + y) :: st, sl, h) | _ => none)
  | .isub => (match st with | .int y :: .int x :: st => x_nx (nx, ls, .int (x - y) :: st, sl, h) | _ => none)
  | .imul => (match st with | .int y :: .int x :: st => x_nx (nx, ls, .int (x * y) :: st, sl, h) | _ => none)
  | .iand => (match st with | .int y :: .int x :: st => x_nx (nx, ls, .int (x &&& y) :: st, sl, h) | _ => none)
  | .ior => (match st with | .int y :: .int x :: st => x_nx (nx, ls, .int (x ||| y) :: st, sl, h) | _ => none)
  | .ixor => (match st with | .int y :: .int x :: st => x_nx (nx, ls, .int (x ^^^ y) :: st, sl, h) | _ => none)
  | .ishl => (match st with | .int y :: .int x :: st => x_nx (nx, ls, .int (x <<< (y &&& 31)) :: st, sl, h) | _ => none)
  | .ishr => (match st with | .int y :: .int x :: st => x_nx (nx, ls, .int (x >>> (y &&& 31)) :: st, sl, h) | _ => none)
  | .iushr => (match st with | .int y :: .int x :: st => x_nx (nx, ls, .int ((x.toUInt32 >>> (y.toUInt32 &&& Int32.toUInt32 31)).toInt32) :: st, sl, h) | _ => none)
  | .idiv => (match st with | .int y :: .int x :: st => x_br (!decide (y = 0)) (nx, ls, .int (x / y) :: st, sl, h) x_dead | _ => none)
  | .irem => (match st with | .int y :: .int x :: st => x_br (!decide (y = 0)) (nx, ls, .int (x - x / y * y) :: st, sl, h) x_dead | _ => none)
  | .ineg => (match st with | .int x :: st => x_nx (nx, ls, .int (-x) :: st, sl, h) | _ => none)
  | .ladd => (match st with | .long y :: .long x :: st => x_nx (nx, ls, .long (x + y) :: st, sl, h) | _ => none)
  | .lsub => (match st with | .long y :: .long x :: st => x_nx (nx, ls, .long (x - y) :: st, sl, h) | _ => none)
  | .lmul => (match st with | .long y :: .long x :: st => x_nx (nx, ls, .long (x * y) :: st, sl, h) | _ => none)
  | .land => (match st with | .long y :: .long x :: st => x_nx (nx, ls, .long (x &&& y) :: st, sl, h) | _ => none)
  | .lor => (match st with | .long y :: .long x :: st => x_nx (nx, ls, .long (x ||| y) :: st, sl, h) | _ => none)
  | .ldiv => (match st with | .long y :: .long x :: st => x_br (!decide (y = 0)) (nx, ls, .long (x / y) :: st, sl, h) x_dead | _ => none)
  | .lrem => (match st with | .long y :: .long x :: st => x_br (!decide (y = 0)) (nx, ls, .long (x - x / y * y) :: st, sl, h) x_dead | _ => none)
  | .lshl => (match st with | .int y :: .long x :: st => x_nx (nx, ls, .long (x <<< (y.toInt64 &&& 63)) :: st, sl, h) | _ => none)
  | .lushr => (match st with | .int y :: .long x :: st => x_nx (nx, ls, .long ((x.toUInt64 >>> (y.toInt64.toUInt64 &&& Int64.toUInt64 63)).toInt64) :: st, sl, h) | _ => none)
  | .lcmp => (match st with | .long y :: .long x :: st => x_nx (nx, ls, .int (lg_cmp x y) :: st, sl, h) | _ => none)
  | .i2l => (match st with | .int x :: st => x_nx (nx, ls, .long x.toInt64 :: st, sl, h) | _ => none)
  | .l2i => (match st with | .long x :: st => x_nx (nx, ls, .int x.toInt32 :: st, sl, h) | _ => none)
  | .i2b => (match st with | .int x :: st => x_nx (nx, ls, .int x.toInt8.toInt32 :: st, sl, h) | _ => none)
  | .i2c => (match st with | .int x :: st => x_nx (nx, ls, .int (x.toUInt32 % 65536).toInt32 :: st, sl, h) | _ => none)
  | .dup => (match st with | .int x :: st => x_nx (nx, ls, .int x :: .int x :: st, sl, h) | .ref x :: st => x_nx (nx, ls, .ref x :: .ref x :: st, sl, h) | _ => none)
  | .dup2 => (match st with | .int y :: .ref x :: st => x_nx (nx, ls, .int y :: .ref x :: .int y :: .ref x :: st, sl, h) | _ => none)
  | .pop => (match st with | .int _ :: st => x_nx (nx, ls, st, sl, h) | .ref _ :: st => x_nx (nx, ls, st, sl, h) | _ => none)
  | .if_icmp .eq _ => (match st, aux with | .int y :: .int x :: st, [t] => x_br (decide (x = y)) (t, ls, st, sl, h) (nx, ls, st, sl, h) | _, _ => none)
  | .if_icmp .ne _ => (match st, aux with | .int y :: .int x :: st, [t] => x_br (!decide (x = y)) (t, ls, st, sl, h) (nx, ls, st, sl, h) | _, _ => none)
  | .if_icmp .lt _ => (match st, aux with | .int y :: .int x :: st, [t] => x_br (decide (x < y)) (t, ls, st, sl, h) (nx, ls, st, sl, h) | _, _ => none)
  | .if_icmp .ge _ => (match st, aux with | .int y :: .int x :: st, [t] => x_br (decide (y ≤ x)) (t, ls, st, sl, h) (nx, ls, st, sl, h) | _, _ => none)
  | .if_icmp .gt _ => (match st, aux with | .int y :: .int x :: st, [t] => x_br (decide (y < x)) (t, ls, st, sl, h) (nx, ls, st, sl, h) | _, _ => none)
  | .if_icmp .le _ => (match st, aux with | .int y :: .int x :: st, [t] => x_br (decide (x ≤ y)) (t, ls, st, sl, h) (nx, ls, st, sl, h) | _, _ => none)
  | .ifCond .eq _ => (match st, aux with | .int x :: st, [t] => x_br (decide (x = 0)) (t, ls, st, sl, h) (nx, ls, st, sl, h) | _, _ => none)
  | .ifCond .ne _ => (match st, aux with | .int x :: st, [t] => x_br (!decide (x = 0)) (t, ls, st, sl, h) (nx, ls, st, sl, h) | _, _ => none)
  | .ifCond .lt _ => (match st, aux with | .int x :: st, [t] => x_br (decide (x < 0)) (t, ls, st, sl, h) (nx, ls, st, sl, h) | _, _ => none)
  | .ifCond .ge _ => (match st, aux with | .int x :: st, [t] => x_br (decide (0 ≤ x)) (t, ls, st, sl, h) (nx, ls, st, sl, h) | _, _ => none)
  | .ifCond .gt _ => (match st, aux with | .int x :: st, [t] => x_br (decide (0 < x)) (t, ls, st, sl, h) (nx, ls, st, sl, h) | _, _ => none)
  | .ifCond .le _ => (match st, aux with | .int x :: st, [t] => x_br (decide (x ≤ 0)) (t, ls, st, sl, h) (nx, ls, st, sl, h) | _, _ => none)
  | .goto _ => (match aux with | [t] => x_nx (t, ls, st, sl, h) | _ => none)
  | .if_acmp .eq _ => (match st, aux with | .ref y :: .ref x :: st, [t] => cond (x_isw x && x_isw y) (x_br ((Nat.beq x y)) (t, ls, st, sl, h) (nx, ls, st, sl, h)) none | .null :: .ref _ :: st, [t] => x_nx (nx, ls, st, sl, h) | .ref _ :: .null :: st, [t] => x_nx (nx, ls, st, sl, h) | .null :: .null :: st, [t] => x_nx (t, ls, st, sl, h) | _, _ => none)
  | .if_acmp .ne _ => (match st, aux with | .ref y :: .ref x :: st, [t] => cond (x_isw x && x_isw y) (x_br (!(Nat.beq x y)) (t, ls, st, sl, h) (nx, ls, st, sl, h)) none | .null :: .ref _ :: st, [t] => x_nx (t, ls, st, sl, h) | .ref _ :: .null :: st, [t] => x_nx (t, ls, st, sl, h) | .null :: .null :: st, [t] => x_nx (nx, ls, st, sl, h) | _, _ => none)
  | .ifnonnull _ => (match st, aux with | .ref _ :: st, [t] => x_nx (t, ls, st, sl, h) | .null :: st, [_] => x_nx (nx, ls, st, sl, h) | _, _ => none)
  | .tableswitch df lo hi offs => (match st with | .int x :: st => x_nx (x_tsw pc x df lo hi offs, ls, st, sl, h) | _ => none)
  | .lookupswitch df ps => (match st with | .int x :: st => x_nx (((pc : Int) + Op.lookupswitch.offset ps.toList df x.toInt).toNat, ls, st, sl, h) | _ => none)
  | .getfield _ => (match st, aux with
    | .ref a :: st, [ci, k, _] => (match x_at h a with
      | some (.inr (cj, fs)) => (match Nat.beq ci cj, x_at fs k with | true, some w => x_nx (nx, ls, w :: st, sl, h) | _, _ => none)
      | _ => none)
    | .ref a :: st, [99, 0] => cond (x_isw a) (x_nx (nx, ls, .long (x_lets (a - 1000000)) :: st, sl, h)) none
    | _, _ => none)
  | .putfield _ => (match st, aux with
    | w :: .ref a :: st, [ci, k, t] => (match x_at h a with
      | some (.inr (cj, fs)) => (match Nat.beq ci cj with | true => x_pk fs k w (fun fs => x_pk h a (.inr (cj, fs)) (fun h => x_br (x_fit t w) (nx, ls, st, sl, h) x_dead)) | _ => none)
      | _ => none)
    | _, _ => none)
  | .getstatic _ => (match aux with | [k] => x_nx (nx, ls, .ref k :: st, sl, h) | _ => none)
  | .arraylength => (match st with
    | .ref a :: st => (match x_at h a with
      | some (.inl (_, q)) => x_nx (nx, ls, .int (Int32.ofNat q.1) :: st, sl, h)
      | _ => cond (Nat.beq a 1000100) (x_nx (nx, ls, .int 21 :: st, sl, h)) none)
    | _ => none)
  | .iaload => (match st with
    | .int i :: .ref a :: st => (match x_at h a with
      | some (.inl (0, m, .inl f)) => x_br (x_in i m) (nx, ls, .int (f i.toNatClampNeg) :: st, sl, h) x_dead
      | none => cond (Nat.beq a 1000101) (x_br (x_in i 21) (nx, ls, .int (x_swm i.toNatClampNeg) :: st, sl, h) x_dead) none
      | _ => none)
    | _ => none)
  | .baload => (match st with
    | .int i :: .ref a :: st => (match x_at h a with
      | some (.inl (2, m, .inl f)) => x_br (x_in i m) (nx, ls, .int (f i.toNatClampNeg) :: st, sl, h) x_dead
      | some (.inl (3, m, .inl f)) => x_br (x_in i m) (nx, ls, .int (f i.toNatClampNeg) :: st, sl, h) x_dead
      | _ => none)
    | _ => none)
  | .laload => (match st with
    | .int i :: .ref a :: st => (match x_at h a with
      | some (.inl (1, m, .inr (.inl f))) => x_br (x_in i m) (nx, ls, .long (f i.toNatClampNeg) :: st, sl, h) x_dead
      | _ => none)
    | _ => none)
  | .aaload => (match st with
    | .int i :: .ref a :: st => (match x_at h a with
      | some (.inl (t, m, .inr (.inr (.inr (.inr f))))) => cond (Nat.ble 4 t) (x_br (x_in i m) (nx, ls, x_rf (f i.toNatClampNeg) :: st, sl, h) x_dead) none
      | none => cond (Nat.beq a 1000100) (x_br (x_in i 21) (nx, ls, .ref (1000000 + i.toNatClampNeg) :: st, sl, h) x_dead) none
      | _ => none)
    | _ => none)
  | .iastore => (match st with
    | .int x :: .int i :: .ref a :: st => (match x_at h a with
      | some (.inl (0, m, .inl f)) => x_pk h a (.inl (0, m, .inl (upd f i.toNatClampNeg x))) (fun h => x_br (x_in i m) (nx, ls, st, sl, h) x_dead)
      | _ => none)
    | _ => none)
  | .bastore => (match st with
    | .int x :: .int i :: .ref a :: st => (match x_at h a with
      | some (.inl (2, m, .inl f)) => x_pk h a (.inl (2, m, .inl (upd f i.toNatClampNeg (vp_nar .byte x)))) (fun h => x_br (x_in i m) (nx, ls, st, sl, h) x_dead)
      | some (.inl (3, m, .inl f)) => x_pk h a (.inl (3, m, .inl (upd f i.toNatClampNeg (vp_nar .boolean x)))) (fun h => x_br (x_in i m) (nx, ls, st, sl, h) x_dead)
      | _ => none)
    | _ => none)
  | .lastore => (match st with
    | .long x :: .int i :: .ref a :: st => (match x_at h a with
      | some (.inl (1, m, .inr (.inl f))) => x_pk h a (.inl (1, m, .inr (.inl (vp_updL f i.toNatClampNeg x)))) (fun h => x_br (x_in i m) (nx, ls, st, sl, h) x_dead)
      | _ => none)
    | _ => none)
  | .aastore => (match st with
    | .ref w :: .int i :: .ref a :: st => (match x_at h a with
      | some (.inl (t, m, .inr (.inr (.inr (.inr f))))) => cond (x_aok h t w) (x_pk h a (.inl (t, m, .inr (.inr (.inr (.inr (va_up f i.toNatClampNeg (some w))))))) (fun h => x_br (x_in i m) (nx, ls, st, sl, h) x_dead)) none
      | _ => none)
    | _ => none)
  | .new _ => (match aux with | [ci, k] => cond (Nat.beq ci 99) none (x_nx (nx, ls, .ref h.length :: st, sl + k, h ++ [.inr (ci, x_dfl ci)])) | _ => none)
  | .newarray _ => (match st, aux with
    | .int x :: st, [t] => cond (!decide (x < 0)) (x_nx (nx, ls, .ref h.length :: st, sl + x.toNatClampNeg, h ++ [.inl (t, x.toNatClampNeg, cond (Nat.beq t 1) (.inr (.inl (fun _ => 0))) (.inl (fun _ => 0)))])) none
    | _, _ => none)
  | .anewarray _ => (match st, aux with
    | .int x :: st, [t] => cond (!decide (x < 0)) (x_nx (nx, ls, .ref h.length :: st, sl + x.toNatClampNeg, h ++ [.inl (t, x.toNatClampNeg, .inr (.inr (.inr (.inr (fun _ => none)))))])) none
    | _, _ => none)
  | .invokestatic _ => (match aux with
    | [1001, _] => cond (Nat.ble (x_cat (st.drop 5)) 8) (x_cpy nx ls st sl h) none
    | [1005, _] => (match st with | .int y :: .int x :: st => cond (Nat.ble (x_cat st) 8) (x_nx (nx, ls, .int (x_max x y) :: st, sl, h)) none | _ => none)
    | [1006, _] => (match st with | .int y :: .int x :: st => cond (Nat.ble (x_cat st) 8) (x_nx (nx, ls, .int (x_min x y) :: st, sl, h)) none | _ => none)
    | [j, k, _] => x_inv k st (some (.inr (j, (st.take k).reverse, st.drop k)))
    | _ => none)
  | .invokespecial _ => (match aux with
    | [1000, _] => (match st with | .ref _ :: st => cond (Nat.ble (x_cat st) 8) (x_nx (nx, ls, st, sl, h)) none | _ => none)
    | [j, k, c] => x_inv k st (cond (x_rcv h c ((st.take k).reverse)) (some (.inr (j, (st.take k).reverse, st.drop k))) none)
    | _ => none)
  | .invokevirtual _ => (match aux with
    | [1002, _] => (match st with | .ref a :: st => cond (x_isw a && Nat.ble (x_cat st) 8) (x_nx (nx, ls, .int (Int32.ofNat (a - 1000000)) :: st, sl, h)) none | _ => none)
    | [1003, _] => (match st with | .ref a :: st => cond (x_ist a && Nat.ble (x_cat st) 8) (x_nx (nx, ls, .int (Int32.ofNat (x_str (a - 1000200)).length) :: st, sl, h)) none | _ => none)
    | [1004, _] => (match st with | .int i :: .ref a :: st => cond (x_ist a && Nat.ble (x_cat st) 8) (x_br (x_in i (x_str (a - 1000200)).length) (nx, ls, .int ((x_str (a - 1000200)).getD i.toNatClampNeg 0) :: st, sl, h) x_dead) none | _ => none)
    | [j, k, c] => x_inv k st (cond (x_rcv h c ((st.take k).reverse)) (some (.inr (j, (st.take k).reverse, st.drop k))) none)
    | _ => none)
  | _ => none
/-- an instruction at which a method ends: a return, or the making of an exception -/
def x_trm (e : Instr) (aux : List Nat) : Bool :=
  match e with
  | .ireturn => true
  | .lreturn => true
  | .areturn => true
  | .return_ => true
  | .new _ => (match aux with | [99, _] => true | _ => false)
  | _ => false
/-- what a method that ended at e gives back (k: what it returns; 0 nothing, 1 an int, 2 a boolean, 3 a long, 4 a reference) -/
def x_ret (k : Nat) (e : Instr) (st : List Value) : Option (List Value) :=
  match k, e, st with
  | 0, .return_, [] => some []
  | 1, .ireturn, [.int v] => some [.int v]
  | 2, .ireturn, [.int v] => cond (decide (v = 0) || decide (v = 1)) (some [.int v]) none
  | 3, .lreturn, [.long v] => some [.long v]
  | 4, .areturn, [.ref v] => some [.ref v]
  | 4, .areturn, [.null] => some [.null]
  | _, _, _ => none
/-- the arguments as locals -/
def x_args : List Value → XL
  | [] => []
  | .long x :: t => some (.long x) :: none :: x_args t
  | .double x :: t => some (.double x) :: none :: x_args t
  | v :: t => some v :: x_args t
def x_pad : Nat → XL → XL
  | 0, ls => ls
  | k + 1, [] => none :: x_pad k []
  | k + 1, a :: t => a :: x_pad k t
