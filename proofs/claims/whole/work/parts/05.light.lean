/-! THE LIGHT MACHINE: the bytecode over a flat memory whose shapes are known ahead; a call's meaning as a predicate (weakest precondition with fuel) -/
abbrev lm_S : Type := (Nat → Nat → Int32) × (Nat → Nat → Option Nat) × (Nat → Nat → Int64) × Nat
abbrev lm_L : Type := List (Option Value)
abbrev lm_X : Type := Nat × (Nat → Int32)
abbrev lm_O : Type := Option Value ⊕ Nat
def lm_wr (M : Nat → Nat → Int32) (a j : Nat) (x : Int32) : Nat → Nat → Int32 := fun b => if b = a then upd (M b) j x else M b
def lm_wp (P : Nat → Nat → Option Nat) (a j : Nat) (x : Option Nat) : Nat → Nat → Option Nat := fun b => if b = a then va_up (P b) j x else P b
def lm_wg (G : Nat → Nat → Int64) (a j : Nat) (x : Int64) : Nat → Nat → Int64 := fun b => if b = a then vp_updL (G b) j x else G b
def lm_wa (M : Nat → Nat → Int32) (a : Nat) (f : Nat → Int32) : Nat → Nat → Int32 := fun b => if b = a then f else M b
/-- the kind of field k of the object at a, which is of class ci -/
def lm_ob (σ : lm_S) (a ci k : Nat) : Option Nat :=
  if a < σ.2.2.2 then (match lm_SH[a]? with
    | some (0, c, ks) => if c = ci then ks[k]? else none
    | _ => none) else none
/-- the kind and the length of the array at a -/
def lm_ar (σ : lm_S) (a : Nat) : Option (Nat × Nat) :=
  if a < σ.2.2.2 then (match lm_SH[a]? with
    | some (t + 1, n, _) => some (t, n)
    | _ => none) else none
def lm_scr : Nat := 999
def lm_sp : Nat := 1000
def lm_me (i : Nat) : lm_E := lm_el.getD i lm_e0
def lm_y (i : Nat) : MethodName := (lm_me i).1
def lm_cc (i : Nat) : ByteArray := (lm_me i).2.1
def lm_ml (i : Nat) : Nat := (lm_me i).2.2.1
def lm_rt (i : Nat) : Option FieldType := (lm_me i).2.2.2.1
def lm_hh (i : Nat) : List (Nat × Nat × Nat × Nat) := (lm_me i).2.2.2.2.1
def lm_kd (i : Nat) : Nat := (lm_me i).2.2.2.2.2.1
def lm_na (i : Nat) : Nat := (lm_me i).2.2.2.2.2.2.1
def lm_mc (i : Nat) : Nat := (lm_me i).2.2.2.2.2.2.2.1
def lm_ms (i : Nat) : Nat := (lm_me i).2.2.2.2.2.2.2.2.1
def lm_rows (i : Nat) : List lm_R := lm_rl.getD i []
def lm_row (i pc : Nat) : Option lm_R := (lm_rows i).find? (fun r => r.1 == pc)
/-- the local k's slot is free of a long's first half below it -/
def lm_nl (L : lm_L) : Nat → Bool
  | 0 => true
  | k + 1 => match L[k]? with
    | some (some (.long _)) => false
    | some (some (.double _)) => false
    | _ => true
abbrev lm_N : Type := Option (Prop × Nat × lm_L × List Value × lm_S)
def lm_put (L : lm_L) (k : Nat) (v : Value) (pc : Nat) (S : List Value) (σ : lm_S) : lm_N := if k < L.length ∧ lm_nl L k = true then some (True, pc, L.set k (some v), S, σ) else none
def lm_get (L : lm_L) (k : Nat) (t : Nat) (pc : Nat) (S : List Value) (σ : lm_S) : lm_N := match L[k]? with
  | some (some (.int x)) => if t = 0 then some (True, pc, L, .int x :: S, σ) else none
  | some (some (.ref x)) => if t = 1 then some (True, pc, L, .ref x :: S, σ) else none
  | some (some (.long x)) => if t = 2 then some (True, pc, L, .long x :: S, σ) else none
  | _ => none
def lm_bin (f : Int32 → Int32 → Int32) (pc : Nat) (L : lm_L) (S : List Value) (σ : lm_S) : lm_N := match S with
  | .int y :: .int x :: r => some (True, pc + 1, L, .int (f x y) :: r, σ)
  | _ => none
def lm_lcmp (x y : Int64) : Int32 := if x = y then 0 else if x < y then -1 else 1
/-- builtins of the JDK: 1 max, 2 min, 3 abs, 4 arraycopy (ints), 5 length, 6 charAt, 7 Object's constructor -/
def lm_bi (y : Nat) (pc : Nat) (L : lm_L) (S : List Value) (σ : lm_S) : lm_N := match y with
  | 1 => (match S with
    | .int y :: .int x :: r => some (True, pc + 3, L, .int (if x < y then y else x) :: r, σ)
    | _ => none)
  | 2 => (match S with
    | .int y :: .int x :: r => some (True, pc + 3, L, .int (if y < x then y else x) :: r, σ)
    | _ => none)
  | 3 => (match S with
    | .int x :: r => some (True, pc + 3, L, .int (if 0 ≤ x then x else 0 - x) :: r, σ)
    | _ => none)
  | 4 => (match S with
    | .int n :: .int dp :: .ref a :: .int sp :: .ref b :: r => (match lm_ar σ a, lm_ar σ b with
      | some (0, na), some (0, nb) => some ((¬ sp < 0 ∧ ¬ dp < 0 ∧ ¬ n < 0 ∧ sp.toNatClampNeg + n.toNatClampNeg ≤ nb ∧ dp.toNatClampNeg + n.toNatClampNeg ≤ na), pc + 3, L, r, (lm_wa σ.1 a (va_cpy (σ.1 b) (σ.1 a) sp.toNatClampNeg dp.toNatClampNeg n.toNatClampNeg), σ.2))
      | _, _ => none)
    | _ => none)
  | 5 => (match S with
    | .ref a :: r => if lm_sp ≤ a then (match lm_str[a - lm_sp]? with
      | some t => some (True, pc + 3, L, .int (Int32.ofNat t.length) :: r, σ)
      | none => none) else none
    | _ => none)
  | 6 => (match S with
    | .int i :: .ref a :: r => if lm_sp ≤ a then (match lm_str[a - lm_sp]? with
      | some t => some (vp_in i t.length, pc + 3, L, .int (t.getD i.toNatClampNeg 0) :: r, σ)
      | none => none) else none
    | _ => none)
  | 7 => (match S with
    | .ref _ :: r => some (True, pc + 3, L, r, σ)
    | _ => none)
  | _ => none
/-- an instruction that goes on to one next: what it asks, the next pc, locals, stack, memory -/
def lm_st (X : lm_X) (r : lm_R) (L : lm_L) (S : List Value) (σ : lm_S) : lm_N := match r with
  | (pc, i, x, y, _) => match i with
    | .iconst n => some (True, pc + 1, L, .int (Int32.ofInt n) :: S, σ)
    | .bipush n => some (True, pc + 2, L, .int (Int8.ofInt n).toInt32 :: S, σ)
    | .sipush n => some (True, pc + 3, L, .int (Int16.ofInt n).toInt32 :: S, σ)
    | .lconst n => some (True, pc + 1, L, .long (Int64.ofNat (n : Nat)) :: S, σ)
    | .ldc _ => if y = 0 then some (True, pc + 2, L, .int (Int32.ofNat x) :: S, σ) else if y = 1 then some (True, pc + 2, L, .ref x :: S, σ) else none
    | .ldc_w _ => if y = 0 then some (True, pc + 3, L, .int (Int32.ofNat x) :: S, σ) else if y = 1 then some (True, pc + 3, L, .ref x :: S, σ) else none
    | .ldc2_w _ => some (True, pc + 3, L, .long (Int64.ofNat x) :: S, σ)
    | .iload_n k => lm_get L k 0 (pc + 1) S σ
    | .iload k => lm_get L k 0 (pc + 2) S σ
    | .aload_n k => lm_get L k 1 (pc + 1) S σ
    | .aload k => lm_get L k 1 (pc + 2) S σ
    | .lload_n k => lm_get L k 2 (pc + 1) S σ
    | .lload k => lm_get L k 2 (pc + 2) S σ
    | .istore_n k => (match S with
      | .int v :: r => lm_put L k (.int v) (pc + 1) r σ
      | _ => none)
    | .istore k => (match S with
      | .int v :: r => lm_put L k (.int v) (pc + 2) r σ
      | _ => none)
    | .astore_n k => (match S with
      | .ref v :: r => lm_put L k (.ref v) (pc + 1) r σ
      | _ => none)
    | .astore k => (match S with
      | .ref v :: r => lm_put L k (.ref v) (pc + 2) r σ
      | _ => none)
    | .iinc k n => (match L[k]? with
      | some (some (.int v)) => lm_put L k (.int (v + Int32.ofInt n)) (pc + 3) S σ
      | _ => none)
    | .iadd => lm_bin (fun x y => x + y) pc L S σ
    | .isub => lm_bin (fun x y => x - y) pc L S σ
    | .imul => lm_bin (fun x y => x * y) pc L S σ
    | .iand => lm_bin (fun x y => x &&& y) pc L S σ
    | .ior => lm_bin (fun x y => x ||| y) pc L S σ
    | .ixor => lm_bin (fun x y => x ^^^ y) pc L S σ
    | .ishl => lm_bin (fun x y => x <<< (y &&& 31)) pc L S σ
    | .ishr => lm_bin (fun x y => x >>> (y &&& 31)) pc L S σ
    | .iushr => lm_bin (fun x y => (x.toUInt32 >>> (y.toUInt32 &&& Int32.toUInt32 31)).toInt32) pc L S σ
    | .idiv => (match S with
      | .int y :: .int x :: r => some (¬ y = 0, pc + 1, L, .int (x / y) :: r, σ)
      | _ => none)
    | .irem => (match S with
      | .int y :: .int x :: r => some (¬ y = 0, pc + 1, L, .int (x - x / y * y) :: r, σ)
      | _ => none)
    | .i2l => (match S with
      | .int x :: r => some (True, pc + 1, L, .long x.toInt64 :: r, σ)
      | _ => none)
    | .i2b => (match S with
      | .int x :: r => some (True, pc + 1, L, .int x.toInt8.toInt32 :: r, σ)
      | _ => none)
    | .lcmp => (match S with
      | .long y :: .long x :: r => some (True, pc + 1, L, .int (lm_lcmp x y) :: r, σ)
      | _ => none)
    | .dup => (match S with
      | v :: r => if v.category = 1 then some (True, pc + 1, L, v :: v :: r, σ) else none
      | _ => none)
    | .dup2 => (match S with
      | v :: w :: r => if v.category = 1 ∧ w.category = 1 then some (True, pc + 1, L, v :: w :: v :: w :: r, σ) else none
      | _ => none)
    | .pop => (match S with
      | v :: r => if v.category = 1 then some (True, pc + 1, L, r, σ) else none
      | _ => none)
    | .goto _ => some (True, x, L, S, σ)
    | .tableswitch dflt lo hi offs => (match S with
      | .int v :: r => if v.toInt < lo ∨ hi < v.toInt then some (True, ((pc : Int) + dflt).toNat, L, r, σ) else (match offs[(v.toInt - lo).toNat]? with
        | some off => some (True, ((pc : Int) + off).toNat, L, r, σ)
        | none => none)
      | _ => none)
    | .lookupswitch dflt ps => (match S with
      | .int v :: r => some (True, ((pc : Int) + Op.lookupswitch.offset ps.toList dflt v.toInt).toNat, L, r, σ)
      | _ => none)
    | .getfield _ => (match S with
      | .ref a :: r => (match lm_ob σ a x y with
        | some 0 => some (True, pc + 3, L, .int (σ.1 a y) :: r, σ)
        | some 1 => some (True, pc + 3, L, .int (σ.1 a y) :: r, σ)
        | some 2 => some (True, pc + 3, L, va_rf (σ.2.1 a y) :: r, σ)
        | _ => none)
      | _ => none)
    | .putfield _ => (match S with
      | .int v :: .ref a :: r => (match lm_ob σ a x y with
        | some 0 => some (True, pc + 3, L, r, (lm_wr σ.1 a y v, σ.2))
        | some 1 => some (v = 0 ∨ v = 1, pc + 3, L, r, (lm_wr σ.1 a y v, σ.2))
        | _ => none)
      | .ref v :: .ref a :: r => (match lm_ob σ a x y with
        | some 2 => some (True, pc + 3, L, r, (σ.1, lm_wp σ.2.1 a y (some v), σ.2.2))
        | _ => none)
      | _ => none)
    | .iaload => (match S with
      | .int i :: .ref a :: r => if a = lm_scr then some (vp_in i X.1, pc + 1, L, .int (X.2 i.toNatClampNeg) :: r, σ) else (match lm_ar σ a with
        | some (0, n) => some (vp_in i n, pc + 1, L, .int (σ.1 a i.toNatClampNeg) :: r, σ)
        | _ => none)
      | _ => none)
    | .baload => (match S with
      | .int i :: .ref a :: r => (match lm_ar σ a with
        | some (1, n) => some (vp_in i n, pc + 1, L, .int (σ.1 a i.toNatClampNeg) :: r, σ)
        | some (2, n) => some (vp_in i n, pc + 1, L, .int (σ.1 a i.toNatClampNeg) :: r, σ)
        | _ => none)
      | _ => none)
    | .laload => (match S with
      | .int i :: .ref a :: r => (match lm_ar σ a with
        | some (3, n) => some (vp_in i n, pc + 1, L, .long (σ.2.2.1 a i.toNatClampNeg) :: r, σ)
        | _ => none)
      | _ => none)
    | .aaload => (match S with
      | .int i :: .ref a :: r => (match lm_ar σ a with
        | some (4, n) => some (vp_in i n, pc + 1, L, va_rf (σ.2.1 a i.toNatClampNeg) :: r, σ)
        | _ => none)
      | _ => none)
    | .iastore => (match S with
      | .int v :: .int i :: .ref a :: r => (match lm_ar σ a with
        | some (0, n) => some (vp_in i n, pc + 1, L, r, (lm_wr σ.1 a i.toNatClampNeg v, σ.2))
        | _ => none)
      | _ => none)
    | .bastore => (match S with
      | .int v :: .int i :: .ref a :: r => (match lm_ar σ a with
        | some (1, n) => some (vp_in i n, pc + 1, L, r, (lm_wr σ.1 a i.toNatClampNeg (vp_nar .byte v), σ.2))
        | some (2, n) => some (vp_in i n, pc + 1, L, r, (lm_wr σ.1 a i.toNatClampNeg (vp_nar .boolean v), σ.2))
        | _ => none)
      | _ => none)
    | .lastore => (match S with
      | .long v :: .int i :: .ref a :: r => (match lm_ar σ a with
        | some (3, n) => some (vp_in i n, pc + 1, L, r, (σ.1, σ.2.1, lm_wg σ.2.2.1 a i.toNatClampNeg v, σ.2.2.2))
        | _ => none)
      | _ => none)
    | .aastore => (match S with
      | .ref v :: .int i :: .ref a :: r => if lm_sp ≤ v ∧ v - lm_sp < lm_str.length then (match lm_ar σ a with
        | some (4, n) => some (vp_in i n, pc + 1, L, r, (σ.1, lm_wp σ.2.1 a i.toNatClampNeg (some v), σ.2.2))
        | _ => none) else none
      | _ => none)
    | .arraylength => (match S with
      | .ref a :: r => if a = lm_scr then some (True, pc + 1, L, .int (Int32.ofNat X.1) :: r, σ) else (match lm_ar σ a with
        | some (_, n) => some (True, pc + 1, L, .int (Int32.ofNat n) :: r, σ)
        | _ => none)
      | _ => none)
    | .invokestatic _ => lm_bi y pc L S σ
    | .invokevirtual _ => lm_bi y pc L S σ
    | .invokespecial _ => lm_bi y pc L S σ
    | _ => none
/-- a branch: its condition, where to if it holds, the stack -/
def lm_br (r : lm_R) (S : List Value) : Option (Prop × Nat × List Value) := match r with
  | (_, i, x, _, _) => match i with
    | .ifCond c _ => (match S with
      | .int v :: r => some ((match c with
        | .eq => v = 0
        | .ne => ¬ v = 0
        | .lt => v < 0
        | .ge => 0 ≤ v
        | .gt => 0 < v
        | .le => v ≤ 0), x, r)
      | _ => none)
    | .if_icmp c _ => (match S with
      | .int w :: .int v :: r => some ((match c with
        | .eq => v = w
        | .ne => ¬ v = w
        | .lt => v < w
        | .ge => w ≤ v
        | .gt => w < v
        | .le => v ≤ w), x, r)
      | _ => none)
    | _ => none
def lm_0 (σ : lm_S) : lm_S := ((fun b => if b = σ.2.2.2 then (fun _ => 0) else σ.1 b), (fun b => if b = σ.2.2.2 then (fun _ => none) else σ.2.1 b), (fun b => if b = σ.2.2.2 then (fun _ => 0) else σ.2.2.1 b), σ.2.2.2 + 1)
def lm_aty : ArrayType → Option Nat
  | .int => some 0
  | .byte => some 1
  | .boolean => some 2
  | .long => some 3
  | _ => none
/-- what is made: its slots, the next pc, the stack -/
def lm_al (r : lm_R) (S : List Value) (σ : lm_S) : Option (Nat × Nat × List Value × lm_S) := match r with
  | (pc, i, x, y, _) => match i with
    | .new _ => if y = 0 then (match lm_SH[σ.2.2.2]? with
      | some (0, c, ks) => if c = x then some (ks.length, pc + 3, .ref σ.2.2.2 :: S, lm_0 σ) else none
      | _ => none) else none
    | .newarray t => (match S with
      | .int n :: r => (match lm_SH[σ.2.2.2]? with
        | some (k + 1, len, _) => if n = Int32.ofNat len ∧ len < 100000 ∧ lm_aty t = some k then some (len, pc + 2, .ref σ.2.2.2 :: r, lm_0 σ) else none
        | _ => none)
      | _ => none)
    | .anewarray _ => (match S with
      | .int n :: r => (match lm_SH[σ.2.2.2]? with
        | some (5, len, _) => if n = Int32.ofNat len ∧ len < 100000 then some (len, pc + 3, .ref σ.2.2.2 :: r, lm_0 σ) else none
        | _ => none)
      | _ => none)
    | _ => none
/-- a call of one of the table's methods: which, the arguments (the receiver first), the rest of the stack -/
def lm_ca (r : lm_R) (S : List Value) : Option (Nat × List Value × List Value) := match r with
  | (_, i, x, y, _) => match i with
    | .invokestatic _ => if y = 0 ∧ lm_na x ≤ S.length then some (x, (S.take (lm_na x)).reverse, S.drop (lm_na x)) else none
    | .invokevirtual _ => if y = 0 ∧ lm_na x + 1 ≤ S.length then some (x, (S.take (lm_na x + 1)).reverse, S.drop (lm_na x + 1)) else none
    | .invokespecial _ => if (y = 0 ∨ y = 8) ∧ lm_na x + 1 ≤ S.length then some (x, (S.take (lm_na x + 1)).reverse, S.drop (lm_na x + 1)) else none
    | _ => none
/-- the locals at a method's entry -/
def lm_ls : List Value → lm_L
  | [] => []
  | v :: vs => if v.category = 2 then some v :: none :: lm_ls vs else some v :: lm_ls vs
def lm_en (i : Nat) (as : List Value) : lm_L := lm_ls as ++ List.replicate (lm_ml i - (lm_ls as).length) none
/-- the exceptions' classes -/
def lm_xn : Nat → String
  | 0 => "java/util/NoSuchElementException"
  | _ => "java/lang/IllegalArgumentException"
/-- a handler: the pc behind its store, the local that it stores into -/
def lm_ha (i pc e : Nat) : Option (Nat × Nat) := match (lm_hh i).find? (fun h => decide (h.1 ≤ pc ∧ pc < h.2.1) && decide (h.2.2.2 = (if e = 0 then 18 else 13))) with
  | some h => (match lm_row i h.2.2.1 with
    | some (pc', .astore_n k, _, _, _) => some (pc' + 1, k)
    | some (pc', .astore k, _, _, _) => some (pc' + 2, k)
    | _ => none)
  | none => none
/-- a return -/
def lm_rn (i : Nat) (r : lm_R) (S : List Value) : Option (Prop × Option Value) := match r.2.1 with
  | .ireturn => (match S with
    | [.int v] => (match lm_rt i with
      | some .int => some (True, some (.int v))
      | some .boolean => some (v = 0 ∨ v = 1, some (.int v))
      | _ => none)
    | _ => none)
  | .return_ => (match S with
    | [] => if lm_rt i = none then some (True, none) else none
    | _ => none)
  | _ => none
/-- 'throw new E()' -/
def lm_th (r : lm_R) : Option Nat := match r with
  | (_, i, x, y, _) => match i with
    | .new _ => if y = 1 then some x else none
    | _ => none
