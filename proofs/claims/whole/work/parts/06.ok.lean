/-! what the tables must be: decidable, by rows -/
def lm_wd (w : Nat) (c : Cond) : Bool := decide (lw_tbl[w]? = some c) && goodWord c
def lm_len : Instr → Nat
  | .iconst _ | .lconst _ | .iload_n _ | .aload_n _ | .lload_n _ | .istore_n _ | .astore_n _ => 1
  | .iadd | .isub | .imul | .iand | .ior | .ixor | .ishl | .ishr | .iushr | .idiv | .irem | .i2l | .i2b | .lcmp | .dup | .dup2 | .pop => 1
  | .iaload | .baload | .laload | .aaload | .iastore | .bastore | .lastore | .aastore | .arraylength | .ireturn | .return_ | .athrow => 1
  | .bipush _ | .ldc _ | .iload _ | .aload _ | .lload _ | .istore _ | .astore _ | .newarray _ => 2
  | .sipush _ | .ldc_w _ | .ldc2_w _ | .iinc _ _ | .goto _ | .ifCond _ _ | .if_icmp _ _ | .getfield _ | .putfield _ | .invokestatic _ | .invokevirtual _ | .invokespecial _ | .new _ | .anewarray _ => 3
  | _ => 0
def lm_dec (cc : ByteArray) (pc : Nat) (i : Instr) : Bool := match i with
  | .tableswitch d lo hi offs => (match decode cc pc with
    | .ok (j, _) => decide (j = .tableswitch d lo hi offs)
    | _ => false) && decide (0 ≤ (pc : Int) + d) && offs.toList.all (fun o => decide (0 ≤ (pc : Int) + o))
  | .lookupswitch d ps => (match decode cc pc with
    | .ok (j, _) => decide (j = .lookupswitch d ps)
    | _ => false) && decide (0 ≤ (pc : Int) + d) && ps.toList.all (fun o => decide (0 ≤ (pc : Int) + o.2)) && (ps.toList.zip (ps.toList.drop 1)).all (fun (a, next) => a.1 < next.1)
  | i => decide (decode cc pc = .ok (i, lm_len i))
/-- the class and the field x, y; its link is the word w -/
def lm_fok (own : String) (idx x y w : Nat) (nm : String) (put : Bool) : Bool := match vwCl[x]? with
  | some (_, T, N) => decide (y < N) && lm_wd w (.fieldLink own idx (T y).1 (T y).2.1 (T y).2.2.1) && (!put || !(T y).2.2.2 || (decide (nm = "<init>") && decide ((T y).1 = own)))
  | none => false
def lm_bok (own : String) (idx y w : Nat) (st : Nat) : Bool := match y with
  | 1 => decide (st = 1) && lm_wd w (.methodLink own idx Lib.Math.max.name)
  | 2 => decide (st = 1) && lm_wd w (.methodLink own idx Lib.Math.min.name)
  | 3 => decide (st = 1) && lm_wd w (.methodLink own idx Lib.Math.abs.name)
  | 4 => decide (st = 1) && lm_wd w (.methodLink own idx arraycopyName)
  | 5 => decide (st = 0) && lm_wd w (.methodLink own idx yJ0_length_8abf5)
  | 6 => decide (st = 0) && lm_wd w (.methodLink own idx yJ0_charAt_5068e)
  | 7 => decide (st = 2) && lm_wd w (.methodLink own idx objectInit)
  | _ => false
def lm_cok (own : String) (idx x y w st : Nat) : Bool :=
  if y = 0 then decide (x < lm_el.length - 1) && decide (lm_kd x = st) && lm_wd w (.methodLink own idx (lm_y x))
  else if y = 8 then decide (x < lm_el.length - 1) && decide (st = 2) && decide (lm_kd x = st) && decide (lw_tbl[w]? = some (.methodLinkNest own idx (lm_y x) "HummedTunes"))
  else if y = 9 then true
  else lm_bok own idx y w st
def lm_rok (e : lm_E) (r : lm_R) : Bool := match r with
  | (pc, i, x, y, w) => lm_dec e.2.1 pc i && (match i with
    | .ldc idx => if y = 0 then lm_wd w (.constant e.1.cls idx (Int32.ofNat x)) else decide (lw_tbl[w]? = some (.stringRef e.1.cls idx (lm_txt.getD (x - lm_sp) ""))) && decide (lm_sp ≤ x) && decide (x - lm_sp < lm_str.length)
    | .ldc_w idx => if y = 0 then lm_wd w (.constant e.1.cls idx (Int32.ofNat x)) else decide (lw_tbl[w]? = some (.stringRef e.1.cls idx (lm_txt.getD (x - lm_sp) ""))) && decide (lm_sp ≤ x) && decide (x - lm_sp < lm_str.length)
    | .ldc2_w idx => lm_wd w (.constantLong e.1.cls idx (Int64.ofNat x))
    | .getfield idx => lm_fok e.1.cls idx x y w e.1.name false
    | .putfield idx => lm_fok e.1.cls idx x y w e.1.name true
    | .goto o => decide ((pc : Int) + o = (x : Int))
    | .ifCond _ o => decide ((pc : Int) + o = (x : Int))
    | .if_icmp _ o => decide ((pc : Int) + o = (x : Int))
    | .invokevirtual idx => lm_cok e.1.cls idx x y w 0
    | .invokestatic idx => lm_cok e.1.cls idx x y w 1
    | .invokespecial idx => lm_cok e.1.cls idx x y w 2
    | .new idx => if y = 0 then (match vwCl[x]? with
      | some (C, _, _) => lm_wd w (.classLink e.1.cls idx C)
      | none => false) else lm_wd w (.classLink e.1.cls idx (lm_xn x)) && decide (e.1.cls = "HummedTunes") && decide (x < 2) && decide (decode e.2.1 (pc + 3) = .ok (.dup, 1)) && decide (decode e.2.1 (pc + 4) = .ok (.invokespecial (if x = 0 then 346 else 349), 3)) && decide (decode e.2.1 (pc + 7) = .ok (.athrow, 1)) && decide (e.2.2.2.2.1 = [])
    | .anewarray idx => lm_wd w (.classLink e.1.cls idx "java/lang/String")
    | _ => true)
/-- the word of a method's code -/
def lm_cw (e : lm_E) : Cond := if e.2.2.2.2.1 = [] then .code e.1 e.2.1 e.2.2.1 e.2.2.2.1 else .codeWith e.1 e.2.1 e.2.2.1 e.2.2.2.1 e.2.2.2.2.1
def lm_mok (e : lm_E) : Bool := match e with
  | (y, _, ml, rt, hh, kd, na, _, _, _, wi, ws, wn) =>
    plainName y.cls && decide (y.cls ≠ "java/lang/invoke/MethodHandle") && decide (y.cls ≠ "java/lang/invoke/VarHandle") && decide ((parseMethodDescriptor y.desc).map (fun d => d.parameters.length) = some na) && decide (ml ≤ 30) && (decide (rt = none) || decide (rt = some .int) || decide (rt = some .boolean)) &&
    lm_wd wn (.initialized y.cls) && (decide (hh = []) || decide (kd = 1)) && (match kd with
      | 0 => lm_wd wi (.instanceMethod y) && lm_wd ws (.selects y.cls y y)
      | 1 => lm_wd wi (.static y)
      | _ => lm_wd wi (.instanceMethod y) && decide (y.name = "<init>") && decide (rt = none))
def lm_ck (q : lm_E × List lm_R) : Prop := lw_tbl[q.1.2.2.2.2.2.2.2.2.2.1]? = some (lm_cw q.1) ∧ goodWord (lm_cw q.1) = true ∧ lm_mok q.1 = true ∧ q.2.all (lm_rok q.1) = true
