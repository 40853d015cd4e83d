/-! WHAT MAKES A TABLE OF OPS THE CODE'S OWN: a program's check, decided by the kernel. -/
abbrev a_G : List Cond := lw_tbl.filter goodWord
/-- the word w stands at the place i of the tables, and is kept -/
def a_lk (i : Nat) (w : Cond) : Bool := decide (lw_tbl[i]? = some w) && goodWord w
def a_tg (d : String) : Nat := if d = "I" then 0 else if d = "Z" then 1 else if d = "J" then 2 else 3
def a_rt (r : Option FieldType) : Nat := match r with
  | none => 0
  | some .int => 1
  | some .boolean => 1
  | some .long => 2
  | _ => 9
def a_at (ops : List A_O) (n : Nat) : Option Nat := match ops.drop n with
  | o :: _ => some o.1
  | [] => none
def a_jm (all r : List A_O) (pc : Nat) (off : Int) (aux : List Nat) : Bool := match aux with
  | [0, n] => (match a_at r n with
    | some t => decide ((pc : Int) + off = (t : Int))
    | none => false)
  | [1, n] => (match a_at all n with
    | some t => decide ((pc : Int) + off = (t : Int))
    | none => false)
  | _ => false
/-- the words of nest mates -/
def a_fl (nw : List Cond) (own : String) (i : Nat) (aux : List Nat) : Bool := match aux with
  | [ci, k, t, md, wi] => (match a_cl[ci]? with
    | some (_, T, N) => Nat.blt k N && decide (t = a_tg (T k).2.2.1) && (if md = 0 then a_lk wi (.fieldLink own i (T k).1 (T k).2.1 (T k).2.2.1) else decide (nw[wi]? = some (.fieldLinkNest own i (T k).1 (T k).2.1 (T k).2.2.1 "EndingMarket")))
    | none => false)
  | _ => false
def a_fn (own nm : String) (aux : List Nat) : Bool := match aux with
  | [ci, k, _, md, _] => (match a_cl[ci]? with
    | some (_, T, _) => (!(T k).2.2.2) || (decide (nm = "<init>") && decide ((T k).1 = own) && decide (md = 0))
    | none => false)
  | _ => false
def a_ml (nw : List Cond) (own : String) (i md wl : Nat) (y : MethodName) : Bool := if md = 0 then a_lk wl (.methodLink own i y) else decide (nw[wl]? = some (.methodLinkNest own i y "EndingMarket"))
def a_pn (y : MethodName) (n : Nat) : Bool := decide (y.cls ≠ "java/lang/invoke/MethodHandle") && decide (y.cls ≠ "java/lang/invoke/VarHandle") && decide ((parseMethodDescriptor y.desc).map (fun d => d.parameters.length) = some n)
/-- names, locals, answers of all methods -/
abbrev A_N : Type := List (MethodName × Nat × Option FieldType)
def a_cv (nw : List Cond) (tn : A_N) (own : String) (i : Nat) (v : Nat) (aux : List Nat) : Bool := match aux with
  | [0, y, n, t, md, wl, ws, wi] => decide (v = 0) && (match tn[y]? with
    | some (z, _, r) => a_ml nw own i md wl z && a_lk ws (.static z) && a_lk wi (.initialized z.cls) && a_pn z n && decide (a_rt r = t)
    | none => false)
  | [1, y, n, t, ci, md, wl, w1, w2, wi] => decide (v = 1) && (match tn[y]?, a_cl[ci]? with
    | some (z, _, r), some (C, _, _) => decide (z.cls = C) && a_ml nw own i md wl z && a_lk w1 (.instanceMethod z) && a_lk w2 (.selects C z z) && a_lk wi (.initialized z.cls) && a_pn z n && decide (a_rt r = t)
    | _, _ => false)
  | [2, y, n, md, wl, w1, wi] => decide (v = 2) && (match tn[y]? with
    | some (z, _, r) => a_ml nw own i md wl z && a_lk w1 (.instanceMethod z) && a_lk wi (.initialized z.cls) && a_pn z n && decide (z.name = "<init>") && decide (r = none)
    | none => false)
  | [3, wl, w1, w2] => decide (v = 2) && a_lk wl (.methodLink own i Lib.objectInit) && a_lk w1 (.instanceMethod Lib.objectInit) && a_lk w2 (.code Lib.objectInit ⟨#[0xb1]⟩ 1 none)
  | [4, wl, w1, w2, wi] => decide (v = 0) && a_lk wl (.methodLink own i arraycopyName) && a_lk w1 (.native arraycopyName) && a_lk w2 (.static arraycopyName) && a_lk wi (.initialized "java/lang/System")
  | [5, wl, w1, w2, wi] => decide (v = 0) && a_lk wl (.methodLink own i arraycopyName) && a_lk w1 (.native arraycopyName) && a_lk w2 (.static arraycopyName) && a_lk wi (.initialized "java/lang/System")
  | [8, wl, w1, wi, wc] => decide (v = 0) && a_lk wl (.methodLink own i Lib.Math.min.name) && a_lk w1 (.static Lib.Math.min.name) && a_lk wi (.initialized "java/lang/Math") && a_lk wc (.code Lib.Math.min.name Lib.Math.min.code 2 (some .int))
  | [9, wl, w1, wi, wc] => decide (v = 0) && a_lk wl (.methodLink own i Lib.Math.max.name) && a_lk w1 (.static Lib.Math.max.name) && a_lk wi (.initialized "java/lang/Math") && a_lk wc (.code Lib.Math.max.name Lib.Math.max.code 2 (some .int))
  | [6] => decide (v = 1) && decide (own = "EndingMarket$Tape") && decide (i = 53)
  | [7] => decide (v = 1) && decide (own = "EndingMarket$Tape") && decide (i = 59)
  | [77] => true
  | _ => false
def a_c1 (nw : List Cond) (tn : A_N) (own nm : String) (rz : Nat) (all r : List A_O) (pc : Nat) (i : Instr) (aux : List Nat) : Bool := match i with
  | .goto off => a_jm all r pc off aux
  | .iconst n => (match aux with
    | [q] => decide (Int32.ofInt n = nI q)
    | _ => false)
  | .bipush n => (match aux with
    | [q] => decide ((Int8.ofInt n).toInt32 = nI q)
    | _ => false)
  | .sipush n => (match aux with
    | [q] => decide ((Int16.ofInt n).toInt32 = nI q)
    | _ => false)
  | .iinc _ n => (match aux with
    | [q] => decide (Int32.ofInt n = nI q)
    | _ => false)
  | .lconst n => (match aux with
    | [q] => decide (Int64.ofNat n = lN q)
    | _ => false)
  | .ifCond _ off => a_jm all r pc off aux
  | .if_icmp _ off => a_jm all r pc off aux
  | .tableswitch df lo hi offs => (match aux with
    | d :: sk => a_jm all r pc df [0, d] && decide (sk.length = offs.size) && decide (hi + 1 = lo + (sk.length : Int)) && (List.range sk.length).all (fun j => (match sk[j]?, offs[j]? with
      | some n, some off => a_jm all r pc off [0, n]
      | _, _ => false))
    | _ => false)
  | .getfield k => a_fl nw own k aux
  | .putfield k => a_fl nw own k aux && a_fn own nm aux
  | .ldc k => (match aux with
    | [0, n, w] => a_lk w (.constant own k (Int32.ofNat n))
    | [1] => decide (own = "EndingMarket$Tape") && decide (k = 51)
    | [77] => true
    | _ => false)
  | .ldc_w k => (match aux with
    | [0, n, w] => a_lk w (.constant own k (Int32.ofNat n))
    | _ => false)
  | .ldc2_w k => (match aux with
    | [n, w] => a_lk w (.constantLong own k (Int64.ofNat n))
    | _ => false)
  | .new k => (match aux with
    | [0, c, n, w1, w2, w3] => (match a_cl[c]? with
      | some (C, _, N) => decide (n = N) && a_lk w1 (.classLink own k C) && a_lk w2 (.instantiable C N) && a_lk w3 (.initialized C)
      | none => false)
    | [1, _, _] => true
    | _ => false)
  | .newarray ty => (match aux with
    | [w] => a_lk w (.arrayClass (newarray.typeOf ty))
    | _ => false)
  | .anewarray k => (match aux with
    | [104, w] => a_lk w (.classLink own k "EndingMarket$Affairs")
    | [105, w] => a_lk w (.classLink own k "EndingMarket$Image")
    | _ => false)
  | .invokevirtual k => a_cv nw tn own k 1 aux
  | .invokestatic k => a_cv nw tn own k 0 aux
  | .invokespecial k => a_cv nw tn own k 2 aux
  | .ireturn => decide (aux = [rz]) && Nat.ble rz 1
  | .return_ => decide (rz = 2)
  | _ => true
def a_len (i : Instr) : Nat := match i with
  | .aload _ | .iload _ | .lload _ | .astore _ | .istore _ | .lstore _ | .bipush _ | .ldc _ | .newarray _ => 2
  | .iinc _ _ | .sipush _ | .ldc_w _ | .ldc2_w _ | .goto _ | .ifCond _ _ | .if_icmp _ _ | .getfield _ | .putfield _ | .new _ | .anewarray _ | .invokevirtual _ | .invokestatic _ | .invokespecial _ => 3
  | _ => 1
def a_lo1 (i : Instr) (len : Nat) : Bool := match i with
  | .tableswitch _ _ _ _ => true
  | i => decide (len = a_len i)
def a_co (nw : List Cond) (tn : A_N) (own nm : String) (rz : Nat) (bytes : ByteArray) (all : List A_O) : List A_O → Bool
  | [] => true
  | o :: r => (match decode bytes o.1 with
    | .ok (j, len) => decide (j = o.2.1) && a_lo1 j len && (match r with
      | [] => true
      | o2 :: _ => decide (o2.1 = o.1 + len))
    | _ => false) && a_c1 nw tn own nm rz all r o.1 o.2.1 o.2.2 && a_co nw tn own nm rz bytes all r
def a_rz (r : Option FieldType) : Nat := match r with
  | none => 2
  | some .boolean => 1
  | some .int => 0
  | _ => 3
def a_cm (nw : List Cond) (tn : A_N) (y : Nat) (m : A_M) (wc wi : Nat) : Bool :=
  decide (tn[y]? = some (m.1, m.2.2.1, m.2.2.2.1)) && plainName m.1.cls && a_lk wc (.code m.1 m.2.1 m.2.2.1 m.2.2.2.1) && a_lk wi (.initialized m.1.cls) && Nat.ble m.2.2.1 40 && decide (a_rt m.2.2.2.1 < 9) && decide (a_at m.2.2.2.2 0 = some 0) && a_co nw tn m.1.cls m.1.name (a_rz m.2.2.2.1) m.2.1 m.2.2.2.2 m.2.2.2.2
