/-! THE ABSTRACT MACHINE: a pure machine over decoded code. A reference is the number of a cell; .retAddr 0 is an unset local, .retAddr 1 the script, .retAddr 2 a constant text; a call that throws answers .retAddr 0. -/
abbrev A_C : Type := Nat × Nat × List (Option Nat)
/-- cells (kind, length, references), ints, longs, how many cells and slots were made, whether cells may no more be made -/
abbrev A_H : Type := List A_C × (Nat → Nat → Int32) × (Nat → Nat → Int64) × (Nat × Nat) × Bool
abbrev A_R : Type := Option (A_H × Option Value)
def a_kd (h : A_H) (a : Nat) : Nat := match h.1[a]? with
  | some c => c.1
  | none => 999
def a_ln (h : A_H) (a : Nat) : Nat := match h.1[a]? with
  | some c => c.2.1
  | none => 0
def a_rf (h : A_H) (a k : Nat) : Option Nat := match h.1[a]? with
  | some c => (match c.2.2[k]? with
    | some r => r
    | none => none)
  | none => none
/-- how many places for references a cell has -/
def a_rl (h : A_H) (a : Nat) : Nat := match h.1[a]? with
  | some c => c.2.2.length
  | none => 0
def a_iv (h : A_H) (a k : Nat) : Int32 := h.2.1 a k
def a_jv (h : A_H) (a k : Nat) : Int64 := h.2.2.1 a k
def a_sI (h : A_H) (a k : Nat) (x : Int32) : A_H := (h.1, va_up h.2.1 a (upd (h.2.1 a) k x), h.2.2)
def a_sJ (h : A_H) (a k : Nat) (x : Int64) : A_H := (h.1, h.2.1, va_up h.2.2.1 a (vp_updL (h.2.2.1 a) k x), h.2.2.2)
/-- a whole row of ints, of longs -/
def a_rI (h : A_H) (a : Nat) (f : Nat → Int32) : A_H := (h.1, va_up h.2.1 a f, h.2.2)
def a_rJ (h : A_H) (a : Nat) (f : Nat → Int64) : A_H := (h.1, h.2.1, va_up h.2.2.1 a f, h.2.2.2)
def a_sR (h : A_H) (a k r : Nat) : A_H := (h.1.set a (a_kd h a, a_ln h a, (match h.1[a]? with
  | some c => c.2.2.set k (some r)
  | none => [])), h.2)
/-- a new cell -/
def a_mk (h : A_H) (c : A_C) (w : Nat) : A_H := (h.1 ++ [c], va_up h.2.1 h.1.length (fun _ => 0), va_up h.2.2.1 h.1.length (fun _ => 0), (h.2.2.2.1.1 + 1, h.2.2.2.1.2 + w), h.2.2.2.2)
/-- a heap gets a name -/
def a_hl (h : A_H) (f : A_H → A_R) : A_R := f h
def a_in (i : Int32) (n : Nat) : Bool := decide (0 ≤ i.toInt) && decide (i.toInt < (n : Int))
def a_if (b : Bool) (r : A_R) : A_R := match b with
  | true => r
  | false => none
def a_li (L : List Value) (n : Nat) (f : Int32 → A_R) : A_R := match L[n]? with
  | some (.int x) => f x
  | _ => none
def a_ll (L : List Value) (n : Nat) (f : Int64 → A_R) : A_R := match L[n]? with
  | some (.long x) => f x
  | _ => none
def a_la (L : List Value) (n : Nat) (f : Value → A_R) : A_R := match L[n]? with
  | some (.ref a) => f (.ref a)
  | some (.retAddr 1) => f (.retAddr 1)
  | _ => none
def a_nl (L : List Value) (n : Nat) : Bool := match n with
  | 0 => true
  | n + 1 => (match L[n]? with
    | some (.long _) => false
    | some (.double _) => false
    | _ => true)
def a_s1 (L : List Value) (n : Nat) (v : Value) (f : List Value → A_R) : A_R := a_if (Nat.blt n L.length && a_nl L n) (f (L.set n v))
def a_s2 (L : List Value) (n : Nat) (v : Value) (f : List Value → A_R) : A_R := a_if (Nat.blt (n + 1) L.length && a_nl L n) (f ((L.set n v).set (n + 1) (.retAddr 0)))
def a_pi (S : List Value) (f : Int32 → List Value → A_R) : A_R := match S with
  | .int x :: S => f x S
  | _ => none
def a_pl (S : List Value) (f : Int64 → List Value → A_R) : A_R := match S with
  | .long x :: S => f x S
  | _ => none
def a_pa (S : List Value) (f : Nat → List Value → A_R) : A_R := match S with
  | .ref x :: S => f x S
  | _ => none
def a_jp (ag : Nat → List Value → A_H → A_R) (k : Nat → List Value → List Value → A_H → A_R) (aux : List Nat) (L S : List Value) (h : A_H) : A_R := match aux with
  | [0, n] => k n L S h
  | [1, t] => (match S with
    | [] => ag t L h
    | _ => none)
  | _ => none
def a_fo {α : Type} (o : Option α) (f : α → A_R) : A_R := match o with
  | some x => f x
  | none => none
/-- behind a call: what came back, by the kind that is due (0 nothing, 1 an int, 2 a long) -/
def a_b0 (r : A_R) (f : A_H → A_R) : A_R := match r with
  | some (h, none) => f h
  | _ => none
def a_b1 (r : A_R) (f : Int32 → A_H → A_R) : A_R := match r with
  | some (h, some (.int x)) => f x h
  | _ => none
def a_b2 (r : A_R) (f : Int64 → A_H → A_R) : A_R := match r with
  | some (h, some (.long x)) => f x h
  | _ => none
def a_bk (t : Nat) (r : A_R) (f : Option Value → A_H → A_R) : A_R := match t with
  | 0 => a_b0 r fun h => f none h
  | 1 => a_b1 r fun x h => f (some (.int x)) h
  | 2 => a_b2 r fun x h => f (some (.long x)) h
  | _ => none
def a_wd (S : List Value) : Nat := (S.map fun v => v.category).sum
def a_ts (lo : Int) (x : Int32) (rs : List A_R) (d : A_R) : A_R := if x.toInt < lo then d else (match rs[(x.toInt - lo).toNat]? with
  | some r => r
  | none => d)
/-- the cell a is of the kind c -/
def a_kc (h : A_H) (a c : Nat) (r : A_R) : A_R := if a_kd h a = c then r else none
/-- the place i is in the row a -/
def a_ix (h : A_H) (a : Nat) (i : Int32) (r : A_R) : A_R := a_if (a_in i (a_ln h a)) r
def a_ok (h : A_H) : Bool := !h.2.2.2.2 && Nat.beq h.1.length h.2.2.2.1.1
/-- a call that threw: its cells, and no more are made for the world -/
def a_th (h : A_H) (mc ms : Nat) : A_H := (h.1, h.2.1, h.2.2.1, (h.2.2.2.1.1 + mc, h.2.2.2.1.2 + ms), true)
def a_cp (h : A_H) (a : Nat) (sp : Int32) (b : Nat) (dp n : Int32) (r : A_H → A_R) : A_R :=
  a_if (decide (0 ≤ sp.toInt) && decide (0 ≤ dp.toInt) && decide (0 ≤ n.toInt) && Nat.ble (sp.toNatClampNeg + n.toNatClampNeg) (a_ln h a) && Nat.ble (dp.toNatClampNeg + n.toNatClampNeg) (a_ln h b)) (r (a_rI h b (va_cpy (h.2.1 a) (h.2.1 b) sp.toNatClampNeg dp.toNatClampNeg n.toNatClampNeg)))
def a_cj (h : A_H) (a : Nat) (sp : Int32) (b : Nat) (dp n : Int32) (r : A_H → A_R) : A_R :=
  a_if (decide (0 ≤ sp.toInt) && decide (0 ≤ dp.toInt) && decide (0 ≤ n.toInt) && Nat.ble (sp.toNatClampNeg + n.toNatClampNeg) (a_ln h a) && Nat.ble (dp.toNatClampNeg + n.toNatClampNeg) (a_ln h b)) (r (a_rJ h b (va_cpy (h.2.2.1 a) (h.2.2.1 b) sp.toNatClampNeg dp.toNatClampNeg n.toNatClampNeg)))
def a_min (x y : Int32) : Int32 := if y < x then y else x
def a_max (x y : Int32) : Int32 := if x < y then y else x
def a_iw (M : Nat → List Value → A_H → A_R) (k : Nat → List Value → List Value → A_H → A_R) (tx : List Int32) (aux : List Nat) (L S : List Value) (h : A_H) : A_R := match aux with
  | 0 :: y :: n :: t :: _ => a_if (Nat.ble n S.length && Nat.ble (a_wd (S.drop n)) 8) (a_bk t (M y (S.take n).reverse h) fun v h => k 0 L (v.toList ++ S.drop n) h)
  | 1 :: y :: n :: t :: ci :: _ => (match S.drop n with
    | .ref a :: S1 => a_if (Nat.ble (a_wd S1) 8) (a_kc h a ci (a_bk t (M y (.ref a :: (S.take n).reverse) h) fun v h => k 0 L (v.toList ++ S1) h))
    | _ => none)
  | 2 :: y :: n :: _ => (match S.drop n with
    | .ref a :: S1 => a_if (Nat.ble (a_wd S1) 8) (a_bk 0 (M y (.ref a :: (S.take n).reverse) h) fun _ h => k 0 L S1 h)
    | _ => none)
  | 3 :: _ => a_pa S fun _ S => a_if (Nat.ble (a_wd S) 8) (k 0 L S h)
  | 4 :: _ => (match S with
    | .int n :: .int dp :: .ref b :: .int sp :: .ref a :: S1 => a_if (Nat.ble (a_wd S1) 8) (a_kc h a 100 (a_kc h b 100 (a_cp h a sp b dp n fun h => k 0 L S1 h)))
    | _ => none)
  | 5 :: _ => (match S with
    | .int n :: .int dp :: .ref b :: .int sp :: .ref a :: S1 => a_if (Nat.ble (a_wd S1) 8) (a_kc h a 101 (a_kc h b 101 (a_cj h a sp b dp n fun h => k 0 L S1 h)))
    | _ => none)
  | 8 :: _ => a_pi S fun y S => a_pi S fun x S => a_if (Nat.ble (a_wd S) 8) (k 0 L (.int (a_min x y) :: S) h)
  | 9 :: _ => a_pi S fun y S => a_pi S fun x S => a_if (Nat.ble (a_wd S) 8) (k 0 L (.int (a_max x y) :: S) h)
  | 6 :: _ => (match S with
    | .retAddr 2 :: S1 => a_if (Nat.ble (a_wd S1) 8) (k 0 L (.int (Int32.ofNat tx.length) :: S1) h)
    | _ => none)
  | 7 :: _ => (match S with
    | .int i :: .retAddr 2 :: S1 => a_if (Nat.ble (a_wd S1) 8) (a_fo (if a_in i tx.length = true then tx[i.toNatClampNeg]? else none) fun x => k 0 L (.int x :: S1) h)
    | _ => none)
  | _ => none
/-- how long the script is; a number beyond 4000: no script -/
def a_xn (X : Nat × (Nat → Int32)) : Nat := if X.1 < 4000 then X.1 else 0
def a_al (X : Nat × (Nat → Int32)) (S : List Value) (h : A_H) (k : Value → List Value → A_R) : A_R := match S with
  | .int i :: .ref a :: S => a_kc h a 100 (a_ix h a i (k (.int (a_iv h a i.toNatClampNeg)) S))
  | .int i :: .retAddr 1 :: S => a_if (a_in i (a_xn X)) (k (.int (X.2 i.toNatClampNeg)) S)
  | _ => none
def a_an (X : Nat × (Nat → Int32)) (S : List Value) (h : A_H) (k : Value → List Value → A_R) : A_R := match S with
  | .ref a :: S => a_kc h a 100 (k (.int (nI (a_ln h a))) S)
  | .retAddr 1 :: S => a_if (Nat.blt X.1 4000) (k (.int (nI X.1)) S)
  | _ => none
/-- bytes and booleans -/
def a_bl (S : List Value) (h : A_H) (k : Value → List Value → A_R) : A_R := match S with
  | .int i :: .ref a :: S => if a_kd h a = 102 ∨ a_kd h a = 103 then a_ix h a i (k (.int (a_iv h a i.toNatClampNeg)) S) else none
  | _ => none
def a_bs (S : List Value) (h : A_H) (k : List Value → A_H → A_R) : A_R := match S with
  | .int x :: .int i :: .ref a :: S => if a_kd h a = 102 then a_ix h a i (a_hl (a_sI h a i.toNatClampNeg (x &&& 1)) fun h => k S h) else if a_kd h a = 103 then a_ix h a i (a_hl (a_sI h a i.toNatClampNeg x.toInt8.toInt32) fun h => k S h) else none
  | _ => none
def a_gf (aux : List Nat) (S : List Value) (h : A_H) (k : Value → List Value → A_R) : A_R := match aux with
  | ci :: f :: 0 :: _ => a_pa S fun a S => a_kc h a ci (k (.int (a_iv h a f)) S)
  | ci :: f :: 1 :: _ => a_pa S fun a S => a_kc h a ci (k (.int (a_iv h a f)) S)
  | ci :: f :: 2 :: _ => a_pa S fun a S => a_kc h a ci (k (.long (a_jv h a f)) S)
  | ci :: f :: 3 :: _ => a_pa S fun a S => a_kc h a ci (a_fo (a_rf h a f) fun b => k (.ref b) S)
  | _ => none
def a_pf (aux : List Nat) (S : List Value) (h : A_H) (k : List Value → A_H → A_R) : A_R := match aux with
  | ci :: f :: 0 :: _ => a_pi S fun x S => a_pa S fun a S => a_kc h a ci (a_hl (a_sI h a f x) fun h => k S h)
  | ci :: f :: 1 :: _ => a_pi S fun x S => a_pa S fun a S => a_kc h a ci (if x &&& 1 = x then a_hl (a_sI h a f x) (fun h => k S h) else none)
  | ci :: f :: 2 :: _ => a_pl S fun x S => a_pa S fun a S => a_kc h a ci (a_hl (a_sJ h a f x) fun h => k S h)
  | ci :: f :: 3 :: _ => a_pa S fun x S => a_pa S fun a S => a_kc h a ci (a_if (Nat.blt f (a_rl h a)) (a_hl (a_sR h a f x) fun h => k S h))
  | _ => none
def a_ic (c : ClassFile.Cond) (x y : Int32) (t f : A_R) : A_R := match c with
  | .eq => if x = y then t else f
  | .ne => if x = y then f else t
  | .lt => if x < y then t else f
  | .ge => if y ≤ x then t else f
  | .gt => if y < x then t else f
  | .le => if x ≤ y then t else f
def a_na (ty : ArrayType) (S : List Value) (h : A_H) (k : List Value → A_H → A_R) : A_R := a_pi S fun n S => a_if (a_ok h && decide (0 ≤ n.toInt) && Nat.ble n.toNatClampNeg 60000) (match ty with
  | .int => a_hl (a_mk h (100, n.toNatClampNeg, []) n.toNatClampNeg) fun g => k (.ref h.1.length :: S) g
  | .long => a_hl (a_mk h (101, n.toNatClampNeg, []) n.toNatClampNeg) fun g => k (.ref h.1.length :: S) g
  | .boolean => a_hl (a_mk h (102, n.toNatClampNeg, []) n.toNatClampNeg) fun g => k (.ref h.1.length :: S) g
  | .byte => a_hl (a_mk h (103, n.toNatClampNeg, []) n.toNatClampNeg) fun g => k (.ref h.1.length :: S) g
  | _ => none)
/-- the kind of the objects in an array of references -/
def a_el (c : Nat) : Nat := if c = 104 then 0 else 3
def a_aa (S : List Value) (h : A_H) (k : Value → List Value → A_R) : A_R := match S with
  | .int i :: .ref a :: S => if a_kd h a = 104 ∨ a_kd h a = 105 then a_ix h a i (a_fo (a_rf h a i.toNatClampNeg) fun b => k (.ref b) S) else none
  | _ => none
def a_as (S : List Value) (h : A_H) (k : List Value → A_H → A_R) : A_R := match S with
  | .ref b :: .int i :: .ref a :: S => if a_kd h a = 104 ∨ a_kd h a = 105 then a_kc h b (a_el (a_kd h a)) (a_ix h a i (a_if (Nat.blt i.toNatClampNeg (a_rl h a)) (a_hl (a_sR h a i.toNatClampNeg b) fun h => k S h))) else none
  | _ => none
def a_st (X : Nat × (Nat → Int32)) (tx : List Int32) (M : Nat → List Value → A_H → A_R) (ag : Nat → List Value → A_H → A_R) (k : Nat → List Value → List Value → A_H → A_R) (i : Instr) (aux : List Nat) (L S : List Value) (h : A_H) : A_R := match i with
  | .aload n => a_la L n fun v => k 0 L (v :: S) h
  | .aload_n n => a_la L n fun v => k 0 L (v :: S) h
  | .iload n => a_li L n fun x => k 0 L (.int x :: S) h
  | .iload_n n => a_li L n fun x => k 0 L (.int x :: S) h
  | .lload n => a_ll L n fun x => k 0 L (.long x :: S) h
  | .lload_n n => a_ll L n fun x => k 0 L (.long x :: S) h
  | .istore n => a_pi S fun x S => a_s1 L n (.int x) fun L => k 0 L S h
  | .istore_n n => a_pi S fun x S => a_s1 L n (.int x) fun L => k 0 L S h
  | .lstore n => a_pl S fun x S => a_s2 L n (.long x) fun L => k 0 L S h
  | .lstore_n n => a_pl S fun x S => a_s2 L n (.long x) fun L => k 0 L S h
  | .astore n => a_pa S fun x S => a_s1 L n (.ref x) fun L => k 0 L S h
  | .astore_n n => a_pa S fun x S => a_s1 L n (.ref x) fun L => k 0 L S h
  | .iinc n _ => (match aux with
    | q :: _ => a_li L n fun x => a_s1 L n (.int (x + nI q)) fun L => k 0 L S h
    | _ => none)
  | .iconst _ => (match aux with
    | q :: _ => k 0 L (.int (nI q) :: S) h
    | _ => none)
  | .bipush _ => (match aux with
    | q :: _ => k 0 L (.int (nI q) :: S) h
    | _ => none)
  | .sipush _ => (match aux with
    | q :: _ => k 0 L (.int (nI q) :: S) h
    | _ => none)
  | .lconst _ => (match aux with
    | q :: _ => k 0 L (.long (lN q) :: S) h
    | _ => none)
  | .ldc _ => (match aux with
    | 0 :: n :: _ => k 0 L (.int (nI n) :: S) h
    | 1 :: _ => k 0 L (.retAddr 2 :: S) h
    | _ => none)
  | .ldc_w _ => (match aux with
    | 0 :: n :: _ => k 0 L (.int (nI n) :: S) h
    | _ => none)
  | .ldc2_w _ => (match aux with
    | n :: _ => k 0 L (.long (lN n) :: S) h
    | _ => none)
  | .iadd => a_pi S fun y S => a_pi S fun x S => k 0 L (.int (x + y) :: S) h
  | .isub => a_pi S fun y S => a_pi S fun x S => k 0 L (.int (x - y) :: S) h
  | .imul => a_pi S fun y S => a_pi S fun x S => k 0 L (.int (x * y) :: S) h
  | .idiv => a_pi S fun y S => a_pi S fun x S => if y = 0 then none else k 0 L (.int (x / y) :: S) h
  | .irem => a_pi S fun y S => a_pi S fun x S => if y = 0 then none else k 0 L (.int (x - x / y * y) :: S) h
  | .iand => a_pi S fun y S => a_pi S fun x S => k 0 L (.int (x &&& y) :: S) h
  | .ior => a_pi S fun y S => a_pi S fun x S => k 0 L (.int (x ||| y) :: S) h
  | .ixor => a_pi S fun y S => a_pi S fun x S => k 0 L (.int (x ^^^ y) :: S) h
  | .ishl => a_pi S fun y S => a_pi S fun x S => k 0 L (.int (x <<< (y &&& 31)) :: S) h
  | .ishr => a_pi S fun y S => a_pi S fun x S => k 0 L (.int (x >>> (y &&& 31)) :: S) h
  | .iushr => a_pi S fun y S => a_pi S fun x S => k 0 L (.int (x.toUInt32 >>> (y.toUInt32 &&& Int32.toUInt32 31)).toInt32 :: S) h
  | .i2l => a_pi S fun x S => k 0 L (.long x.toInt64 :: S) h
  | .i2b => a_pi S fun x S => k 0 L (.int x.toInt8.toInt32 :: S) h
  | .ladd => a_pl S fun y S => a_pl S fun x S => k 0 L (.long (x + y) :: S) h
  | .lmul => a_pl S fun y S => a_pl S fun x S => k 0 L (.long (x * y) :: S) h
  | .lor => a_pl S fun y S => a_pl S fun x S => k 0 L (.long (x ||| y) :: S) h
  | .lshl => a_pi S fun y S => a_pl S fun x S => k 0 L (.long (x <<< (y.toInt64 &&& 63)) :: S) h
  | .lcmp => a_pl S fun y S => a_pl S fun x S => k 0 L (.int (lg_cmp x y) :: S) h
  | .dup => (match S with
    | .int x :: S => k 0 L (.int x :: .int x :: S) h
    | .ref x :: S => k 0 L (.ref x :: .ref x :: S) h
    | _ => none)
  | .dup2 => (match S with
    | .int x :: .ref y :: S => k 0 L (.int x :: .ref y :: .int x :: .ref y :: S) h
    | _ => none)
  | .pop => a_pi S fun _ S => k 0 L S h
  | .goto _ => a_jp ag k aux L S h
  | .ifCond c _ => a_pi S fun x S => a_ic c x 0 (a_jp ag k aux L S h) (k 0 L S h)
  | .if_icmp c _ => a_pi S fun y S => a_pi S fun x S => a_ic c x y (a_jp ag k aux L S h) (k 0 L S h)
  | .tableswitch _ lo _ _ => (match aux with
    | d :: sk => a_pi S fun x S => a_ts lo x (sk.map fun n => k n L S h) (k d L S h)
    | _ => none)
  | .getfield _ => a_gf aux S h fun v S => k 0 L (v :: S) h
  | .putfield _ => a_pf aux S h fun S h => k 0 L S h
  | .iaload => a_al X S h fun v S => k 0 L (v :: S) h
  | .iastore => (match S with
    | .int x :: .int i :: .ref a :: S => a_kc h a 100 (a_ix h a i (a_hl (a_sI h a i.toNatClampNeg x) fun h => k 0 L S h))
    | _ => none)
  | .laload => (match S with
    | .int i :: .ref a :: S => a_kc h a 101 (a_ix h a i (k 0 L (.long (a_jv h a i.toNatClampNeg) :: S) h))
    | _ => none)
  | .lastore => (match S with
    | .long x :: .int i :: .ref a :: S => a_kc h a 101 (a_ix h a i (a_hl (a_sJ h a i.toNatClampNeg x) fun h => k 0 L S h))
    | _ => none)
  | .baload => a_bl S h fun v S => k 0 L (v :: S) h
  | .bastore => a_bs S h fun S h => k 0 L S h
  | .aaload => a_aa S h fun v S => k 0 L (v :: S) h
  | .aastore => a_as S h fun S h => k 0 L S h
  | .arraylength => a_an X S h fun v S => k 0 L (v :: S) h
  | .newarray ty => a_na ty S h fun S h => k 0 L S h
  | .anewarray _ => (match aux with
    | c :: _ => a_pi S fun n S => a_if (a_ok h && decide (0 ≤ n.toInt) && Nat.ble n.toNatClampNeg 60000) (a_hl (a_mk h (c, n.toNatClampNeg, List.replicate n.toNatClampNeg none) n.toNatClampNeg) fun g => k 0 L (.ref h.1.length :: S) g)
    | _ => none)
  | .new _ => (match aux with
    | [0, c, n, _, _, _] => a_if (a_ok h) (a_hl (a_mk h (c, 0, List.replicate n none) n) fun g => k 0 L (.ref h.1.length :: S) g)
    | [1, mc, ms] => (match S with
      | [] => some (a_th h mc ms, some (.retAddr 0))
      | _ => none)
    | _ => none)
  | .invokevirtual _ => a_iw M k tx aux L S h
  | .invokespecial _ => a_iw M k tx aux L S h
  | .invokestatic _ => a_iw M k tx aux L S h
  | .ireturn => (match aux, S with
    | [0], [.int x] => some (h, some (.int x))
    | [1], [.int x] => if x &&& 1 = x then some (h, some (.int x)) else none
    | _, _ => none)
  | .return_ => (match S with
    | [] => some (h, none)
    | _ => none)
  | _ => none
def a_rn (X : Nat × (Nat → Int32)) (tx : List Int32) (M : Nat → List Value → A_H → A_R) (ag : Nat → List Value → A_H → A_R) : List A_O → Nat → List Value → List Value → A_H → A_R
  | [], _, _, _, _ => none
  | _ :: r, n + 1, L, S, h => a_rn X tx M ag r n L S h
  | o :: r, 0, L, S, h => a_st X tx M ag (a_rn X tx M ag r) o.2.1 o.2.2 L S h
/-- a method's body: fuel for its back edges -/
def a_go (X : Nat × (Nat → Int32)) (tx : List Int32) (M : Nat → List Value → A_H → A_R) (ops : List A_O) : Nat → Nat → List Value → A_H → A_R
  | 0, _, _, _ => none
  | f + 1, t, L, h => a_rn X tx M (a_go X tx M ops f) (ops.drop t) 0 L [] h
/-- the locals at a method's entry -/
def a_l1 (v : Value) : List Value := match v with
  | .long x => [.long x, .retAddr 0]
  | .double x => [.double x, .retAddr 0]
  | v => [v]
def a_lo (vs : List Value) (n : Nat) : List Value := vs.flatMap a_l1 ++ List.replicate (n - (vs.flatMap a_l1).length) (.retAddr 0)
def a_f1 : Nat := 999999
def a_fu : Nat := a_f1 + 1
/-- a call, d deep at most -/
def a_ex (X : Nat × (Nat → Int32)) (tx : List Int32) (T : List A_M) : Nat → Nat → List Value → A_H → A_R
  | 0, _, _, _ => none
  | d + 1, y, vs, h => (match T[y]? with
    | some m => a_if (Nat.beq (a_lo vs m.2.2.1).length m.2.2.1) (a_go X tx (a_ex X tx T d) m.2.2.2.2 a_fu 0 (a_lo vs m.2.2.1) h)
    | none => none)
