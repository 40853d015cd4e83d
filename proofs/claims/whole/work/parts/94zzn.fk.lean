/-! THE CHECK OF A METHOD, over a quicker look into the tables -/
noncomputable def fk_cks : List (List Cond) := (List.range 80).map fun k => lw_tbl.drop (32 * k)
noncomputable def fk_lk (i : Nat) (w : Cond) : Bool := (match fk_cks[i / 32]? with
  | some l => decide (l[i % 32]? = some w)
  | none => decide (lw_tbl[i]? = some w)) && goodWord w
theorem fk_lk_eq : fk_lk = a_lk := by
  funext i w
  unfold fk_lk a_lk
  congr 1
  by_cases h : i / 32 < 80
  · have e : fk_cks[i / 32]? = some (lw_tbl.drop (32 * (i / 32))) := by
      unfold fk_cks
      rw [List.getElem?_map, List.getElem?_range h]
      rfl
    rw [e]
    show decide ((lw_tbl.drop (32 * (i / 32)))[i % 32]? = some w) = _
    rw [List.getElem?_drop, Nat.div_add_mod]
  · have e : fk_cks[i / 32]? = none := by
      unfold fk_cks
      exact List.getElem?_eq_none (by rw [List.length_map, List.length_range]; omega)
    rw [e]
noncomputable def fk_fl (nw : List Cond) (own : String) (i : Nat) (aux : List Nat) : Bool := match aux with
  | [ci, k, t, md, wi] => (match a_cl[ci]? with
    | some (_, T, N) => Nat.blt k N && decide (t = a_tg (T k).2.2.1) && (if md = 0 then fk_lk wi (.fieldLink own i (T k).1 (T k).2.1 (T k).2.2.1) else decide (nw[wi]? = some (.fieldLinkNest own i (T k).1 (T k).2.1 (T k).2.2.1 "EndingMarket")))
    | none => false)
  | _ => false
noncomputable def fk_ml (nw : List Cond) (own : String) (i md wl : Nat) (y : MethodName) : Bool := if md = 0 then fk_lk wl (.methodLink own i y) else decide (nw[wl]? = some (.methodLinkNest own i y "EndingMarket"))
noncomputable def fk_cv (nw : List Cond) (tn : A_N) (own : String) (i : Nat) (v : Nat) (aux : List Nat) : Bool := match aux with
  | [0, y, n, t, md, wl, ws, wi] => decide (v = 0) && (match tn[y]? with
    | some (z, _, r) => fk_ml nw own i md wl z && fk_lk ws (.static z) && fk_lk wi (.initialized z.cls) && a_pn z n && decide (a_rt r = t)
    | none => false)
  | [1, y, n, t, ci, md, wl, w1, w2, wi] => decide (v = 1) && (match tn[y]?, a_cl[ci]? with
    | some (z, _, r), some (C, _, _) => decide (z.cls = C) && fk_ml nw own i md wl z && fk_lk w1 (.instanceMethod z) && fk_lk w2 (.selects C z z) && fk_lk wi (.initialized z.cls) && a_pn z n && decide (a_rt r = t)
    | _, _ => false)
  | [2, y, n, md, wl, w1, wi] => decide (v = 2) && (match tn[y]? with
    | some (z, _, r) => fk_ml nw own i md wl z && fk_lk w1 (.instanceMethod z) && fk_lk wi (.initialized z.cls) && a_pn z n && decide (z.name = "<init>") && decide (r = none)
    | none => false)
  | [3, wl, w1, w2] => decide (v = 2) && fk_lk wl (.methodLink own i Lib.objectInit) && fk_lk w1 (.instanceMethod Lib.objectInit) && fk_lk w2 (.code Lib.objectInit ⟨#[0xb1]⟩ 1 none)
  | [4, wl, w1, w2, wi] => decide (v = 0) && fk_lk wl (.methodLink own i arraycopyName) && fk_lk w1 (.native arraycopyName) && fk_lk w2 (.static arraycopyName) && fk_lk wi (.initialized "java/lang/System")
  | [5, wl, w1, w2, wi] => decide (v = 0) && fk_lk wl (.methodLink own i arraycopyName) && fk_lk w1 (.native arraycopyName) && fk_lk w2 (.static arraycopyName) && fk_lk wi (.initialized "java/lang/System")
  | [8, wl, w1, wi, wc] => decide (v = 0) && fk_lk wl (.methodLink own i Lib.Math.min.name) && fk_lk w1 (.static Lib.Math.min.name) && fk_lk wi (.initialized "java/lang/Math") && fk_lk wc (.code Lib.Math.min.name Lib.Math.min.code 2 (some .int))
  | [9, wl, w1, wi, wc] => decide (v = 0) && fk_lk wl (.methodLink own i Lib.Math.max.name) && fk_lk w1 (.static Lib.Math.max.name) && fk_lk wi (.initialized "java/lang/Math") && fk_lk wc (.code Lib.Math.max.name Lib.Math.max.code 2 (some .int))
  | [6] => decide (v = 1) && decide (own = "EndingMarket$Tape") && decide (i = 53)
  | [7] => decide (v = 1) && decide (own = "EndingMarket$Tape") && decide (i = 59)
  | [77] => true
  | _ => false
noncomputable def fk_c1 (nw : List Cond) (tn : A_N) (own nm : String) (rz : Nat) (all r : List A_O) (pc : Nat) (i : Instr) (aux : List Nat) : Bool := match i with
  | .goto off => a_jm all r pc off aux
  | .iconst n => (match aux with
    | [q] => decide (Int32.ofInt n = nI q)
    | _ => false)
  | .bipush n => (match aux with
    | [q] => decide ((Int8.ofInt n).toInt32 = nI q)
    | _ => false)
  | .sipush n => (match aux with
    | [q] => decide ((Int16.ofInt n).toInt32 = nI q)
    | _ => false)
  | .iinc _ n => (match aux with
    | [q] => decide (Int32.ofInt n = nI q)
    | _ => false)
  | .lconst n => (match aux with
    | [q] => decide (Int64.ofNat n = lN q)
    | _ => false)
  | .ifCond _ off => a_jm all r pc off aux
  | .if_icmp _ off => a_jm all r pc off aux
  | .tableswitch df lo hi offs => (match aux with
    | d :: sk => a_jm all r pc df [0, d] && decide (sk.length = offs.size) && decide (hi + 1 = lo + (sk.length : Int)) && (List.range sk.length).all (fun j => (match sk[j]?, offs[j]? with
      | some n, some off => a_jm all r pc off [0, n]
      | _, _ => false))
    | _ => false)
  | .getfield k => fk_fl nw own k aux
  | .putfield k => fk_fl nw own k aux && a_fn own nm aux
  | .ldc k => (match aux with
    | [0, n, w] => fk_lk w (.constant own k (Int32.ofNat n))
    | [1] => decide (own = "EndingMarket$Tape") && decide (k = 51)
    | [77] => true
    | _ => false)
  | .ldc_w k => (match aux with
    | [0, n, w] => fk_lk w (.constant own k (Int32.ofNat n))
    | _ => false)
  | .ldc2_w k => (match aux with
    | [n, w] => fk_lk w (.constantLong own k (Int64.ofNat n))
    | _ => false)
  | .new k => (match aux with
    | [0, c, n, w1, w2, w3] => (match a_cl[c]? with
      | some (C, _, N) => decide (n = N) && fk_lk w1 (.classLink own k C) && fk_lk w2 (.instantiable C N) && fk_lk w3 (.initialized C)
      | none => false)
    | [1, _, _] => true
    | _ => false)
  | .newarray ty => (match aux with
    | [w] => fk_lk w (.arrayClass (newarray.typeOf ty))
    | _ => false)
  | .anewarray k => (match aux with
    | [104, w] => fk_lk w (.classLink own k "EndingMarket$Affairs")
    | [105, w] => fk_lk w (.classLink own k "EndingMarket$Image")
    | _ => false)
  | .invokevirtual k => fk_cv nw tn own k 1 aux
  | .invokestatic k => fk_cv nw tn own k 0 aux
  | .invokespecial k => fk_cv nw tn own k 2 aux
  | .ireturn => decide (aux = [rz]) && Nat.ble rz 1
  | .return_ => decide (rz = 2)
  | _ => true
noncomputable def fk_co (nw : List Cond) (tn : A_N) (own nm : String) (rz : Nat) (bytes : ByteArray) (all : List A_O) : List A_O → Bool
  | [] => true
  | o :: r => (match decode bytes o.1 with
    | .ok (j, len) => decide (j = o.2.1) && a_lo1 j len && (match r with
      | [] => true
      | o2 :: _ => decide (o2.1 = o.1 + len))
    | _ => false) && fk_c1 nw tn own nm rz all r o.1 o.2.1 o.2.2 && fk_co nw tn own nm rz bytes all r
noncomputable def fk_cm (nw : List Cond) (tn : A_N) (y : Nat) (m : A_M) (wc wi : Nat) : Bool :=
  decide (tn[y]? = some (m.1, m.2.2.1, m.2.2.2.1)) && plainName m.1.cls && fk_lk wc (.code m.1 m.2.1 m.2.2.1 m.2.2.2.1) && fk_lk wi (.initialized m.1.cls) && Nat.ble m.2.2.1 40 && decide (a_rt m.2.2.2.1 < 9) && decide (a_at m.2.2.2.2 0 = some 0) && fk_co nw tn m.1.cls m.1.name (a_rz m.2.2.2.1) m.2.1 m.2.2.2.2 m.2.2.2.2
theorem fk_fl_eq : fk_fl = a_fl := by
  funext nw own i aux
  unfold fk_fl a_fl
  rw [fk_lk_eq] <;> first | done | rfl
theorem fk_ml_eq : fk_ml = a_ml := by
  funext nw own i md wl y
  unfold fk_ml a_ml
  rw [fk_lk_eq] <;> first | done | rfl
theorem fk_cv_eq : fk_cv = a_cv := by
  funext nw tn own i v aux
  unfold fk_cv a_cv
  rw [fk_lk_eq, fk_ml_eq] <;> first | done | rfl
theorem fk_c1_eq : fk_c1 = a_c1 := by
  funext nw tn own nm rz all r pc i aux
  unfold fk_c1 a_c1
  rw [fk_lk_eq, fk_fl_eq, fk_cv_eq] <;> first | done | rfl
theorem fk_co_eq {nw : List Cond} {tn : A_N} {own nm : String} {rz : Nat} {bytes : ByteArray} {all : List A_O} : ∀ r, fk_co nw tn own nm rz bytes all r = a_co nw tn own nm rz bytes all r := by
  intro r
  induction r with
  | nil => rfl
  | cons o r ih =>
    unfold fk_co a_co
    rw [fk_c1_eq, ih] <;> first | done | rfl
theorem fk_ok {nw : List Cond} {tn : A_N} {y : Nat} {m : A_M} {wc wi : Nat} (h : fk_cm nw tn y m wc wi = true) : a_cm nw tn y m wc wi = true := by
  unfold fk_cm at h
  unfold a_cm
  rw [fk_lk_eq, fk_co_eq] at h
  exact h
theorem fk_okc {nw : List Cond} {tn : A_N} {own nm : String} {rz : Nat} {bytes : ByteArray} {all r : List A_O} (h : fk_co nw tn own nm rz bytes all r = true) : a_co nw tn own nm rz bytes all r = true := by
  rw [fk_co_eq] at h
  exact h
