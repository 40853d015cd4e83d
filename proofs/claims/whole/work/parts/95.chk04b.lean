/-! BIG METHODS: the check a stretch at a time -/
noncomputable def fk_cp (nw : List Cond) (tn : A_N) (own nm : String) (rz : Nat) (bytes : ByteArray) (all : List A_O) : Nat → List A_O → Bool
  | 0, _ => true
  | _ + 1, [] => true
  | n + 1, o :: r => (match decode bytes o.1 with
    | .ok (j, len) => decide (j = o.2.1) && a_lo1 j len && (match r with
      | [] => true
      | o2 :: _ => decide (o2.1 = o.1 + len))
    | _ => false) && fk_c1 nw tn own nm rz all r o.1 o.2.1 o.2.2 && fk_cp nw tn own nm rz bytes all n r
theorem fk_cp_ok {nw : List Cond} {tn : A_N} {own nm : String} {rz : Nat} {bytes : ByteArray} {all : List A_O} : ∀ (n : Nat) (r : List A_O), fk_cp nw tn own nm rz bytes all n r = true → fk_co nw tn own nm rz bytes all (r.drop n) = true → fk_co nw tn own nm rz bytes all r = true := by
  intro n
  induction n with
  | zero => intro r _ h; exact h
  | succ n ih =>
    intro r h1 h2
    cases r with
    | nil => exact h2
    | cons o r =>
      unfold fk_cp at h1
      unfold fk_co
      rw [Bool.and_eq_true] at h1 ⊢
      exact ⟨h1.1, ih r h1.2 h2⟩
noncomputable def fk_hd (nw : List Cond) (tn : A_N) (y : Nat) (m : A_M) (wc wi : Nat) : Bool :=
  decide (tn[y]? = some (m.1, m.2.2.1, m.2.2.2.1)) && plainName m.1.cls && fk_lk wc (.code m.1 m.2.1 m.2.2.1 m.2.2.2.1) && fk_lk wi (.initialized m.1.cls) && Nat.ble m.2.2.1 40 && decide (a_rt m.2.2.2.1 < 9) && decide (a_at m.2.2.2.2 0 = some 0)
theorem fk_of {nw : List Cond} {tn : A_N} {y : Nat} {m : A_M} {wc wi : Nat} (h1 : fk_hd nw tn y m wc wi = true) (h2 : fk_co nw tn m.1.cls m.1.name (a_rz m.2.2.2.1) m.2.1 m.2.2.2.2 m.2.2.2.2 = true) : a_cm nw tn y m wc wi = true := by
  refine fk_ok ?_
  unfold fk_cm
  rw [Bool.and_eq_true]
  exact ⟨h1, h2⟩
