/-! SENTENCES: what a text says, token by token -/
def q_nots : List Nat → List (Nat × Nat × Nat) → List Nat × List (Nat × Nat × Nat)
  | [], A => ([], A)
  | t :: σ, A => if t = 20 then q_nots σ ((20, 0, 0) :: A) else (t :: σ, A)
def q_joins (till : Nat) : List Nat → List (Nat × Nat × Nat) → List Nat × List (Nat × Nat × Nat)
  | [], A => ([], A)
  | t :: σ, A => if t = 21 ∨ (t = 22 ∧ till = 22) then q_joins till σ ((t, 0, 0) :: A) else (t :: σ, A)
def q_deep : List Nat → Nat
  | [] => 1
  | t :: σ => if t = 20 ∨ t = 23 then q_deep σ + 1 else q_deep σ
/-- what waits -/
def q_no : List Nat → Nat
  | [] => 0
  | t :: σ => if t = 23 then q_no σ else q_no σ + 1
def q_ok : List Nat → Prop
  | [] => True
  | t :: σ => (20 ≤ t ∧ t ≤ 23) ∧ q_ok σ
def q_so (ky : Nat) : Nat := if ky = 13 then 1 else if ky = 14 then 0 else 3
def q_leaf (b : Nat → Nat) (n q : Nat) (N S : Nat → Nat) (A : List (Nat × Nat × Nat)) (ky p : Nat) : Except (Nat × Nat) (List (Nat × Nat × Nat) × Nat) :=
  if ky = 12 then .ok ((0, 0, 0) :: A, p) else if ky < 16 then (match k_look b n q (fun k => N (w_base (q_so ky) + k)) (S (q_so ky)) p with
    | .error e => .error e
    | .ok k => .ok ((ky - 12, 0, k) :: A, w_nx b n q p)) else if 60 ≤ w_kd b n q p ∧ w_kd b n q p ≤ 62 then (match k_num b n q 0 999 (w_nx b n q p) with
    | .error e => .error e
    | .ok r => .ok ((ky - 12, w_kd b n q p, r.1) :: A, r.2)) else .error (1, w_pl b n q p)
def q_op (b : Nat → Nat) (n q : Nat) (N S : Nat → Nat) (σ : List Nat) (A : List (Nat × Nat × Nat)) (ones p : Nat) : Except (Nat × Nat) (List Nat × List (Nat × Nat × Nat) × Bool × Nat) :=
  if w_ky b n q p ≠ 11 ∧ w_kd b n q p ≠ 40 ∧ (w_ky b n q p < 12 ∨ 18 < w_ky b n q p) then .error (1, w_pl b n q p) else if ones = 20 ∨ 8 < q_deep σ then .error (4, w_pl b n q p) else if w_kd b n q p = 40 then .ok (23 :: σ, A, false, w_nx b n q p) else if w_ky b n q p = 11 then .ok (20 :: σ, A, false, w_nx b n q p) else match q_leaf b n q N S A (w_ky b n q p) (w_nx b n q p) with
    | .error e => .error e
    | .ok y => .ok (σ, y.1, true, y.2)
def q_be (b : Nat → Nat) (n q : Nat) (σ : List Nat) (A : List (Nat × Nat × Nat)) (p : Nat) : Except (Nat × Nat) (List Nat × List (Nat × Nat × Nat) × Bool × Nat) :=
  if w_ky b n q p = 10 then .ok (21 :: (q_joins 21 (q_nots σ A).1 (q_nots σ A).2).1, (q_joins 21 (q_nots σ A).1 (q_nots σ A).2).2, false, w_nx b n q p) else if w_ky b n q p = 9 then .ok (22 :: (q_joins 22 (q_nots σ A).1 (q_nots σ A).2).1, (q_joins 22 (q_nots σ A).1 (q_nots σ A).2).2, false, w_nx b n q p) else if w_kd b n q p = 41 then (match (q_joins 22 (q_nots σ A).1 (q_nots σ A).2).1 with
    | [] => .error (1, w_pl b n q p)
    | _ :: σ3 => .ok (σ3, (q_joins 22 (q_nots σ A).1 (q_nots σ A).2).2, true, w_nx b n q p)) else .error (1, w_pl b n q p)
def q_run (b : Nat → Nat) (n q : Nat) (N S : Nat → Nat) : Nat → List Nat → List (Nat × Nat × Nat) → Nat → Bool → Nat → Except (Nat × Nat) (List (Nat × Nat × Nat) × Nat)
  | 0, _, _, _, _, _ => .error (0, 0)
  | f + 1, σ, A, ones, wh, p => if wh = true then (if w_kd b n q p = 3 then (if (q_joins 22 (q_nots σ A).1 (q_nots σ A).2).1 = [] then .ok ((q_joins 22 (q_nots σ A).1 (q_nots σ A).2).2, ones) else .error (1, w_pl b n q p)) else match q_be b n q σ A p with
    | .error e => .error e
    | .ok y => q_run b n q N S f y.1 y.2.1 ones y.2.2.1 y.2.2.2) else match q_op b n q N S σ A ones p with
    | .error e => .error e
    | .ok y => q_run b n q N S f y.1 y.2.1 (ones + 1) y.2.2.1 y.2.2.2
section QR
variable {b : Nat → Nat} {n q : Nat} {N S : Nat → Nat} {f : Nat} {σ : List Nat} {A : List (Nat × Nat × Nat)} {ones p : Nat} {e : Nat × Nat} {y : List Nat × List (Nat × Nat × Nat) × Bool × Nat}
theorem q_run_oe (h : q_op b n q N S σ A ones p = .error e) : q_run b n q N S (f + 1) σ A ones false p = .error e := by
  unfold q_run
  rw [if_neg (by decide), h]
theorem q_run_oo (h : q_op b n q N S σ A ones p = .ok y) : q_run b n q N S (f + 1) σ A ones false p = q_run b n q N S f y.1 y.2.1 (ones + 1) y.2.2.1 y.2.2.2 := by
  have : q_run b n q N S (f + 1) σ A ones false p = if false = true then (if w_kd b n q p = 3 then (if (q_joins 22 (q_nots σ A).1 (q_nots σ A).2).1 = [] then .ok ((q_joins 22 (q_nots σ A).1 (q_nots σ A).2).2, ones) else .error (1, w_pl b n q p)) else match q_be b n q σ A p with
    | .error e => .error e
    | .ok y => q_run b n q N S f y.1 y.2.1 ones y.2.2.1 y.2.2.2) else match q_op b n q N S σ A ones p with
    | .error e => .error e
    | .ok y => q_run b n q N S f y.1 y.2.1 (ones + 1) y.2.2.1 y.2.2.2 := rfl
  rw [this, if_neg (by decide), h]
theorem q_run_w : q_run b n q N S (f + 1) σ A ones true p = if w_kd b n q p = 3 then (if (q_joins 22 (q_nots σ A).1 (q_nots σ A).2).1 = [] then .ok ((q_joins 22 (q_nots σ A).1 (q_nots σ A).2).2, ones) else .error (1, w_pl b n q p)) else match q_be b n q σ A p with
    | .error e => .error e
    | .ok y => q_run b n q N S f y.1 y.2.1 ones y.2.2.1 y.2.2.2 := rfl
theorem q_run_be (h3 : w_kd b n q p ≠ 3) (h : q_be b n q σ A p = .error e) : q_run b n q N S (f + 1) σ A ones true p = .error e := by
  rw [q_run_w, if_neg h3, h]
theorem q_run_bo (h3 : w_kd b n q p ≠ 3) (h : q_be b n q σ A p = .ok y) : q_run b n q N S (f + 1) σ A ones true p = q_run b n q N S f y.1 y.2.1 ones y.2.2.1 y.2.2.2 := by
  rw [q_run_w, if_neg h3, h]
/-- a word that waits, said at once -/
theorem q_L1 : ∀ f, q_run b n q N S f (20 :: σ) A ones true p = q_run b n q N S f σ ((20, 0, 0) :: A) ones true p
  | 0 => rfl
  | f + 1 => by
    have h : q_nots (20 :: σ) A = q_nots σ ((20, 0, 0) :: A) := rfl
    rw [q_run_w, q_run_w]
    unfold q_be
    rw [h]
def q_t (σ : List Nat) (t : Nat) : Prop := match σ with
  | [] => True
  | u :: _ => u ≠ t
theorem q_nots_n (h : q_t σ 20) : q_nots σ A = (σ, A) := by
  cases σ with
  | nil => rfl
  | cons t σ =>
    unfold q_nots
    exact if_neg h
theorem q_joins_n {till : Nat} (h1 : q_t σ 21) (h2 : q_t σ 22 ∨ till ≠ 22) : q_joins till σ A = (σ, A) := by
  cases σ with
  | nil => rfl
  | cons t σ =>
    unfold q_joins
    refine if_neg fun x => ?_
    rcases x with x | ⟨x, y⟩
    · exact h1 x
    · rcases h2 with z | z
      · exact z x
      · exact z y
theorem q_L2 (ht : q_t σ 20) : ∀ f, q_run b n q N S f (21 :: σ) A ones true p = q_run b n q N S f σ ((21, 0, 0) :: A) ones true p
  | 0 => rfl
  | f + 1 => by
    have h1 : q_nots (21 :: σ) A = (21 :: σ, A) := rfl
    have h2 : q_nots σ ((21, 0, 0) :: A) = (σ, (21, 0, 0) :: A) := q_nots_n ht
    have h3 : ∀ till, q_joins till (21 :: σ) A = q_joins till σ ((21, 0, 0) :: A) := fun till => by
      have : q_joins till (21 :: σ) A = if 21 = 21 ∨ (21 = 22 ∧ till = 22) then q_joins till σ ((21, 0, 0) :: A) else (21 :: σ, A) := rfl
      rw [this, if_pos (Or.inl rfl)]
    rw [q_run_w, q_run_w]
    unfold q_be
    rw [h1, h2]
    dsimp only
    rw [h3 21, h3 22]
theorem q_L3 (ht : q_t σ 20) (h9 : w_ky b n q p ≠ 9) (h10 : w_ky b n q p ≠ 10) : ∀ f, q_run b n q N S f (22 :: σ) A ones true p = q_run b n q N S f σ ((22, 0, 0) :: A) ones true p
  | 0 => rfl
  | f + 1 => by
    have h1 : q_nots (22 :: σ) A = (22 :: σ, A) := rfl
    have h2 : q_nots σ ((22, 0, 0) :: A) = (σ, (22, 0, 0) :: A) := q_nots_n ht
    have h3 : q_joins 22 (22 :: σ) A = q_joins 22 σ ((22, 0, 0) :: A) := by
      have : q_joins 22 (22 :: σ) A = if 22 = 21 ∨ (22 = 22 ∧ 22 = 22) then q_joins 22 σ ((22, 0, 0) :: A) else (22 :: σ, A) := rfl
      rw [this, if_pos (Or.inr ⟨rfl, rfl⟩)]
    rw [q_run_w, q_run_w]
    unfold q_be
    rw [if_neg h10, if_neg h9, if_neg h10, if_neg h9, h1, h2]
    dsimp only
    rw [h3]
/-- one leaf more -/
theorem q_leaf_ok {ky : Nat} {y : List (Nat × Nat × Nat) × Nat} (hp : p ≤ n) (h : q_leaf b n q N S A ky p = .ok y) : (∃ c : Nat × Nat × Nat, y.1 = c :: A) ∧ p ≤ y.2 ∧ y.2 ≤ n := by
  unfold q_leaf at h
  by_cases c1 : ky = 12
  · rw [if_pos c1] at h
    rw [← Except.ok.inj h]
    exact ⟨⟨_, rfl⟩, Nat.le_refl _, hp⟩
  · rw [if_neg c1] at h
    by_cases c2 : ky < 16
    · rw [if_pos c2] at h
      cases q1 : k_look b n q (fun k => N (w_base (q_so ky) + k)) (S (q_so ky)) p with
      | error e =>
        rw [q1] at h
        exact z_exn h
      | ok k =>
        rw [q1] at h
        have hk := k_am_lo q1
        have n1 := w_nx_in (w_kd_in (b := b) (n := n) (q := q) (p := p) (by omega) (by omega))
        rw [← Except.ok.inj h]
        exact ⟨⟨_, rfl⟩, by show p ≤ w_nx b n q p; omega, n1.2⟩
    · rw [if_neg c2] at h
      by_cases c3 : 60 ≤ w_kd b n q p ∧ w_kd b n q p ≤ 62
      · rw [if_pos c3] at h
        have n1 := w_nx_in (w_kd_in (b := b) (n := n) (q := q) (p := p) (by omega) (by omega))
        cases q1 : k_num b n q 0 999 (w_nx b n q p) with
        | error e =>
          rw [q1] at h
          exact z_exn h
        | ok r =>
          rw [q1] at h
          obtain ⟨a1, a2, a3, a4, a5⟩ := k_num_ok q1
          rw [← Except.ok.inj h]
          exact ⟨⟨_, rfl⟩, by show p ≤ r.2; omega, a5⟩
      · rw [if_neg c3] at h
        exact z_exn h
theorem q_nots_i : ∀ (σ : List Nat) (A : List (Nat × Nat × Nat)), q_ok σ → q_ok (q_nots σ A).1 ∧ (q_nots σ A).2.length + q_no (q_nots σ A).1 = A.length + q_no σ ∧ (q_nots σ A).1.length ≤ σ.length
  | [], A, h => ⟨h, rfl, Nat.le_refl _⟩
  | t :: σ, A, h => by
    unfold q_nots
    by_cases c : t = 20
    · rw [if_pos c]
      obtain ⟨g1, g2, g3⟩ := q_nots_i σ ((20, 0, 0) :: A) h.2
      refine ⟨g1, ?_, by rw [List.length_cons]; omega⟩
      rw [g2, List.length_cons]
      unfold q_no
      rw [if_neg (by omega)]
      cases σ <;> simp only [q_no] <;> omega
    · rw [if_neg c]
      exact ⟨h, rfl, Nat.le_refl _⟩
theorem q_joins_i {till : Nat} : ∀ (σ : List Nat) (A : List (Nat × Nat × Nat)), q_ok σ → q_ok (q_joins till σ A).1 ∧ (q_joins till σ A).2.length + q_no (q_joins till σ A).1 = A.length + q_no σ ∧ (q_joins till σ A).1.length ≤ σ.length ∧ q_deep (q_joins till σ A).1 = q_deep σ ∧ q_t (q_joins till σ A).1 21 ∧ (till = 22 → q_t (q_joins till σ A).1 22)
  | [], A, h => ⟨h, rfl, Nat.le_refl _, rfl, trivial, fun _ => trivial⟩
  | t :: σ, A, h => by
    unfold q_joins
    by_cases c : t = 21 ∨ (t = 22 ∧ till = 22)
    · rw [if_pos c]
      obtain ⟨g1, g2, g3, g4, g5⟩ := q_joins_i (till := till) σ ((t, 0, 0) :: A) h.2
      have hn : q_no (t :: σ) = q_no σ + 1 := if_neg (by omega)
      have hd : q_deep (t :: σ) = q_deep σ := if_neg (by omega)
      refine ⟨g1, ?_, by rw [List.length_cons]; omega, by rw [hd]; exact g4, g5⟩
      rw [g2, List.length_cons, hn]
      omega
    · rw [if_neg c]
      exact ⟨h, rfl, Nat.le_refl _, rfl, fun x => c (Or.inl x), fun z x => c (Or.inr ⟨x, z⟩)⟩
end QR
