/-! TEXTS: amounts of kinds -/
/-- how many of the six are none yet -/
def w_zn (s : Nat → Nat) (to : Nat) : Nat := z_sum (fun k => if s (to + k) = 0 then 1 else 0) 6
theorem w_zn_le {s : Nat → Nat} {to : Nat} : w_zn s to ≤ 6 := by
  have := z_sum_le (g := fun k => if s (to + k) = 0 then 1 else 0) (b := 1) 6 (fun k _ => by show (if s (to + k) = 0 then 1 else 0) ≤ 1; split <;> omega)
  unfold w_zn
  omega
theorem w_zn_s {s : Nat → Nat} {to k v : Nat} (hk : k < 6) (h : s (to + k) = 0) (hv : v ≠ 0) : w_zn (b_s s (to + k) v) to + 1 = w_zn s to := by
  have := z_sum_updf (g := fun i => if s (to + i) = 0 then 1 else 0) (r := fun i => if b_s s (to + k) v (to + i) = 0 then 1 else 0) hk (fun i _ hi => by
    show (if b_s s (to + k) v (to + i) = 0 then 1 else 0) = (if s (to + i) = 0 then 1 else 0)
    rw [b_sn (by omega)])
  have h1 : (if s (to + k) = 0 then 1 else 0) = 1 := if_pos h
  have h2 : (if b_s s (to + k) v (to + k) = 0 then 1 else 0) = 0 := if_neg (by rw [b_ss]; exact hv)
  have h3 : w_zn (b_s s (to + k) v) to + (if s (to + k) = 0 then 1 else 0) = w_zn s to + (if b_s s (to + k) v (to + k) = 0 then 1 else 0) := this
  omega
/-- at most so many amounts more -/
def k_am (b : Nat → Nat) (n q : Nat) (g : Nat → Nat) (kinds to : Nat) : Nat → (Nat → Nat) → Nat → Except (Nat × Nat) ((Nat → Nat) × Nat)
  | 0, _, _ => .error (0, 0)
  | f + 1, s, p => if w_kd b n q p = 59 then .ok (s, p) else match k_look b n q g kinds p with
    | .error e => .error e
    | .ok k => if s (to + k) ≠ 0 then .error (3, w_pl b n q p) else match k_num b n q 1 9 (w_nx b n q p) with
      | .error e => .error e
      | .ok r => k_am b n q g kinds to f (b_s s (to + k) r.1) r.2
theorem k_am_1 {b : Nat → Nat} {n q : Nat} {g : Nat → Nat} {kinds to f : Nat} {s : Nat → Nat} {p : Nat} (h : w_kd b n q p = 59) : k_am b n q g kinds to (f + 1) s p = .ok (s, p) := by
  unfold k_am
  exact if_pos h
theorem k_am_2 {b : Nat → Nat} {n q : Nat} {g : Nat → Nat} {kinds to f : Nat} {s : Nat → Nat} {p : Nat} {e : Nat × Nat} (h : w_kd b n q p ≠ 59) (h2 : k_look b n q g kinds p = .error e) : k_am b n q g kinds to (f + 1) s p = .error e := by
  unfold k_am
  rw [if_neg h, h2]
theorem k_am_3 {b : Nat → Nat} {n q : Nat} {g : Nat → Nat} {kinds to f : Nat} {s : Nat → Nat} {p k : Nat} (h : w_kd b n q p ≠ 59) (h2 : k_look b n q g kinds p = .ok k) (h3 : s (to + k) ≠ 0) : k_am b n q g kinds to (f + 1) s p = .error (3, w_pl b n q p) := by
  unfold k_am
  rw [if_neg h, h2]
  exact if_pos h3
theorem k_am_4 {b : Nat → Nat} {n q : Nat} {g : Nat → Nat} {kinds to f : Nat} {s : Nat → Nat} {p k : Nat} {e : Nat × Nat} (h : w_kd b n q p ≠ 59) (h2 : k_look b n q g kinds p = .ok k) (h3 : s (to + k) = 0) (h4 : k_num b n q 1 9 (w_nx b n q p) = .error e) : k_am b n q g kinds to (f + 1) s p = .error e := by
  unfold k_am
  rw [if_neg h, h2]
  show (if s (to + k) ≠ 0 then _ else _) = _
  rw [if_neg (fun y => y h3), h4]
theorem k_am_5 {b : Nat → Nat} {n q : Nat} {g : Nat → Nat} {kinds to f : Nat} {s : Nat → Nat} {p k : Nat} {r : Nat × Nat} (h : w_kd b n q p ≠ 59) (h2 : k_look b n q g kinds p = .ok k) (h3 : s (to + k) = 0) (h4 : k_num b n q 1 9 (w_nx b n q p) = .ok r) : k_am b n q g kinds to (f + 1) s p = k_am b n q g kinds to f (b_s s (to + k) r.1) r.2 := by
  have : k_am b n q g kinds to (f + 1) s p = if w_kd b n q p = 59 then .ok (s, p) else match k_look b n q g kinds p with
    | .error e => .error e
    | .ok k => if s (to + k) ≠ 0 then .error (3, w_pl b n q p) else match k_num b n q 1 9 (w_nx b n q p) with
      | .error e => .error e
      | .ok r => k_am b n q g kinds to f (b_s s (to + k) r.1) r.2 := rfl
  rw [this, if_neg h, h2]
  show (if s (to + k) ≠ 0 then _ else _) = _
  rw [if_neg (fun y => y h3), h4]
/-- the reference while it reads a market -/
def y_S (m j : Nat → Nat → Nat) (b : Nat → Nat) (n q : Nat) (s g : Nat → Nat) (dk p : Nat) : Prop :=
  (y_X m j b n q) ∧
  (l_M m j b n q p) ∧
  (y_N j g s) ∧
  (∀ x, x < 157 → m 237 x = s x ∧ s x < 1000) ∧
  (m 234 20 = dk) ∧
  (p ≤ n)
theorem y_S_x {m j : Nat → Nat → Nat} {b : Nat → Nat} {n q : Nat} {s g : Nat → Nat} {dk p : Nat} (h : y_S m j b n q s g dk p) : y_X m j b n q := h.1
theorem y_S_l {m j : Nat → Nat → Nat} {b : Nat → Nat} {n q : Nat} {s g : Nat → Nat} {dk p : Nat} (h : y_S m j b n q s g dk p) : l_M m j b n q p := h.2.1
theorem y_S_N {m j : Nat → Nat → Nat} {b : Nat → Nat} {n q : Nat} {s g : Nat → Nat} {dk p : Nat} (h : y_S m j b n q s g dk p) : y_N j g s := h.2.2.1
theorem y_S_s {m j : Nat → Nat → Nat} {b : Nat → Nat} {n q : Nat} {s g : Nat → Nat} {dk p : Nat} (h : y_S m j b n q s g dk p) : ∀ x, x < 157 → m 237 x = s x ∧ s x < 1000 := h.2.2.2.1
theorem y_S_d {m j : Nat → Nat → Nat} {b : Nat → Nat} {n q : Nat} {s g : Nat → Nat} {dk p : Nat} (h : y_S m j b n q s g dk p) : m 234 20 = dk := h.2.2.2.2.1
theorem y_S_p {m j : Nat → Nat → Nat} {b : Nat → Nat} {n q : Nat} {s g : Nat → Nat} {dk p : Nat} (h : y_S m j b n q s g dk p) : p ≤ n := h.2.2.2.2.2
def y_fr (m m2 j j2 : Nat → Nat → Nat) : Prop := (∀ c, c ≠ 234 → c ≠ 237 → m2 c = m c) ∧ (∀ c x, c ≠ 234 → (c ≠ 239 ∨ x < 30) → j2 c x = j c x) ∧ ∀ k, k ≠ 4 → k ≠ 11 → k ≠ 12 → k ≠ 13 → k ≠ 14 → k ≠ 18 → k ≠ 20 → m2 234 k = m 234 k
def y_E (m m2 j j2 : Nat → Nat → Nat) (e : Nat × Nat) : Prop := m2 234 15 = e.1 ∧ m2 234 16 = e.2 ∧ (∀ c, c ≠ 234 → c ≠ 237 → m2 c = m c) ∧ (∀ c x, c ≠ 234 → (c ≠ 239 ∨ x < 30) → j2 c x = j c x) ∧ ∀ k, k ≠ 4 → k ≠ 11 → k ≠ 12 → k ≠ 13 → k ≠ 14 → k ≠ 15 → k ≠ 16 → k ≠ 18 → k ≠ 20 → m2 234 k = m 234 k
theorem y_fr_r {m j : Nat → Nat → Nat} : y_fr m m j j := ⟨fun _ _ _ => rfl, fun _ _ _ _ => rfl, fun _ _ _ _ _ _ _ _ => rfl⟩
theorem y_fr_t {m m2 m3 j j2 j3 : Nat → Nat → Nat} (h : y_fr m m2 j j2) (y : y_fr m2 m3 j2 j3) : y_fr m m3 j j3 :=
  ⟨fun c h1 h2 => (y.1 c h1 h2).trans (h.1 c h1 h2), fun c x h1 h2 => (y.2.1 c x h1 h2).trans (h.2.1 c x h1 h2), fun k h1 h2 h3 h4 h5 h6 h7 => (y.2.2 k h1 h2 h3 h4 h5 h6 h7).trans (h.2.2 k h1 h2 h3 h4 h5 h6 h7)⟩
theorem y_E_t {m m2 m3 j j2 j3 : Nat → Nat → Nat} {e : Nat × Nat} (h : y_fr m m2 j j2) (y : y_E m2 m3 j2 j3 e) : y_E m m3 j j3 e :=
  ⟨y.1, y.2.1, fun c h1 h2 => (y.2.2.1 c h1 h2).trans (h.1 c h1 h2), fun c x h1 h2 => (y.2.2.2.1 c x h1 h2).trans (h.2.1 c x h1 h2), fun k h1 h2 h3 h4 h5 h6 h7 h8 h9 => (y.2.2.2.2 k h1 h2 h3 h4 h5 h6 h7 h8 h9).trans (h.2.2 k h1 h2 h3 h4 h5 h8 h9)⟩
theorem y_E_x {m m2 j j2 : Nat → Nat → Nat} {e : Nat × Nat} (h : x_M m m2 j j2 e) : y_E m m2 j j2 e :=
  ⟨h.1, h.2.1, fun c h1 _ => h.2.2.1 c h1, fun c x h1 _ => congrFun (h.2.2.2.1 c h1) x, fun k h1 h2 h3 h4 h5 h6 h7 h8 _ => h.2.2.2.2 k h1 h2 h3 h4 h5 h6 h7 h8⟩
/-- behind a token -/
theorem y_S_o {m m2 j j2 : Nat → Nat → Nat} {b : Nat → Nat} {n q : Nat} {s g : Nat → Nat} {dk p p2 : Nat} (h : y_S m j b n q s g dk p) (o : o_M m m2 j j2 b n q p2) : y_S m2 j2 b n q s g dk p2 ∧ y_fr m m2 j j2 := by
  obtain ⟨h1, h2, h3, h4, h5, h6⟩ := h
  obtain ⟨o1, o2, o3, o4, o5⟩ := o
  have e1 := o3 237 (by decide)
  have e2 := o4 239 (by decide)
  refine ⟨⟨y_X_fr h1 (o3 235 (by decide)) (o4 240 (by decide)), o1, ?_, fun x hx => by rw [e1]; exact h4 x hx, (o5 20 (by decide) (by decide) (by decide) (by decide) (by decide) (by decide)).trans h5, o2⟩, fun c c1 _ => o3 c c1, fun c x c1 _ => congrFun (o4 c c1) x, fun k k1 k2 k3 k4 k5 k6 _ => o5 k k1 k2 k3 k4 k5 k6⟩
  unfold y_N at h3 ⊢
  rw [e2]
  exact h3
/-- got is set -/
theorem y_S_18 {m j : Nat → Nat → Nat} {b : Nat → Nat} {n q : Nat} {s g : Nat → Nat} {dk p v : Nat} (h : y_S m j b n q s g dk p) : y_S (b_r m 234 (b_s (m 234) 18 v)) j b n q s g dk p ∧ y_fr m (b_r m 234 (b_s (m 234) 18 v)) j j := by
  obtain ⟨h1, h2, h3, h4, h5, h6⟩ := h
  exact ⟨⟨y_X_fr h1 (b_rn (by decide)) rfl, l_M_18 h2 (by decide) (by decide) (by decide) (by decide) (by decide) (by decide), h3, fun x hx => by rw [b_rn (by decide)]; exact h4 x hx, by rw [b_rs, b_sn (by decide)]; exact h5, h6⟩, fun c c1 _ => b_rn c1, fun _ _ _ _ => rfl, fun k _ _ _ _ _ k6 _ => by rw [b_rs, b_sn k6]⟩
/-- a number is put -/
theorem y_S_put {m j : Nat → Nat → Nat} {b : Nat → Nat} {n q : Nat} {s g : Nat → Nat} {dk p v to : Nat} (h : y_S m j b n q s g dk p) (ht : 4 ≤ to) (hv : v < 1000) : y_S (b_r m 237 (b_s (m 237) to v)) j b n q (b_s s to v) g dk p ∧ y_fr m (b_r m 237 (b_s (m 237) to v)) j j := by
  obtain ⟨h1, h2, h3, h4, h5, h6⟩ := h
  refine ⟨⟨y_X_fr h1 (b_rn (by decide)) rfl, l_M_c h2 (b_rn (by decide)) rfl, ?_, fun x hx => ?_, by rw [b_rn (by decide)]; exact h5, h6⟩, fun c _ c2 => b_rn c2, fun _ _ _ _ => rfl, fun k _ _ _ _ _ _ _ => by rw [b_rn (by decide)]⟩
  · unfold y_N at h3 ⊢
    rw [b_sn (by omega), b_sn (by omega), b_sn (by omega), b_sn (by omega)]
    exact h3
  · rw [b_rs]
    by_cases c : x = to
    · rw [c, b_ss, b_ss]
      exact ⟨rfl, hv⟩
    · rw [b_sn c, b_sn c]
      exact h4 x hx
/-- what a reading of amounts answers -/
def y_A (m j : Nat → Nat → Nat) (w : (Nat × Nat) × Bool) (b : Nat → Nat) (n q : Nat) (g : Nat → Nat) (dk : Nat) (E : Except (Nat × Nat) ((Nat → Nat) × Nat)) (r : A_R) : Prop := match E with
  | .ok y => ∃ m2 j2, r = some (b_h m2 j2 w, some (.int (nI 1))) ∧ y_S m2 j2 b n q y.1 g dk y.2 ∧ y_fr m m2 j j2
  | .error e => ∃ m2 j2, r = some (b_h m2 j2 w, some (.int (nI 0))) ∧ y_E m m2 j j2 e
theorem y_A_o {m j m2 j2 : Nat → Nat → Nat} {w : (Nat × Nat) × Bool} {b : Nat → Nat} {n q : Nat} {g : Nat → Nat} {dk : Nat} {E : Except (Nat × Nat) ((Nat → Nat) × Nat)} {r : A_R} {y : (Nat → Nat) × Nat} (hE : E = .ok y) (h1 : r = some (b_h m2 j2 w, some (.int (nI 1)))) (h2 : y_S m2 j2 b n q y.1 g dk y.2) (h3 : y_fr m m2 j j2) : y_A m j w b n q g dk E r := by
  rw [hE]
  exact ⟨m2, j2, h1, h2, h3⟩
theorem y_A_e {m j m2 j2 : Nat → Nat → Nat} {w : (Nat × Nat) × Bool} {b : Nat → Nat} {n q : Nat} {g : Nat → Nat} {dk : Nat} {E : Except (Nat × Nat) ((Nat → Nat) × Nat)} {r : A_R} {e : Nat × Nat} (hE : E = .error e) (h1 : r = some (b_h m2 j2 w, some (.int (nI 0)))) (h2 : y_E m m2 j j2 e) : y_A m j w b n q g dk E r := by
  rw [hE]
  exact ⟨m2, j2, h1, h2⟩
