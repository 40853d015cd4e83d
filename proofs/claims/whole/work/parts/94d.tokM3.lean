/-! TEXTS: the reference's names -/
/-- is this the name of anything? g: the words of the names, by w_base and number -/
def k_used (g s : Nat → Nat) (L : Nat) : Bool := decide (w_fd g L (s 0) ≠ 4294967295 ∨ w_fd (fun k => g (6 + k)) L (s 1) ≠ 4294967295 ∨ w_fd (fun k => g (12 + k)) L (s 2) ≠ 4294967295 ∨ w_fd (fun k => g (20 + k)) L (s 3) ≠ 4294967295)
def k_fresh (b : Nat → Nat) (n q : Nat) (g s : Nat → Nat) (p : Nat) : Except (Nat × Nat) Nat := if k_isn b n q p = true then (if k_used g s (w_conv (w_le b n q p)) = true then .error (3, w_pl b n q p) else .ok (w_nx b n q p)) else .error (1, w_pl b n q p)
def y_N (j : Nat → Nat → Nat) (g s : Nat → Nat) : Prop :=
  (s 0 ≤ 6) ∧
  (s 1 ≤ 6) ∧
  (s 2 ≤ 8) ∧
  (s 3 ≤ 10) ∧
  (∀ x, x < 30 → j 239 (30 + x) = g x) ∧
  (∀ k, k < s 0 → g k < 9223372036854775808) ∧
  (∀ k, k < s 1 → g (6 + k) < 9223372036854775808) ∧
  (∀ k, k < s 2 → g (12 + k) < 9223372036854775808) ∧
  (∀ k, k < s 3 → g (20 + k) < 9223372036854775808)
theorem y_N_K {j : Nat → Nat → Nat} {g s : Nat → Nat} (h : y_N j g s) : s 0 ≤ 6 := h.1
theorem y_N_M {j : Nat → Nat → Nat} {g s : Nat → Nat} (h : y_N j g s) : s 1 ≤ 6 := h.2.1
theorem y_N_T {j : Nat → Nat → Nat} {g s : Nat → Nat} (h : y_N j g s) : s 2 ≤ 8 := h.2.2.1
theorem y_N_E {j : Nat → Nat → Nat} {g s : Nat → Nat} (h : y_N j g s) : s 3 ≤ 10 := h.2.2.2.1
theorem y_N_al {j : Nat → Nat → Nat} {g s : Nat → Nat} (h : y_N j g s) : ∀ x, x < 30 → j 239 (30 + x) = g x := h.2.2.2.2.1
theorem y_N_k0 {j : Nat → Nat → Nat} {g s : Nat → Nat} (h : y_N j g s) : ∀ k, k < s 0 → g k < 9223372036854775808 := h.2.2.2.2.2.1
theorem y_N_k1 {j : Nat → Nat → Nat} {g s : Nat → Nat} (h : y_N j g s) : ∀ k, k < s 1 → g (6 + k) < 9223372036854775808 := h.2.2.2.2.2.2.1
theorem y_N_k2 {j : Nat → Nat → Nat} {g s : Nat → Nat} (h : y_N j g s) : ∀ k, k < s 2 → g (12 + k) < 9223372036854775808 := h.2.2.2.2.2.2.2.1
theorem y_N_k3 {j : Nat → Nat → Nat} {g s : Nat → Nat} (h : y_N j g s) : ∀ k, k < s 3 → g (20 + k) < 9223372036854775808 := h.2.2.2.2.2.2.2.2
theorem y_N_n0 {j : Nat → Nat → Nat} {g s : Nat → Nat} (h : y_N j g s) : ∀ k, k < s 0 → j 239 (30 + k) = g k ∧ g k < 9223372036854775808 :=
  fun k hk => ⟨y_N_al h k (by have := y_N_K h; omega), y_N_k0 h k hk⟩
theorem y_N_n1 {j : Nat → Nat → Nat} {g s : Nat → Nat} (h : y_N j g s) : ∀ k, k < s 1 → j 239 (36 + k) = (fun k => g (6 + k)) k ∧ (fun k => g (6 + k)) k < 9223372036854775808 :=
  fun k hk => ⟨by have h1 := y_N_M h; have h2 := y_N_al h (6 + k) (by omega); rw [show 30 + (6 + k) = 36 + k by omega] at h2; exact h2, y_N_k1 h k hk⟩
theorem y_N_n2 {j : Nat → Nat → Nat} {g s : Nat → Nat} (h : y_N j g s) : ∀ k, k < s 2 → j 239 (42 + k) = (fun k => g (12 + k)) k ∧ (fun k => g (12 + k)) k < 9223372036854775808 :=
  fun k hk => ⟨by have h1 := y_N_T h; have h2 := y_N_al h (12 + k) (by omega); rw [show 30 + (12 + k) = 42 + k by omega] at h2; exact h2, y_N_k2 h k hk⟩
theorem y_N_n3 {j : Nat → Nat → Nat} {g s : Nat → Nat} (h : y_N j g s) : ∀ k, k < s 3 → j 239 (50 + k) = (fun k => g (20 + k)) k ∧ (fun k => g (20 + k)) k < 9223372036854775808 :=
  fun k hk => ⟨by have h1 := y_N_E h; have h2 := y_N_al h (20 + k) (by omega); rw [show 30 + (20 + k) = 50 + k by omega] at h2; exact h2, y_N_k3 h k hk⟩
theorem l_M_18 {m j : Nat → Nat → Nat} {b : Nat → Nat} {n q p v k : Nat} (h : l_M m j b n q p) (h3 : k ≠ 3) (h4 : k ≠ 4) (h5 : k ≠ 5) (h11 : k ≠ 11) (h12 : k ≠ 12) (h14 : k ≠ 14) : l_M (b_r m 234 (b_s (m 234) k v)) j b n q p := by
  obtain ⟨a1, a2, a3, a4, a5, a6, a7, a8⟩ := h
  refine ⟨?_, ?_, ?_, ?_, ?_, ?_, ?_, a8⟩
  all_goals rw [b_rs, b_sn (by first | exact Ne.symm h3 | exact Ne.symm h4 | exact Ne.symm h5 | exact Ne.symm h11 | exact Ne.symm h12 | exact Ne.symm h14)]
  all_goals assumption
theorem l_M_c {m m2 j j2 : Nat → Nat → Nat} {b : Nat → Nat} {n q p : Nat} (h : l_M m j b n q p) (h1 : m2 234 = m 234) (h2 : j2 234 = j 234) : l_M m2 j2 b n q p := by
  obtain ⟨a1, a2, a3, a4, a5, a6, a7, a8⟩ := h
  refine ⟨?_, ?_, ?_, ?_, ?_, ?_, ?_, ?_⟩
  · rw [h1]; exact a1
  · rw [h1]; exact a2
  · rw [h1]; exact a3
  · rw [h1]; exact a4
  · rw [h1]; exact a5
  · rw [h1]; exact a6
  · rw [h1]; exact a7
  · rw [h2]; exact a8
section TM3
variable {X : Nat × (Nat → Int32)} {tx : List Int32} {D : Nat} {m j : Nat → Nat → Nat} {w : (Nat × Nat) × Bool} {b : Nat → Nat} {n q p : Nat}
theorem k_isn_1 (h : k_isn b n q p = true) : w_kd b n q p = 1 := (of_decide_eq_true (show decide (w_kd b n q p = 1 ∧ w_ky b n q p = 4294967295) = true from h)).1
theorem s_Mo_looksAt (hX : y_X m j b n q) (h : l_M m j b n q p) (hD : 3 ≤ D) {fr many : Nat} {g : Nat → Nat} (hm : fr + many ≤ 60) (hn : ∀ k, k < many → j 239 (fr + k) = g k ∧ g k < 9223372036854775808) : match k_look b n q g many p with
    | .ok k => k < many ∧ a_ex X tx a_T D 221 [.ref 234, .int (nI fr), .int (nI many)] (b_h m j w) = some (b_h (b_r m 234 (b_s (m 234) 18 k)) j w, some (.int (nI 1)))
    | .error e => ∃ m2 j2, a_ex X tx a_T D 221 [.ref 234, .int (nI fr), .int (nI many)] (b_h m j w) = some (b_h m2 j2 w, some (.int (nI 0))) ∧ x_M m m2 j j2 e := by
  obtain ⟨d, rfl⟩ : ∃ d, D = d + 1 := ⟨D - 1, by omega⟩
  have s1 := s_Mo_isName (X := X) (tx := tx) (D := d) (m := m) (j := j) (w := w) hX h (by omega)
  have s2 := fun k => s_Mo_bad (X := X) (tx := tx) (D := d) (m := m) (j := j) (w := w) h (by omega) (k := k)
  unfold k_look
  by_cases c1 : k_isn b n q p = true
  · have s3 := s_Mo_find (X := X) (tx := tx) (D := d) (m := m) (j := j) (w := w) h (y_X_b hX) (k_isn_1 c1) (by omega) hm hn
    rw [if_pos c1]
    rw [c1] at s1
    by_cases c2 : w_fd g (w_conv (w_le b n q p)) many = 4294967295
    · rw [if_pos c2]
      rw [c2] at s3
      have hl := l_M_18 (v := 4294967295) (k := 18) h (by decide) (by decide) (by decide) (by decide) (by decide) (by decide)
      have s4 := s_Mo_bad (X := X) (tx := tx) (D := d) (w := w) hl (by omega) (k := 3)
      refine ⟨b_r m 234 (b_s (b_s (b_s (m 234) 18 4294967295) 15 3) 16 (w_pl b n q p)), j, ?_, ?_⟩
      · rw [e_Mo_looksAt, q_Mo_looksAt_0]
        simp (disch := omega) only [s1, s3, s4, Nat.one_ne_zero, ↓bc_234, ↓b_t0, ↓b_t1, ↓b_t2, ↓b_t3, ↓b_t4, ↓b_t5, ↓b_t6, Nat.zero_add, Nat.le_refl, b_rs, b_rn, b_r2, b_ss, b_sn, b_bt, b_bf, b_b0, b_b1, b_bw, b_shl, b_or, b_iv, b_jv, b_sI, b_sJ, ↓z_hl, z_b0, z_b1, z_b2, b_and1c, b_and1z, if_true, if_false, nI_add, pk_mul, b_cl, b_lt, b_le, b_eq, b_eq0, b_le0, b_0lt, b_0le, b_lt0]
        rw [if_neg (show ¬ (0 : Int32) ≤ nI 4294967295 from by decide +kernel)]
      · exact ⟨by rw [b_rs, b_sn (by decide), b_ss], by rw [b_rs, b_ss], fun c hc => b_rn hc, fun _ _ => rfl, fun k _ _ _ _ _ h1 h2 h3 => by rw [b_rs, b_sn h2, b_sn h1, b_sn h3]⟩
    · rw [if_neg c2]
      have c3 : w_fd g (w_conv (w_le b n q p)) many < many := by
        rcases w_fd_le (g := g) (L := w_conv (w_le b n q p)) (many := many) with a | a
        · exact absurd a c2
        · exact a
      refine ⟨c3, ?_⟩
      rw [e_Mo_looksAt, q_Mo_looksAt_0]
      generalize w_fd g (w_conv (w_le b n q p)) many = r at c3 s3 ⊢
      simp (disch := omega) only [s1, s3, Nat.one_ne_zero, ↓bc_234, ↓b_t0, ↓b_t1, ↓b_t2, ↓b_t3, ↓b_t4, ↓b_t5, ↓b_t6, Nat.zero_add, Nat.le_refl, b_rs, b_rn, b_r2, b_ss, b_sn, b_bt, b_bf, b_b0, b_b1, b_bw, b_shl, b_or, b_iv, b_jv, b_sI, b_sJ, ↓z_hl, z_b0, z_b1, z_b2, b_and1c, b_and1z, if_true, if_false, nI_add, pk_mul, b_cl, b_lt, b_le, b_eq, b_eq0, b_le0, b_0lt, b_0le, b_lt0]
  · rw [if_neg c1]
    rw [Bool.not_eq_true] at c1
    rw [c1] at s1
    refine ⟨_, j, ?_, x_M_bad⟩
    rw [e_Mo_looksAt, q_Mo_looksAt_0]
    simp (disch := omega) only [s1, s2, ↓bc_234, ↓b_t0, ↓b_t1, ↓b_t2, ↓b_t3, ↓b_t4, ↓b_t5, ↓b_t6, Nat.zero_add, Nat.le_refl, b_rs, b_rn, b_r2, b_ss, b_sn, b_bt, b_bf, b_b0, b_b1, b_bw, b_shl, b_or, b_iv, b_jv, b_sI, b_sJ, ↓z_hl, z_b0, z_b1, z_b2, b_and1c, b_and1z, if_true, if_false, nI_add, pk_mul, b_cl, b_lt, b_le, b_eq, b_eq0, b_le0, b_0lt, b_0le, b_lt0]
theorem s_Mo_takesName (hX : y_X m j b n q) (h : l_M m j b n q p) (hD : 4 ≤ D) {fr many : Nat} {g : Nat → Nat} (hm : fr + many ≤ 60) (hn : ∀ k, k < many → j 239 (fr + k) = g k ∧ g k < 9223372036854775808) : match k_look b n q g many p with
    | .ok k => ∃ m2 j2, k < many ∧ a_ex X tx a_T D 222 [.ref 234, .int (nI fr), .int (nI many)] (b_h m j w) = some (b_h m2 j2 w, some (.int (nI 1))) ∧ o_M m m2 j j2 b n q (w_nx b n q p) ∧ m2 234 18 = k
    | .error e => ∃ m2 j2, a_ex X tx a_T D 222 [.ref 234, .int (nI fr), .int (nI many)] (b_h m j w) = some (b_h m2 j2 w, some (.int (nI 0))) ∧ x_M m m2 j j2 e := by
  obtain ⟨d, rfl⟩ : ∃ d, D = d + 1 := ⟨D - 1, by omega⟩
  have s1 := s_Mo_looksAt (X := X) (tx := tx) (D := d) (m := m) (j := j) (w := w) hX h (by omega) hm hn
  have hw : ∀ k, k_look b n q g many p = .ok k → w_kd b n q p = 1 := fun k hk => by
    unfold k_look at hk
    by_cases c : k_isn b n q p = true
    · exact k_isn_1 c
    · rw [if_neg c] at hk
      exact absurd hk (by simp only [reduceCtorEq, not_false_eq_true])
  cases hr : k_look b n q g many p with
  | ok k =>
    rw [hr] at s1
    obtain ⟨s0, s1⟩ := s1
    have hl := l_M_18 (v := k) (k := 18) h (by decide) (by decide) (by decide) (by decide) (by decide) (by decide)
    have hX2 : y_X (b_r m 234 (b_s (m 234) 18 k)) j b n q := y_X_fr hX (b_rn (by decide)) rfl
    have h1 := hw k hr
    obtain ⟨m2, j2, e1, e2, e3⟩ := s_Mo_nextT (X := X) (tx := tx) (D := d) (w := w) hX2 hl (w_kd_in (by omega) (by omega)) (by omega)
    refine ⟨m2, j2, s0, ?_, ⟨e2.1, e2.2.1, fun c hc => (e2.2.2.1 c hc).trans (b_rn hc), e2.2.2.2.1, fun k g1 g2 g3 g4 g5 g6 => (e2.2.2.2.2 k g1 g2 g3 g4 g5 g6).trans (by rw [b_rs, b_sn g6])⟩, e3.trans (by rw [b_rs, b_ss])⟩
    rw [e_Mo_takesName, q_Mo_takesName_0]
    simp (disch := omega) only [s1, e1, Nat.one_ne_zero, ↓bc_234, ↓b_t0, ↓b_t1, ↓b_t2, ↓b_t3, ↓b_t4, ↓b_t5, ↓b_t6, Nat.zero_add, Nat.le_refl, b_rs, b_rn, b_r2, b_ss, b_sn, b_bt, b_bf, b_b0, b_b1, b_bw, b_shl, b_or, b_iv, b_jv, b_sI, b_sJ, ↓z_hl, z_b0, z_b1, z_b2, b_and1c, b_and1z, if_true, if_false, nI_add, pk_mul, b_cl, b_lt, b_le, b_eq, b_eq0, b_le0, b_0lt, b_0le, b_lt0]
  | error e =>
    rw [hr] at s1
    obtain ⟨m2, j2, e1, e2⟩ := s1
    refine ⟨m2, j2, ?_, e2⟩
    rw [e_Mo_takesName, q_Mo_takesName_0]
    simp (disch := omega) only [e1, ↓bc_234, ↓b_t0, ↓b_t1, ↓b_t2, ↓b_t3, ↓b_t4, ↓b_t5, ↓b_t6, Nat.zero_add, Nat.le_refl, b_rs, b_rn, b_r2, b_ss, b_sn, b_bt, b_bf, b_b0, b_b1, b_bw, b_shl, b_or, b_iv, b_jv, b_sI, b_sJ, ↓z_hl, z_b0, z_b1, z_b2, b_and1c, b_and1z, if_true, if_false, nI_add, pk_mul, b_cl, b_lt, b_le, b_eq, b_eq0, b_le0, b_0lt, b_0le, b_lt0]
theorem s_Mo_puts (hX : y_X m j b n q) (h : l_M m j b n q p) (hD : 4 ≤ D) {to lo hi : Nat} (ht : to < 157) (hlo : lo < 2000) (hhi : hi < 2000) : match k_num b n q lo hi p with
    | .ok r => ∃ m2 j2, a_ex X tx a_T D 218 [.ref 234, .int (nI to), .int (nI lo), .int (nI hi)] (b_h m j w) = some (b_h (b_r m2 237 (b_s (m 237) to r.1)) j2 w, some (.int (nI 1))) ∧ o_M m m2 j j2 b n q r.2 ∧ lo ≤ r.1 ∧ r.1 ≤ hi ∧ r.1 < 1000
    | .error e => ∃ m2 j2, a_ex X tx a_T D 218 [.ref 234, .int (nI to), .int (nI lo), .int (nI hi)] (b_h m j w) = some (b_h m2 j2 w, some (.int (nI 0))) ∧ x_M m m2 j j2 e := by
  obtain ⟨d, rfl⟩ : ∃ d, D = d + 1 := ⟨D - 1, by omega⟩
  have s1 := s_Mo_takes (X := X) (tx := tx) (D := d) (m := m) (j := j) (w := w) hX h (by omega) hlo hhi
  cases hr : k_num b n q lo hi p with
  | ok r =>
    rw [hr] at s1
    obtain ⟨m2, j2, e1, e2, e3, e4⟩ := s1
    refine ⟨m2, j2, ?_, e2, e4⟩
    have e5 := e2.2.2.1 237 (by decide)
    rw [e_Mo_puts, q_Mo_puts_0]
    simp (disch := omega) only [e1, e3, e5, Nat.one_ne_zero, ↓bc_234, ↓br_234_7, ↓bc_237, ↓bx_237, bl_237, ↓b_t0, ↓b_t1, ↓b_t2, ↓b_t3, ↓b_t4, ↓b_t5, ↓b_t6, Nat.zero_add, Nat.le_refl, b_rs, b_rn, b_r2, b_ss, b_sn, b_bt, b_bf, b_b0, b_b1, b_bw, b_shl, b_or, b_iv, b_jv, b_sI, b_sJ, ↓z_hl, z_b0, z_b1, z_b2, b_and1c, b_and1z, if_true, if_false, nI_add, pk_mul, b_cl, b_lt, b_le, b_eq, b_eq0, b_le0, b_0lt, b_0le, b_lt0]
  | error e =>
    rw [hr] at s1
    obtain ⟨m2, j2, e1, e2⟩ := s1
    refine ⟨m2, j2, ?_, e2⟩
    rw [e_Mo_puts, q_Mo_puts_0]
    simp (disch := omega) only [e1, ↓bc_234, ↓br_234_7, ↓bc_237, ↓bx_237, bl_237, ↓b_t0, ↓b_t1, ↓b_t2, ↓b_t3, ↓b_t4, ↓b_t5, ↓b_t6, Nat.zero_add, Nat.le_refl, b_rs, b_rn, b_r2, b_ss, b_sn, b_bt, b_bf, b_b0, b_b1, b_bw, b_shl, b_or, b_iv, b_jv, b_sI, b_sJ, ↓z_hl, z_b0, z_b1, z_b2, b_and1c, b_and1z, if_true, if_false, nI_add, pk_mul, b_cl, b_lt, b_le, b_eq, b_eq0, b_le0, b_0lt, b_0le, b_lt0]
end TM3
