/-! TEXTS: what is taken at a token; the class's side -/
theorem w_kd_lt {b : Nat → Nat} {n q p : Nat} (hb : ∀ x, x < n → b x < 256) : w_kd b n q p < 256 := by
  unfold w_kd
  split
  · rename_i h
    unfold w_kn
    split
    · split
      · exact hb _ (by omega)
      · decide
    · have := w_rk_b (b := b) (i := w_pb2 b n q p) (e := w_re b n (w_pb2 b n q p))
      omega
  · split <;> decide
theorem w_ky_lt {b : Nat → Nat} {n q p : Nat} : w_ky b n q p = 4294967295 ∨ w_ky b n q p < 19 := by
  unfold w_ky
  split
  · rcases w_kyn_lt (L := w_le b n q p) 19 with h | h
    · exact Or.inl h
    · exact Or.inr h.1
  · exact Or.inl rfl
theorem w_pl_le {b : Nat → Nat} {n q p : Nat} : w_pl b n q p ≤ n := by
  unfold w_pl
  split <;> omega
/-- within the text one goes on -/
theorem w_nx_in {b : Nat → Nat} {n q p : Nat} (h : w_pb2 b n q p < min n q) : p < w_nx b n q p ∧ w_nx b n q p ≤ n := by
  obtain ⟨a1, a2, a3, a4⟩ := w_sk_le (b := b) (u := min n q) (p := p)
  obtain ⟨g1, g2, g3, g4⟩ := w_re_le (b := b) (n := n) (i := w_pb2 b n q p)
  have a1 : p ≤ w_pb2 b n q p := a1
  have g2 := g2 (by omega)
  unfold w_nx
  rw [if_pos h]
  split <;> omega
theorem w_kd_in {b : Nat → Nat} {n q p : Nat} (h3 : w_kd b n q p ≠ 3) (h4 : w_kd b n q p ≠ 4) : w_pb2 b n q p < min n q := by
  refine Classical.byContradiction fun g => ?_
  unfold w_kd at h3 h4
  rw [if_neg g] at h3 h4
  split at h3
  · exact h3 rfl
  · rename_i h; rw [if_neg h] at h4; exact h4 rfl
theorem w_va_lt {b : Nat → Nat} {n q p : Nat} (hb : ∀ x, x < n → b x < 256) (h : w_kd b n q p = 2) : w_va b n q p < 1000 := by
  have hin := w_kd_in (b := b) (n := n) (q := q) (p := p) (by omega) (by omega)
  have h1 : w_kd b n q p = w_kn b n (w_pb2 b n q p) := if_pos hin
  have h2 : w_kn b n (w_pb2 b n q p) = if w_re b n (w_pb2 b n q p) = w_pb2 b n q p then (if z_sg (b (w_pb2 b n q p)) = true then b (w_pb2 b n q p) else 0) else w_rk b (w_pb2 b n q p) (w_re b n (w_pb2 b n q p)) := rfl
  rw [h1, h2] at h
  split at h
  · split at h
    · rename_i hs
      have := of_decide_eq_true (show decide (b (w_pb2 b n q p) = 59 ∨ b (w_pb2 b n q p) = 60 ∨ b (w_pb2 b n q p) = 61 ∨ b (w_pb2 b n q p) = 62 ∨ b (w_pb2 b n q p) = 40 ∨ b (w_pb2 b n q p) = 41) = true from hs)
      omega
    · omega
  · exact (w_rk_2 (b := b) (n := n) (i := w_pb2 b n q p) (by omega) hb h).1
theorem w_le_lt {b : Nat → Nat} {n q p : Nat} (hb : ∀ x, x < n → b x < 256) (h : w_kd b n q p = 1) : w_le b n q p < 34359738368 := by
  have hin := w_kd_in (b := b) (n := n) (q := q) (p := p) (by omega) (by omega)
  have h1 : w_kd b n q p = w_kn b n (w_pb2 b n q p) := if_pos hin
  have h2 : w_kn b n (w_pb2 b n q p) = if w_re b n (w_pb2 b n q p) = w_pb2 b n q p then (if z_sg (b (w_pb2 b n q p)) = true then b (w_pb2 b n q p) else 0) else w_rk b (w_pb2 b n q p) (w_re b n (w_pb2 b n q p)) := rfl
  rw [h1, h2] at h
  split at h
  · split at h
    · rename_i hs
      have := of_decide_eq_true (show decide (b (w_pb2 b n q p) = 59 ∨ b (w_pb2 b n q p) = 60 ∨ b (w_pb2 b n q p) = 61 ∨ b (w_pb2 b n q p) = 62 ∨ b (w_pb2 b n q p) = 40 ∨ b (w_pb2 b n q p) = 41) = true from hs)
      omega
    · omega
  · exact (w_rk_1 (b := b) (n := n) (i := w_pb2 b n q p) (by omega) hb h).1
/-- a sign is taken; a number -/
def k_sign (b : Nat → Nat) (n q c p : Nat) : Except (Nat × Nat) Nat := if w_kd b n q p = c then .ok (w_nx b n q p) else .error (1, w_pl b n q p)
def k_num (b : Nat → Nat) (n q lo hi p : Nat) : Except (Nat × Nat) (Nat × Nat) := if w_kd b n q p = 2 then (if lo ≤ w_va b n q p ∧ w_va b n q p ≤ hi then .ok (w_va b n q p, w_nx b n q p) else .error (2, w_pl b n q p)) else .error (1, w_pl b n q p)
/-- what all texts rest on: n bytes, q the most -/
def l_X (m j : Nat → Nat → Nat) (n q : Nat) : Prop := n ≤ 940 ∧ q ≤ 940 ∧ (∀ x, x < n → m 2 x < 256) ∧ ∀ k, k < 19 → j 3 k = w_wl k
/-- behind something taken by the class's tape: no fault -/
def o_C (m m2 j j2 : Nat → Nat → Nat) (n q p : Nat) : Prop := l_C m2 j2 n q p ∧ l_fr m m2 j j2 ∧ p ≤ n
/-- a fault -/
def x_C (m m2 j j2 : Nat → Nat → Nat) (e : Nat × Nat) : Prop := (∀ c, c ≠ 1 → m2 c = m c) ∧ (∀ c, c ≠ 1 → j2 c = j c) ∧ m2 1 10 = e.1 ∧ m2 1 11 = e.2
theorem l_X_fr {m m2 j j2 : Nat → Nat → Nat} {n q : Nat} (h : l_X m j n q) (h1 : m2 2 = m 2) (h2 : j2 3 = j 3) : l_X m2 j2 n q := by
  unfold l_X at h ⊢
  rw [h1, h2]
  exact h
section TC
variable {X : Nat × (Nat → Int32)} {tx : List Int32} {D : Nat} {m j : Nat → Nat → Nat} {w : (Nat × Nat) × Bool} {n q p : Nat}
theorem s_Ta_atEnd (hX : l_X m j n q) (h : l_C m j n q p) (hD : 1 ≤ D) : a_ex X tx a_T D 9 [.ref 1] (b_h m j w) = some ((b_h m j w), some (.int (nI (b_b (decide (w_kd (m 2) n q p = 3)))))) := by
  obtain ⟨d, rfl⟩ : ∃ d, D = d + 1 := ⟨D - 1, by omega⟩
  rw [e_Ta_atEnd, q_Ta_atEnd_0]
  have h1 := l_C_kd h
  have h2 := w_kd_lt (n := n) (q := q) (p := p) hX.2.2.1
  by_cases c : w_kd (m 2) n q p = 3
  · rw [decide_eq_true c]
    simp (disch := omega) only [h1, ↓bc_1, ↓b_t0, ↓b_t1, ↓b_t2, ↓b_t3, ↓b_t4, ↓b_t5, ↓b_t6, Nat.zero_add, Nat.le_refl, b_rs, b_rn, b_r2, b_ss, b_sn, b_bt, b_bf, b_b0, b_b1, b_bw, b_shl, b_or, b_iv, b_jv, b_sI, b_sJ, ↓z_hl, z_b0, z_b1, z_b2, b_and1c, b_and1z, if_true, if_false, nI_add, pk_mul, b_cl, b_lt, b_le, b_eq, b_eq0, b_le0, b_0lt, b_0le, b_lt0]
    rw [if_pos c]
  · rw [decide_eq_false c]
    simp (disch := omega) only [h1, ↓bc_1, ↓b_t0, ↓b_t1, ↓b_t2, ↓b_t3, ↓b_t4, ↓b_t5, ↓b_t6, Nat.zero_add, Nat.le_refl, b_rs, b_rn, b_r2, b_ss, b_sn, b_bt, b_bf, b_b0, b_b1, b_bw, b_shl, b_or, b_iv, b_jv, b_sI, b_sJ, ↓z_hl, z_b0, z_b1, z_b2, b_and1c, b_and1z, if_true, if_false, nI_add, pk_mul, b_cl, b_lt, b_le, b_eq, b_eq0, b_le0, b_0lt, b_0le, b_lt0]
    rw [if_neg c]
theorem s_Ta_atSign (hX : l_X m j n q) (h : l_C m j n q p) (hD : 1 ≤ D) {c : Nat} (hc : c < 256) : a_ex X tx a_T D 11 [.ref 1, .int (nI c)] (b_h m j w) = some ((b_h m j w), some (.int (nI (b_b (decide (w_kd (m 2) n q p = c)))))) := by
  obtain ⟨d, rfl⟩ : ∃ d, D = d + 1 := ⟨D - 1, by omega⟩
  rw [e_Ta_atSign, q_Ta_atSign_0]
  have h1 := l_C_kd h
  have h2 := w_kd_lt (n := n) (q := q) (p := p) hX.2.2.1
  by_cases c : w_kd (m 2) n q p = c
  · rw [decide_eq_true c]
    simp (disch := omega) only [h1, ↓bc_1, ↓b_t0, ↓b_t1, ↓b_t2, ↓b_t3, ↓b_t4, ↓b_t5, ↓b_t6, Nat.zero_add, Nat.le_refl, b_rs, b_rn, b_r2, b_ss, b_sn, b_bt, b_bf, b_b0, b_b1, b_bw, b_shl, b_or, b_iv, b_jv, b_sI, b_sJ, ↓z_hl, z_b0, z_b1, z_b2, b_and1c, b_and1z, if_true, if_false, nI_add, pk_mul, b_cl, b_lt, b_le, b_eq, b_eq0, b_le0, b_0lt, b_0le, b_lt0]
    rw [if_pos c]
  · rw [decide_eq_false c]
    simp (disch := omega) only [h1, ↓bc_1, ↓b_t0, ↓b_t1, ↓b_t2, ↓b_t3, ↓b_t4, ↓b_t5, ↓b_t6, Nat.zero_add, Nat.le_refl, b_rs, b_rn, b_r2, b_ss, b_sn, b_bt, b_bf, b_b0, b_b1, b_bw, b_shl, b_or, b_iv, b_jv, b_sI, b_sJ, ↓z_hl, z_b0, z_b1, z_b2, b_and1c, b_and1z, if_true, if_false, nI_add, pk_mul, b_cl, b_lt, b_le, b_eq, b_eq0, b_le0, b_0lt, b_0le, b_lt0]
    rw [if_neg c]
theorem s_Ta_atName (hX : l_X m j n q) (h : l_C m j n q p) (hD : 1 ≤ D) : a_ex X tx a_T D 10 [.ref 1] (b_h m j w) = some ((b_h m j w), some (.int (nI (b_b (decide (w_kd (m 2) n q p = 1 ∧ w_ky (m 2) n q p = 4294967295)))))) := by
  obtain ⟨d, rfl⟩ : ∃ d, D = d + 1 := ⟨D - 1, by omega⟩
  rw [e_Ta_atName, q_Ta_atName_0]
  have h1 := l_C_kd h
  have h3 := l_C_ky h
  have h2 := w_kd_lt (n := n) (q := q) (p := p) hX.2.2.1
  have h4 := w_ky_lt (b := m 2) (n := n) (q := q) (p := p)
  by_cases c : w_kd (m 2) n q p = 1
  · by_cases c2 : w_ky (m 2) n q p = 4294967295
    · rw [decide_eq_true ⟨c, c2⟩]
      simp (disch := omega) only [h1, h3, ↓bc_1, ↓b_t0, ↓b_t1, ↓b_t2, ↓b_t3, ↓b_t4, ↓b_t5, ↓b_t6, Nat.zero_add, Nat.le_refl, b_rs, b_rn, b_r2, b_ss, b_sn, b_bt, b_bf, b_b0, b_b1, b_bw, b_shl, b_or, b_iv, b_jv, b_sI, b_sJ, ↓z_hl, z_b0, z_b1, z_b2, b_and1c, b_and1z, if_true, if_false, nI_add, pk_mul, b_cl, b_lt, b_le, b_eq, b_eq0, b_le0, b_0lt, b_0le, b_lt0]
      rw [if_pos c, if_pos c2]
    · rw [decide_eq_false (fun g => c2 g.2)]
      simp (disch := omega) only [h1, h3, ↓bc_1, ↓b_t0, ↓b_t1, ↓b_t2, ↓b_t3, ↓b_t4, ↓b_t5, ↓b_t6, Nat.zero_add, Nat.le_refl, b_rs, b_rn, b_r2, b_ss, b_sn, b_bt, b_bf, b_b0, b_b1, b_bw, b_shl, b_or, b_iv, b_jv, b_sI, b_sJ, ↓z_hl, z_b0, z_b1, z_b2, b_and1c, b_and1z, if_true, if_false, nI_add, pk_mul, b_cl, b_lt, b_le, b_eq, b_eq0, b_le0, b_0lt, b_0le, b_lt0]
      rw [if_pos c, if_neg c2]
  · rw [decide_eq_false (fun g => c g.1)]
    simp (disch := omega) only [h1, h3, ↓bc_1, ↓b_t0, ↓b_t1, ↓b_t2, ↓b_t3, ↓b_t4, ↓b_t5, ↓b_t6, Nat.zero_add, Nat.le_refl, b_rs, b_rn, b_r2, b_ss, b_sn, b_bt, b_bf, b_b0, b_b1, b_bw, b_shl, b_or, b_iv, b_jv, b_sI, b_sJ, ↓z_hl, z_b0, z_b1, z_b2, b_and1c, b_and1z, if_true, if_false, nI_add, pk_mul, b_cl, b_lt, b_le, b_eq, b_eq0, b_le0, b_0lt, b_0le, b_lt0]
    rw [if_neg c]
theorem s_Ta_word (h : l_C m j n q p) (hD : 1 ≤ D) : a_ex X tx a_T D 12 [.ref 1] (b_h m j w) = some ((b_h m j w), some (.int (nI (w_ky (m 2) n q p)))) := by
  obtain ⟨d, rfl⟩ : ∃ d, D = d + 1 := ⟨D - 1, by omega⟩
  rw [e_Ta_word, q_Ta_word_0]
  have h3 := l_C_ky h
  simp (disch := omega) only [h3, ↓bc_1, ↓b_t0, ↓b_t1, ↓b_t2, ↓b_t3, ↓b_t4, ↓b_t5, ↓b_t6, Nat.zero_add, Nat.le_refl, b_rs, b_rn, b_r2, b_ss, b_sn, b_bt, b_bf, b_b0, b_b1, b_bw, b_shl, b_or, b_iv, b_jv, b_sI, b_sJ, ↓z_hl, z_b0, z_b1, z_b2, b_and1c, b_and1z, if_true, if_false, nI_add, pk_mul, b_cl, b_lt, b_le, b_eq, b_eq0, b_le0, b_0lt, b_0le, b_lt0]
theorem s_Ta_comparison (hX : l_X m j n q) (h : l_C m j n q p) (hD : 2 ≤ D) : a_ex X tx a_T D 13 [.ref 1] (b_h m j w) = some ((b_h m j w), some (.int (nI (if 60 ≤ w_kd (m 2) n q p ∧ w_kd (m 2) n q p ≤ 62 then w_kd (m 2) n q p else 4294967295)))) := by
  obtain ⟨d, rfl⟩ : ∃ d, D = d + 1 := ⟨D - 1, by omega⟩
  rw [e_Ta_comparison, q_Ta_comparison_0]
  have h1 := l_C_kd h
  have s1 := fun c hc => s_Ta_atSign (X := X) (tx := tx) (D := d) (m := m) (j := j) (w := w) hX h (by omega) (c := c) hc
  have a1 := s1 60 (by decide)
  have a2 := s1 61 (by decide)
  have a3 := s1 62 (by decide)
  by_cases c1 : w_kd (m 2) n q p = 60
  · rw [decide_eq_true c1] at a1
    rw [if_pos (by omega)]
    simp (disch := omega) only [a1, h1, Nat.one_ne_zero, ↓bc_1, ↓b_t0, ↓b_t1, ↓b_t2, ↓b_t3, ↓b_t4, ↓b_t5, ↓b_t6, Nat.zero_add, Nat.le_refl, b_rs, b_rn, b_r2, b_ss, b_sn, b_bt, b_bf, b_b0, b_b1, b_bw, b_shl, b_or, b_iv, b_jv, b_sI, b_sJ, ↓z_hl, z_b0, z_b1, z_b2, b_and1c, b_and1z, if_true, if_false, nI_add, pk_mul, b_cl, b_lt, b_le, b_eq, b_eq0, b_le0, b_0lt, b_0le, b_lt0]
  · rw [decide_eq_false c1] at a1
    by_cases c2 : w_kd (m 2) n q p = 61
    · rw [decide_eq_true c2] at a2
      rw [if_pos (by omega)]
      simp (disch := omega) only [a1, a2, h1, Nat.one_ne_zero, ↓bc_1, ↓b_t0, ↓b_t1, ↓b_t2, ↓b_t3, ↓b_t4, ↓b_t5, ↓b_t6, Nat.zero_add, Nat.le_refl, b_rs, b_rn, b_r2, b_ss, b_sn, b_bt, b_bf, b_b0, b_b1, b_bw, b_shl, b_or, b_iv, b_jv, b_sI, b_sJ, ↓z_hl, z_b0, z_b1, z_b2, b_and1c, b_and1z, if_true, if_false, nI_add, pk_mul, b_cl, b_lt, b_le, b_eq, b_eq0, b_le0, b_0lt, b_0le, b_lt0]
    · rw [decide_eq_false c2] at a2
      by_cases c3 : w_kd (m 2) n q p = 62
      · rw [decide_eq_true c3] at a3
        rw [if_pos (by omega)]
        simp (disch := omega) only [a1, a2, a3, h1, Nat.one_ne_zero, ↓bc_1, ↓b_t0, ↓b_t1, ↓b_t2, ↓b_t3, ↓b_t4, ↓b_t5, ↓b_t6, Nat.zero_add, Nat.le_refl, b_rs, b_rn, b_r2, b_ss, b_sn, b_bt, b_bf, b_b0, b_b1, b_bw, b_shl, b_or, b_iv, b_jv, b_sI, b_sJ, ↓z_hl, z_b0, z_b1, z_b2, b_and1c, b_and1z, if_true, if_false, nI_add, pk_mul, b_cl, b_lt, b_le, b_eq, b_eq0, b_le0, b_0lt, b_0le, b_lt0]
      · rw [decide_eq_false c3] at a3
        rw [if_neg (by omega)]
        simp (disch := omega) only [a1, a2, a3, h1, ↓bc_1, ↓b_t0, ↓b_t1, ↓b_t2, ↓b_t3, ↓b_t4, ↓b_t5, ↓b_t6, Nat.zero_add, Nat.le_refl, b_rs, b_rn, b_r2, b_ss, b_sn, b_bt, b_bf, b_b0, b_b1, b_bw, b_shl, b_or, b_iv, b_jv, b_sI, b_sJ, ↓z_hl, z_b0, z_b1, z_b2, b_and1c, b_and1z, if_true, if_false, nI_add, pk_mul, b_cl, b_lt, b_le, b_eq, b_eq0, b_le0, b_0lt, b_0le, b_lt0]
theorem s_Ta_fail (h : l_C m j n q p) (hD : 1 ≤ D) {k : Nat} : a_ex X tx a_T D 14 [.ref 1, .int (nI k)] (b_h m j w) = some ((b_h (b_r m 1 (b_s (b_s (m 1) 10 k) 11 (w_pl (m 2) n q p))) j w), some (.int (nI (0)))) := by
  obtain ⟨d, rfl⟩ : ∃ d, D = d + 1 := ⟨D - 1, by omega⟩
  rw [e_Ta_fail, q_Ta_fail_0]
  have h3 := l_C_pl h
  simp (disch := omega) only [h3, ↓bc_1, ↓b_t0, ↓b_t1, ↓b_t2, ↓b_t3, ↓b_t4, ↓b_t5, ↓b_t6, Nat.zero_add, Nat.le_refl, b_rs, b_rn, b_r2, b_ss, b_sn, b_bt, b_bf, b_b0, b_b1, b_bw, b_shl, b_or, b_iv, b_jv, b_sI, b_sJ, ↓z_hl, z_b0, z_b1, z_b2, b_and1c, b_and1z, if_true, if_false, nI_add, pk_mul, b_cl, b_lt, b_le, b_eq, b_eq0, b_le0, b_0lt, b_0le, b_lt0]
theorem x_C_fail {k : Nat} : x_C m (b_r m 1 (b_s (b_s (m 1) 10 k) 11 (w_pl (m 2) n q p))) j j (k, w_pl (m 2) n q p) :=
  ⟨fun c hc => b_rn hc, fun _ _ => rfl, by rw [b_rs, b_sn (by decide), b_ss], by rw [b_rs, b_ss]⟩
/-- on to the next token -/
theorem s_Ta_stepT (hX : l_X m j n q) (h : l_C m j n q p) (hin : w_pb2 (m 2) n q p < min n q) (hD : 2 ≤ D) : ∃ m2 j2, a_ex X tx a_T D 4 [.ref 1] (b_h m j w) = some (b_h m2 j2 w, none) ∧ o_C m m2 j j2 n q (w_nx (m 2) n q p) := by
  obtain ⟨x1, x2, x3, x4⟩ := hX
  obtain ⟨a1, a2⟩ := w_nx_in hin
  obtain ⟨m2, j2, e1, e2, e3⟩ := s_Ta_step (X := X) (tx := tx) (D := D) (m := m) (j := j) (w := w) hD (l_C_sz h) (l_C_mo h) (l_C_nx h) x1 x2 (by omega) x3 x4
  exact ⟨m2, j2, e1, e2, e3, a2⟩
theorem s_Ta_takeEnd (hX : l_X m j n q) (h : l_C m j n q p) (hD : 2 ≤ D) : a_ex X tx a_T D 15 [.ref 1] (b_h m j w) = some ((b_h (if w_kd (m 2) n q p = 3 then m else b_r m 1 (b_s (b_s (m 1) 10 1) 11 (w_pl (m 2) n q p))) j w), some (.int (nI (b_b (decide (w_kd (m 2) n q p = 3)))))) := by
  obtain ⟨d, rfl⟩ : ∃ d, D = d + 1 := ⟨D - 1, by omega⟩
  rw [e_Ta_takeEnd, q_Ta_takeEnd_0]
  have s1 := s_Ta_atEnd (X := X) (tx := tx) (D := d) (m := m) (j := j) (w := w) hX h (by omega)
  have s2 := s_Ta_fail (X := X) (tx := tx) (D := d) (m := m) (j := j) (w := w) h (by omega) (k := 1)
  by_cases c : w_kd (m 2) n q p = 3
  · rw [if_pos c, decide_eq_true c]
    rw [decide_eq_true c] at s1
    simp (disch := omega) only [s1, Nat.one_ne_zero, ↓bc_1, ↓b_t0, ↓b_t1, ↓b_t2, ↓b_t3, ↓b_t4, ↓b_t5, ↓b_t6, Nat.zero_add, Nat.le_refl, b_rs, b_rn, b_r2, b_ss, b_sn, b_bt, b_bf, b_b0, b_b1, b_bw, b_shl, b_or, b_iv, b_jv, b_sI, b_sJ, ↓z_hl, z_b0, z_b1, z_b2, b_and1c, b_and1z, if_true, if_false, nI_add, pk_mul, b_cl, b_lt, b_le, b_eq, b_eq0, b_le0, b_0lt, b_0le, b_lt0]
  · rw [if_neg c, decide_eq_false c]
    rw [decide_eq_false c] at s1
    simp (disch := omega) only [s1, s2, ↓bc_1, ↓b_t0, ↓b_t1, ↓b_t2, ↓b_t3, ↓b_t4, ↓b_t5, ↓b_t6, Nat.zero_add, Nat.le_refl, b_rs, b_rn, b_r2, b_ss, b_sn, b_bt, b_bf, b_b0, b_b1, b_bw, b_shl, b_or, b_iv, b_jv, b_sI, b_sJ, ↓z_hl, z_b0, z_b1, z_b2, b_and1c, b_and1z, if_true, if_false, nI_add, pk_mul, b_cl, b_lt, b_le, b_eq, b_eq0, b_le0, b_0lt, b_0le, b_lt0]
theorem s_Ta_takeSign (hX : l_X m j n q) (h : l_C m j n q p) (hD : 3 ≤ D) {c : Nat} (hc5 : 5 ≤ c) (hc : c < 256) : match k_sign (m 2) n q c p with
    | .ok p2 => ∃ m2 j2, a_ex X tx a_T D 16 [.ref 1, .int (nI c)] (b_h m j w) = some (b_h m2 j2 w, some (.int (nI 1))) ∧ o_C m m2 j j2 n q p2
    | .error e => ∃ m2 j2, a_ex X tx a_T D 16 [.ref 1, .int (nI c)] (b_h m j w) = some (b_h m2 j2 w, some (.int (nI 0))) ∧ x_C m m2 j j2 e := by
  obtain ⟨d, rfl⟩ : ∃ d, D = d + 1 := ⟨D - 1, by omega⟩
  have s1 := s_Ta_atSign (X := X) (tx := tx) (D := d) (m := m) (j := j) (w := w) hX h (by omega) (c := c) hc
  have s2 := s_Ta_fail (X := X) (tx := tx) (D := d) (m := m) (j := j) (w := w) h (by omega) (k := 1)
  unfold k_sign
  by_cases cc : w_kd (m 2) n q p = c
  · rw [if_pos cc]
    rw [decide_eq_true cc] at s1
    obtain ⟨m2, j2, e1, e2⟩ := s_Ta_stepT (X := X) (tx := tx) (D := d) (m := m) (j := j) (w := w) hX h (w_kd_in (by omega) (by omega)) (by omega)
    refine ⟨m2, j2, ?_, e2⟩
    rw [e_Ta_takeSign, q_Ta_takeSign_0]
    simp (disch := omega) only [s1, e1, Nat.one_ne_zero, ↓bc_1, ↓b_t0, ↓b_t1, ↓b_t2, ↓b_t3, ↓b_t4, ↓b_t5, ↓b_t6, Nat.zero_add, Nat.le_refl, b_rs, b_rn, b_r2, b_ss, b_sn, b_bt, b_bf, b_b0, b_b1, b_bw, b_shl, b_or, b_iv, b_jv, b_sI, b_sJ, ↓z_hl, z_b0, z_b1, z_b2, b_and1c, b_and1z, if_true, if_false, nI_add, pk_mul, b_cl, b_lt, b_le, b_eq, b_eq0, b_le0, b_0lt, b_0le, b_lt0]
  · rw [if_neg cc]
    rw [decide_eq_false cc] at s1
    refine ⟨_, j, ?_, x_C_fail⟩
    rw [e_Ta_takeSign, q_Ta_takeSign_0]
    simp (disch := omega) only [s1, s2, ↓bc_1, ↓b_t0, ↓b_t1, ↓b_t2, ↓b_t3, ↓b_t4, ↓b_t5, ↓b_t6, Nat.zero_add, Nat.le_refl, b_rs, b_rn, b_r2, b_ss, b_sn, b_bt, b_bf, b_b0, b_b1, b_bw, b_shl, b_or, b_iv, b_jv, b_sI, b_sJ, ↓z_hl, z_b0, z_b1, z_b2, b_and1c, b_and1z, if_true, if_false, nI_add, pk_mul, b_cl, b_lt, b_le, b_eq, b_eq0, b_le0, b_0lt, b_0le, b_lt0]
theorem s_Ta_takeNumber (hX : l_X m j n q) (h : l_C m j n q p) (hD : 3 ≤ D) {lo hi : Nat} (hlo : lo < 2000) (hhi : hi < 2000) : match k_num (m 2) n q lo hi p with
    | .ok r => ∃ m2 j2, a_ex X tx a_T D 17 [.ref 1, .int (nI lo), .int (nI hi)] (b_h m j w) = some (b_h m2 j2 w, some (.int (nI r.1))) ∧ o_C m m2 j j2 n q r.2 ∧ lo ≤ r.1 ∧ r.1 ≤ hi ∧ r.1 < 1000
    | .error e => ∃ m2 j2, a_ex X tx a_T D 17 [.ref 1, .int (nI lo), .int (nI hi)] (b_h m j w) = some (b_h m2 j2 w, some (.int (nI 4294967295))) ∧ x_C m m2 j j2 e := by
  obtain ⟨d, rfl⟩ : ∃ d, D = d + 1 := ⟨D - 1, by omega⟩
  have h1 := l_C_kd h
  have h2 := w_kd_lt (n := n) (q := q) (p := p) hX.2.2.1
  have s2 := fun k => s_Ta_fail (X := X) (tx := tx) (D := d) (m := m) (j := j) (w := w) h (by omega) (k := k)
  unfold k_num
  by_cases cc : w_kd (m 2) n q p = 2
  · rw [if_pos cc]
    have h3 := l_C_va h cc
    have h4 := w_va_lt hX.2.2.1 cc
    by_cases c2 : lo ≤ w_va (m 2) n q p ∧ w_va (m 2) n q p ≤ hi
    · rw [if_pos c2]
      obtain ⟨m2, j2, e1, e2⟩ := s_Ta_stepT (X := X) (tx := tx) (D := d) (m := m) (j := j) (w := w) hX h (w_kd_in (by omega) (by omega)) (by omega)
      refine ⟨m2, j2, ?_, e2, c2.1, c2.2, h4⟩
      rw [e_Ta_takeNumber, q_Ta_takeNumber_0]
      simp (disch := omega) only [h1, h3, e1, ↓bc_1, ↓b_t0, ↓b_t1, ↓b_t2, ↓b_t3, ↓b_t4, ↓b_t5, ↓b_t6, Nat.zero_add, Nat.le_refl, b_rs, b_rn, b_r2, b_ss, b_sn, b_bt, b_bf, b_b0, b_b1, b_bw, b_shl, b_or, b_iv, b_jv, b_sI, b_sJ, ↓z_hl, z_b0, z_b1, z_b2, b_and1c, b_and1z, if_true, if_false, nI_add, pk_mul, b_cl, b_lt, b_le, b_eq, b_eq0, b_le0, b_0lt, b_0le, b_lt0]
      rw [if_pos cc, if_neg (by omega), if_pos c2.2]
    · rw [if_neg c2]
      refine ⟨_, j, ?_, x_C_fail⟩
      rw [e_Ta_takeNumber, q_Ta_takeNumber_0]
      simp (disch := omega) only [h1, h3, s2, ↓bc_1, ↓b_t0, ↓b_t1, ↓b_t2, ↓b_t3, ↓b_t4, ↓b_t5, ↓b_t6, Nat.zero_add, Nat.le_refl, b_rs, b_rn, b_r2, b_ss, b_sn, b_bt, b_bf, b_b0, b_b1, b_bw, b_shl, b_or, b_iv, b_jv, b_sI, b_sJ, ↓z_hl, z_b0, z_b1, z_b2, b_and1c, b_and1z, if_true, if_false, nI_add, pk_mul, b_cl, b_lt, b_le, b_eq, b_eq0, b_le0, b_0lt, b_0le, b_lt0]
      rw [if_pos cc]
      by_cases c3 : w_va (m 2) n q p < lo
      · rw [if_pos c3]
      · rw [if_neg c3, if_neg (by omega)]
  · rw [if_neg cc]
    refine ⟨_, j, ?_, x_C_fail⟩
    rw [e_Ta_takeNumber, q_Ta_takeNumber_0]
    simp (disch := omega) only [h1, s2, ↓bc_1, ↓b_t0, ↓b_t1, ↓b_t2, ↓b_t3, ↓b_t4, ↓b_t5, ↓b_t6, Nat.zero_add, Nat.le_refl, b_rs, b_rn, b_r2, b_ss, b_sn, b_bt, b_bf, b_b0, b_b1, b_bw, b_shl, b_or, b_iv, b_jv, b_sI, b_sJ, ↓z_hl, z_b0, z_b1, z_b2, b_and1c, b_and1z, if_true, if_false, nI_add, pk_mul, b_cl, b_lt, b_le, b_eq, b_eq0, b_le0, b_0lt, b_0le, b_lt0]
    rw [if_neg cc]
end TC
