/-! TEXTS: the class begins a text, reads a line, clears its new facts -/
section RC
variable {X : Nat × (Nat → Int32)} {tx : List Int32} {D : Nat} {m j : Nat → Nat → Nat} {w : (Nat × Nat) × Bool} {b : Nat → Nat} {n q p : Nat} {s N : Nat → Nat} {dk : Nat}
theorem s_Ta_begin (hD : 3 ≤ D) (hn : m 1 2 = n) (hX : l_X m j n q) : ∃ m2 j2, a_ex X tx a_T D 3 [.ref 1, .int (nI q)] (b_h m j w) = some (b_h m2 j2 w, none) ∧ l_X m2 j2 n q ∧ l_C m2 j2 n q 0 ∧ (∀ c, c ≠ 1 → m2 c = m c) ∧ (∀ c, c ≠ 1 → j2 c = j c) ∧ m2 1 10 = 0 ∧ m2 1 11 = 0 := by
  obtain ⟨d, rfl⟩ : ∃ d, D = d + 1 := ⟨D - 1, by omega⟩
  obtain ⟨a1, a2, a3, a4⟩ := id hX
  have n2 : b_r m 1 (b_s (b_s (b_s (b_s (m 1) 3 q) 4 0) 10 0) 11 0) 2 = m 2 := b_rn (by decide)
  obtain ⟨m2, j2, e1, e2, e3⟩ := s_Ta_step (X := X) (tx := tx) (D := d) (m := b_r m 1 (b_s (b_s (b_s (b_s (m 1) 3 q) 4 0) 10 0) 11 0)) (j := j) (w := w) (by omega) (n := n) (q := q) (p := 0) (by rw [b_rs, b_sn (by decide), b_sn (by decide), b_sn (by decide), b_sn (by decide)]; exact hn) (by rw [b_rs, b_sn (by decide), b_sn (by decide), b_sn (by decide), b_ss]) (by rw [b_rs, b_sn (by decide), b_sn (by decide), b_ss]) a1 a2 (by decide) (by rw [n2]; exact a3) a4
  refine ⟨m2, j2, ?_, l_X_fr hX ((e3.1 2 (by decide)).trans n2) (e3.2.1 3 (by decide)), e2, fun c c1 => (e3.1 c c1).trans (b_rn c1), e3.2.1, ?_, ?_⟩
  · rw [e_Ta_begin, q_Ta_begin_0]
    simp (disch := omega) only [e1, ↓bc_1, ↓b_t0, ↓b_t1, ↓b_t2, ↓b_t3, ↓b_t4, ↓b_t5, ↓b_t6, Nat.zero_add, Nat.le_refl, b_rs, b_rn, b_r2, b_ss, b_sn, b_bt, b_bf, b_b0, b_b1, b_bw, b_shl, b_or, b_iv, b_jv, b_sI, b_sJ, ↓z_hl, z_b0, z_b1, z_b2, b_and1c, b_and1z, if_true, if_false, nI_add, pk_mul, b_cl, b_lt, b_le, b_eq, b_eq0, b_le0, b_0lt, b_0le, b_lt0]
  · rw [e3.2.2.1, b_rs, b_sn (by decide), b_ss]
  · rw [e3.2.2.2, b_rs, b_ss]
theorem s_Fa_readLine (h : l_S m j b n q s N dk p) (hD : 10 ≤ D) : x_L m j w b n q (k_line b n q s N dk p) (a_ex X tx a_T D 33 [.ref 15, .ref 1] (b_h m j w)) := by
  obtain ⟨d, rfl⟩ : ∃ d, D = d + 1 := ⟨D - 1, by omega⟩
  have hb := l_S_b h
  have hC := l_S_l h
  have s1 := s_Ta_word (X := X) (tx := tx) (D := d) (w := w) hC (by omega)
  rw [hb] at s1
  have hk : ∀ k, k < 19 → w_ky b n q p = k → w_kd b n q p = 1 := fun k h1 h2 => ((w_ky_iff h1).mp h2).1
  have tail : ∀ {E : Except (Nat × Nat) ((Nat → Nat) × (Nat → Nat) × Nat × Nat)} {r g : A_R}, x_L m j w b n q E r → ((∃ m2 j2, r = some (b_h m2 j2 w, some (.int (nI 1)))) ∨ (∃ m2 j2, r = some (b_h m2 j2 w, some (.int (nI 0)))) → g = r) → x_L m j w b n q E g := fun {E r g} hx hg => by
    cases E with
    | error e =>
      obtain ⟨m2, j2, e1, e2⟩ := hx
      rw [hg (Or.inr ⟨m2, j2, e1⟩)]
      exact ⟨m2, j2, e1, e2⟩
    | ok y =>
      obtain ⟨m2, j2, e1, e2⟩ := hx
      rw [hg (Or.inl ⟨m2, j2, e1⟩)]
      exact ⟨m2, j2, e1, e2⟩
  unfold k_line
  by_cases c0 : w_ky b n q p = 0
  · rw [if_pos c0]
    rw [c0] at s1
    refine tail (s_Fa_readKind (X := X) (tx := tx) (D := d) (w := w) h (hk 0 (by decide) c0) (by omega)) fun g => ?_
    rw [e_Fa_readLine, q_Fa_readLine_0]
    rcases g with ⟨m2, j2, e1⟩ | ⟨m2, j2, e1⟩
    · simp (disch := omega) only [s1, e1, ↓bc_1, ↓bc_15, ↓b_t0, ↓b_t1, ↓b_t2, ↓b_t3, ↓b_t4, ↓b_t5, ↓b_t6, Nat.zero_add, Nat.le_refl, b_rs, b_rn, b_r2, b_ss, b_sn, b_bt, b_bf, b_b0, b_b1, b_bw, b_shl, b_or, b_iv, b_jv, b_sI, b_sJ, ↓z_hl, z_b0, z_b1, z_b2, b_and1c, b_and1z, if_true, if_false, nI_add, pk_mul, b_cl, b_lt, b_le, b_eq, b_eq0, b_le0, b_0lt, b_0le, b_lt0]
    · simp (disch := omega) only [s1, e1, ↓bc_1, ↓bc_15, ↓b_t0, ↓b_t1, ↓b_t2, ↓b_t3, ↓b_t4, ↓b_t5, ↓b_t6, Nat.zero_add, Nat.le_refl, b_rs, b_rn, b_r2, b_ss, b_sn, b_bt, b_bf, b_b0, b_b1, b_bw, b_shl, b_or, b_iv, b_jv, b_sI, b_sJ, ↓z_hl, z_b0, z_b1, z_b2, b_and1c, b_and1z, if_true, if_false, nI_add, pk_mul, b_cl, b_lt, b_le, b_eq, b_eq0, b_le0, b_0lt, b_0le, b_lt0]
  rw [if_neg c0]
  by_cases c1 : w_ky b n q p = 1
  · rw [if_pos c1]
    rw [c1] at s1
    refine tail (s_Fa_readMan (X := X) (tx := tx) (D := d) (w := w) h (hk 1 (by decide) c1) (by omega)) fun g => ?_
    rw [e_Fa_readLine, q_Fa_readLine_0]
    rcases g with ⟨m2, j2, e1⟩ | ⟨m2, j2, e1⟩
    · simp (disch := omega) only [s1, e1, ↓bc_1, ↓bc_15, ↓b_t0, ↓b_t1, ↓b_t2, ↓b_t3, ↓b_t4, ↓b_t5, ↓b_t6, Nat.zero_add, Nat.le_refl, b_rs, b_rn, b_r2, b_ss, b_sn, b_bt, b_bf, b_b0, b_b1, b_bw, b_shl, b_or, b_iv, b_jv, b_sI, b_sJ, ↓z_hl, z_b0, z_b1, z_b2, b_and1c, b_and1z, if_true, if_false, nI_add, pk_mul, b_cl, b_lt, b_le, b_eq, b_eq0, b_le0, b_0lt, b_0le, b_lt0]
    · simp (disch := omega) only [s1, e1, ↓bc_1, ↓bc_15, ↓b_t0, ↓b_t1, ↓b_t2, ↓b_t3, ↓b_t4, ↓b_t5, ↓b_t6, Nat.zero_add, Nat.le_refl, b_rs, b_rn, b_r2, b_ss, b_sn, b_bt, b_bf, b_b0, b_b1, b_bw, b_shl, b_or, b_iv, b_jv, b_sI, b_sJ, ↓z_hl, z_b0, z_b1, z_b2, b_and1c, b_and1z, if_true, if_false, nI_add, pk_mul, b_cl, b_lt, b_le, b_eq, b_eq0, b_le0, b_0lt, b_0le, b_lt0]
  rw [if_neg c1]
  by_cases c2 : w_ky b n q p = 2
  · rw [if_pos c2]
    rw [c2] at s1
    refine tail (s_Fa_readThing (X := X) (tx := tx) (D := d) (w := w) h (hk 2 (by decide) c2) (by omega)) fun g => ?_
    rw [e_Fa_readLine, q_Fa_readLine_0]
    rcases g with ⟨m2, j2, e1⟩ | ⟨m2, j2, e1⟩
    · simp (disch := omega) only [s1, e1, ↓bc_1, ↓bc_15, ↓b_t0, ↓b_t1, ↓b_t2, ↓b_t3, ↓b_t4, ↓b_t5, ↓b_t6, Nat.zero_add, Nat.le_refl, b_rs, b_rn, b_r2, b_ss, b_sn, b_bt, b_bf, b_b0, b_b1, b_bw, b_shl, b_or, b_iv, b_jv, b_sI, b_sJ, ↓z_hl, z_b0, z_b1, z_b2, b_and1c, b_and1z, if_true, if_false, nI_add, pk_mul, b_cl, b_lt, b_le, b_eq, b_eq0, b_le0, b_0lt, b_0le, b_lt0]
    · simp (disch := omega) only [s1, e1, ↓bc_1, ↓bc_15, ↓b_t0, ↓b_t1, ↓b_t2, ↓b_t3, ↓b_t4, ↓b_t5, ↓b_t6, Nat.zero_add, Nat.le_refl, b_rs, b_rn, b_r2, b_ss, b_sn, b_bt, b_bf, b_b0, b_b1, b_bw, b_shl, b_or, b_iv, b_jv, b_sI, b_sJ, ↓z_hl, z_b0, z_b1, z_b2, b_and1c, b_and1z, if_true, if_false, nI_add, pk_mul, b_cl, b_lt, b_le, b_eq, b_eq0, b_le0, b_0lt, b_0le, b_lt0]
  rw [if_neg c2]
  by_cases c3 : w_ky b n q p = 3
  · rw [if_pos c3]
    rw [c3] at s1
    refine tail (s_Fa_readEnding (X := X) (tx := tx) (D := d) (w := w) h (hk 3 (by decide) c3) (by omega)) fun g => ?_
    rw [e_Fa_readLine, q_Fa_readLine_0]
    rcases g with ⟨m2, j2, e1⟩ | ⟨m2, j2, e1⟩
    · simp (disch := omega) only [s1, e1, ↓bc_1, ↓bc_15, ↓b_t0, ↓b_t1, ↓b_t2, ↓b_t3, ↓b_t4, ↓b_t5, ↓b_t6, Nat.zero_add, Nat.le_refl, b_rs, b_rn, b_r2, b_ss, b_sn, b_bt, b_bf, b_b0, b_b1, b_bw, b_shl, b_or, b_iv, b_jv, b_sI, b_sJ, ↓z_hl, z_b0, z_b1, z_b2, b_and1c, b_and1z, if_true, if_false, nI_add, pk_mul, b_cl, b_lt, b_le, b_eq, b_eq0, b_le0, b_0lt, b_0le, b_lt0]
    · simp (disch := omega) only [s1, e1, ↓bc_1, ↓bc_15, ↓b_t0, ↓b_t1, ↓b_t2, ↓b_t3, ↓b_t4, ↓b_t5, ↓b_t6, Nat.zero_add, Nat.le_refl, b_rs, b_rn, b_r2, b_ss, b_sn, b_bt, b_bf, b_b0, b_b1, b_bw, b_shl, b_or, b_iv, b_jv, b_sI, b_sJ, ↓z_hl, z_b0, z_b1, z_b2, b_and1c, b_and1z, if_true, if_false, nI_add, pk_mul, b_cl, b_lt, b_le, b_eq, b_eq0, b_le0, b_0lt, b_0le, b_lt0]
  rw [if_neg c3]
  by_cases c4 : w_ky b n q p = 4
  · rw [if_pos c4]
    rw [c4] at s1
    refine tail (s_Fa_readFalse (X := X) (tx := tx) (D := d) (w := w) h (hk 4 (by decide) c4) (by omega)) fun g => ?_
    rw [e_Fa_readLine, q_Fa_readLine_0]
    rcases g with ⟨m2, j2, e1⟩ | ⟨m2, j2, e1⟩
    · simp (disch := omega) only [s1, e1, ↓bc_1, ↓bc_15, ↓b_t0, ↓b_t1, ↓b_t2, ↓b_t3, ↓b_t4, ↓b_t5, ↓b_t6, Nat.zero_add, Nat.le_refl, b_rs, b_rn, b_r2, b_ss, b_sn, b_bt, b_bf, b_b0, b_b1, b_bw, b_shl, b_or, b_iv, b_jv, b_sI, b_sJ, ↓z_hl, z_b0, z_b1, z_b2, b_and1c, b_and1z, if_true, if_false, nI_add, pk_mul, b_cl, b_lt, b_le, b_eq, b_eq0, b_le0, b_0lt, b_0le, b_lt0]
    · simp (disch := omega) only [s1, e1, ↓bc_1, ↓bc_15, ↓b_t0, ↓b_t1, ↓b_t2, ↓b_t3, ↓b_t4, ↓b_t5, ↓b_t6, Nat.zero_add, Nat.le_refl, b_rs, b_rn, b_r2, b_ss, b_sn, b_bt, b_bf, b_b0, b_b1, b_bw, b_shl, b_or, b_iv, b_jv, b_sI, b_sJ, ↓z_hl, z_b0, z_b1, z_b2, b_and1c, b_and1z, if_true, if_false, nI_add, pk_mul, b_cl, b_lt, b_le, b_eq, b_eq0, b_le0, b_0lt, b_0le, b_lt0]
  rw [if_neg c4]
  by_cases c5 : w_ky b n q p = 5
  · rw [if_pos c5]
    rw [c5] at s1
    refine tail (s_Fa_readDusk (X := X) (tx := tx) (D := d) (w := w) h (hk 5 (by decide) c5) (by omega)) fun g => ?_
    rw [e_Fa_readLine, q_Fa_readLine_0]
    rcases g with ⟨m2, j2, e1⟩ | ⟨m2, j2, e1⟩
    · simp (disch := omega) only [s1, e1, ↓bc_1, ↓bc_15, ↓b_t0, ↓b_t1, ↓b_t2, ↓b_t3, ↓b_t4, ↓b_t5, ↓b_t6, Nat.zero_add, Nat.le_refl, b_rs, b_rn, b_r2, b_ss, b_sn, b_bt, b_bf, b_b0, b_b1, b_bw, b_shl, b_or, b_iv, b_jv, b_sI, b_sJ, ↓z_hl, z_b0, z_b1, z_b2, b_and1c, b_and1z, if_true, if_false, nI_add, pk_mul, b_cl, b_lt, b_le, b_eq, b_eq0, b_le0, b_0lt, b_0le, b_lt0]
    · simp (disch := omega) only [s1, e1, ↓bc_1, ↓bc_15, ↓b_t0, ↓b_t1, ↓b_t2, ↓b_t3, ↓b_t4, ↓b_t5, ↓b_t6, Nat.zero_add, Nat.le_refl, b_rs, b_rn, b_r2, b_ss, b_sn, b_bt, b_bf, b_b0, b_b1, b_bw, b_shl, b_or, b_iv, b_jv, b_sI, b_sJ, ↓z_hl, z_b0, z_b1, z_b2, b_and1c, b_and1z, if_true, if_false, nI_add, pk_mul, b_cl, b_lt, b_le, b_eq, b_eq0, b_le0, b_0lt, b_0le, b_lt0]
  rw [if_neg c5]
  have h6 : 6 ≤ w_ky b n q p := by omega
  have h7 : w_ky b n q p < 4294967296 := by
    rcases w_ky_lt (b := b) (n := n) (q := q) (p := p) with y | y <;> omega
  have sb := s_Ta_fail (X := X) (tx := tx) (D := d) (m := m) (j := j) (w := w) hC (by omega) (k := 1)
  have y := x_C_fail (m := m) (j := j) (n := n) (q := q) (p := p) (k := 1)
  rw [hb] at sb y
  refine x_L_e rfl ?_ ⟨fun c c1 _ => y.1 c c1, fun _ _ _ => rfl, y.2.2.1, y.2.2.2⟩
  rw [e_Fa_readLine, q_Fa_readLine_0, bc_1, s1, z_b1, b_tsd (by exact h6) h7]
  simp (disch := omega) only [sb, ↓bc_1, ↓bc_15, ↓b_t0, ↓b_t1, ↓b_t2, ↓b_t3, ↓b_t4, ↓b_t5, ↓b_t6, Nat.zero_add, Nat.le_refl, b_rs, b_rn, b_r2, b_ss, b_sn, b_bt, b_bf, b_b0, b_b1, b_bw, b_shl, b_or, b_iv, b_jv, b_sI, b_sJ, ↓z_hl, z_b0, z_b1, z_b2, b_and1c, b_and1z, if_true, if_false, nI_add, pk_mul, b_cl, b_lt, b_le, b_eq, b_eq0, b_le0, b_0lt, b_0le, b_lt0]
end RC
/-! what is cleared -/
def w_cz (m : Nat → Nat → Nat) (c n : Nat) : Nat → Nat → Nat := b_r m c (b_rg (m c) 0 n fun _ => 0)
def w_clr (m : Nat → Nat → Nat) : Nat → Nat → Nat := w_cz (w_cz (w_cz (b_r m 15 (b_s (b_s (b_s (b_s (b_s (b_s (b_s (m 15) 0 0) 1 0) 2 0) 3 0) 4 0) 5 4294967295) 6 0)) 21 48) 24 60) 25 10
section CL
variable {X : Nat × (Nat → Int32)} {tx : List Int32} {D d : Nat} {m j : Nat → Nat → Nat} {w : (Nat × Nat) × Bool}
theorem s_Fa_clear3 : ∀ F, 10 < F → a_go X tx (a_ex X tx a_T d) k_Fa_clear_0 F 47 [.ref 15, .int (nI 0)] (b_h m j w) = some (b_h (w_cz m 25 10) j w, none) := by
  intro F hF
  refine z_lp (fun k => [.ref 15, .int (nI k)]) (fun k => b_h (w_cz m 25 k) j w) 10 0 rfl (by unfold w_cz; rw [b_rg0, b_rid rfl]) ?_ ?_ _ (by omega)
  · intro k hk f _
    unfold w_cz
    rw [l_Fa_clear_47, q_Fa_clear_47]
    simp (disch := omega) only [↓bc_15, ↓br_15_12, ↓bc_21, ↓bx_21, bl_21, ↓br_15_15, ↓bc_24, ↓bx_24, bl_24, ↓br_15_16, ↓bc_25, ↓bx_25, bl_25, ↓b_t0, ↓b_t1, ↓b_t2, ↓b_t3, ↓b_t4, ↓b_t5, ↓b_t6, Nat.zero_add, Nat.le_refl, b_rs, b_rn, b_r2, b_ss, b_sn, b_bt, b_bf, b_b0, b_b1, b_bw, b_shl, b_or, b_iv, b_jv, b_sI, b_sJ, ↓z_hl, z_b0, z_b1, z_b2, b_and1c, b_and1z, if_true, if_false, nI_add, pk_mul, b_cl, b_lt, b_le, b_eq, b_eq0, b_le0, b_0lt, b_0le, b_lt0]
    rw [if_neg (by omega), b_rg1' (by omega) rfl]
  · intro f _
    rw [l_Fa_clear_47, q_Fa_clear_47]
    rw [if_pos (by decide +kernel)]
theorem s_Fa_clear2 : ∀ F, 80 < F → a_go X tx (a_ex X tx a_T d) k_Fa_clear_0 F 35 [.ref 15, .int (nI 0)] (b_h m j w) = some (b_h (w_cz (w_cz m 24 60) 25 10) j w, none) := by
  intro F hF
  refine z_lp (fun k => [.ref 15, .int (nI k)]) (fun k => b_h (w_cz m 24 k) j w) 60 12 rfl (by unfold w_cz; rw [b_rg0, b_rid rfl]) ?_ ?_ _ (by omega)
  · intro k hk f _
    unfold w_cz
    rw [l_Fa_clear_35, q_Fa_clear_35]
    simp (disch := omega) only [↓bc_15, ↓br_15_12, ↓bc_21, ↓bx_21, bl_21, ↓br_15_15, ↓bc_24, ↓bx_24, bl_24, ↓br_15_16, ↓bc_25, ↓bx_25, bl_25, ↓b_t0, ↓b_t1, ↓b_t2, ↓b_t3, ↓b_t4, ↓b_t5, ↓b_t6, Nat.zero_add, Nat.le_refl, b_rs, b_rn, b_r2, b_ss, b_sn, b_bt, b_bf, b_b0, b_b1, b_bw, b_shl, b_or, b_iv, b_jv, b_sI, b_sJ, ↓z_hl, z_b0, z_b1, z_b2, b_and1c, b_and1z, if_true, if_false, nI_add, pk_mul, b_cl, b_lt, b_le, b_eq, b_eq0, b_le0, b_0lt, b_0le, b_lt0]
    rw [if_neg (by omega), b_rg1' (by omega) rfl]
  · intro f hf
    rw [l_Fa_clear_35, q_Fa_clear_35]
    rw [if_pos (by decide +kernel), ← l_Fa_clear_47]
    exact s_Fa_clear3 (f + 1) (by omega)
theorem s_Fa_clear1 : ∀ F, 150 < F → a_go X tx (a_ex X tx a_T d) k_Fa_clear_0 F 23 [.ref 15, .int (nI 0)] (b_h m j w) = some (b_h (w_cz (w_cz (w_cz m 21 48) 24 60) 25 10) j w, none) := by
  intro F hF
  refine z_lp (fun k => [.ref 15, .int (nI k)]) (fun k => b_h (w_cz m 21 k) j w) 48 90 rfl (by unfold w_cz; rw [b_rg0, b_rid rfl]) ?_ ?_ _ (by omega)
  · intro k hk f _
    unfold w_cz
    rw [l_Fa_clear_23, q_Fa_clear_23]
    simp (disch := omega) only [↓bc_15, ↓br_15_12, ↓bc_21, ↓bx_21, bl_21, ↓br_15_15, ↓bc_24, ↓bx_24, bl_24, ↓br_15_16, ↓bc_25, ↓bx_25, bl_25, ↓b_t0, ↓b_t1, ↓b_t2, ↓b_t3, ↓b_t4, ↓b_t5, ↓b_t6, Nat.zero_add, Nat.le_refl, b_rs, b_rn, b_r2, b_ss, b_sn, b_bt, b_bf, b_b0, b_b1, b_bw, b_shl, b_or, b_iv, b_jv, b_sI, b_sJ, ↓z_hl, z_b0, z_b1, z_b2, b_and1c, b_and1z, if_true, if_false, nI_add, pk_mul, b_cl, b_lt, b_le, b_eq, b_eq0, b_le0, b_0lt, b_0le, b_lt0]
    rw [if_neg (by omega), b_rg1' (by omega) rfl]
  · intro f hf
    rw [l_Fa_clear_23, q_Fa_clear_23]
    rw [if_pos (by decide +kernel), ← l_Fa_clear_35]
    exact s_Fa_clear2 (f + 1) (by omega)
theorem s_Fa_clear (hD : 1 ≤ D) : a_ex X tx a_T D 20 [.ref 15] (b_h m j w) = some ((b_h (w_clr m) j w), none) := by
  obtain ⟨d, rfl⟩ : ∃ d, D = d + 1 := ⟨D - 1, by omega⟩
  rw [e_Fa_clear, q_Fa_clear_0]
  have s1 := s_Fa_clear1 (X := X) (tx := tx) (d := d) (m := b_r m 15 (b_s (b_s (b_s (b_s (b_s (b_s (b_s (m 15) 0 0) 1 0) 2 0) 3 0) 4 0) 5 4294967295) 6 0)) (j := j) (w := w) (a_f1 + 1) (z_fu (by omega))
  rw [l_Fa_clear_23] at s1
  simp (disch := omega) only [s1, ↓bc_15, ↓br_15_12, ↓bc_21, ↓bx_21, bl_21, ↓br_15_15, ↓bc_24, ↓bx_24, bl_24, ↓br_15_16, ↓bc_25, ↓bx_25, bl_25, ↓b_t0, ↓b_t1, ↓b_t2, ↓b_t3, ↓b_t4, ↓b_t5, ↓b_t6, Nat.zero_add, Nat.le_refl, b_rs, b_rn, b_r2, b_ss, b_sn, b_bt, b_bf, b_b0, b_b1, b_bw, b_shl, b_or, b_iv, b_jv, b_sI, b_sJ, ↓z_hl, z_b0, z_b1, z_b2, b_and1c, b_and1z, if_true, if_false, nI_add, pk_mul, b_cl, b_lt, b_le, b_eq, b_eq0, b_le0, b_0lt, b_0le, b_lt0]
  rfl
end CL
