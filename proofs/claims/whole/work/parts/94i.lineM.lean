/-! TEXTS: the reference reads a line -/
section LN
variable {X : Nat × (Nat → Int32)} {tx : List Int32} {D : Nat} {m j : Nat → Nat → Nat} {w : (Nat × Nat) × Bool} {b : Nat → Nat} {n q p : Nat} {s g : Nat → Nat} {dk : Nat}
theorem s_Mo_line6 (h : y_S m j b n q s g dk p) (hD : 9 ≤ D) (hw : ∀ k, k < 6 → w_ky b n q p ≠ k) : y_L m j w b n q (.error (1, w_pl b n q p)) (a_ex X tx a_T D 223 [.ref 234] (b_h m j w)) := by
  obtain ⟨d, rfl⟩ : ∃ d, D = d + 1 := ⟨D - 1, by omega⟩
  obtain ⟨h1, h2, h3, h4, h5, h6⟩ := id h
  have dW := fun k W (hk : k < 19) (hW : w_cf 7 (w_wl k) = W) => s_Mo_isWord (X := X) (tx := tx) (D := d) (m := m) (j := j) (w := w) h1 h2 (by omega) hk (w_ww hk hW)
  have d0 := dW 0 1802071652 (by decide) (by decide +kernel)
  rw [decide_eq_false (hw 0 (by decide))] at d0
  have d1 := dW 1 7168366 (by decide) (by decide +kernel)
  rw [decide_eq_false (hw 1 (by decide))] at d1
  have d2 := dW 2 499967946343 (by decide) (by decide +kernel)
  rw [decide_eq_false (hw 2 (by decide))] at d2
  have d3 := dW 3 111524805439079 (by decide) (by decide +kernel)
  rw [decide_eq_false (hw 3 (by decide))] at d3
  have d4 := dW 4 439721161573 (by decide) (by decide +kernel)
  rw [decide_eq_false (hw 4 (by decide))] at d4
  have d5 := dW 5 1685418859 (by decide) (by decide +kernel)
  rw [decide_eq_false (hw 5 (by decide))] at d5
  rw [e_Mo_line, q_Mo_line_0, bc_234, d0, z_b1, if_pos (show nI (b_b false) = 0 from by decide +kernel), bc_234, d1, z_b1, if_pos (show nI (b_b false) = 0 from by decide +kernel), bc_234, d2, z_b1, if_pos (show nI (b_b false) = 0 from by decide +kernel), bc_234, d3, z_b1, if_pos (show nI (b_b false) = 0 from by decide +kernel), bc_234, d4, z_b1, if_pos (show nI (b_b false) = 0 from by decide +kernel), bc_234, d5, z_b1, if_pos (show nI (b_b false) = 0 from by decide +kernel)]
  have sb := s_Mo_bad (X := X) (tx := tx) (D := d) (m := m) (j := j) (w := w) h2 (by omega) (k := 1)
  refine y_L_e rfl ?_ (y_E_x x_M_bad)
  simp (disch := omega) only [sb, ↓bc_234, ↓br_234_7, ↓bc_237, ↓bx_237, bl_237, ↓b_t0, ↓b_t1, ↓b_t2, ↓b_t3, ↓b_t4, ↓b_t5, ↓b_t6, Nat.zero_add, Nat.le_refl, b_rs, b_rn, b_r2, b_ss, b_sn, b_bt, b_bf, b_b0, b_b1, b_bw, b_shl, b_or, b_iv, b_jv, b_sI, b_sJ, ↓z_hl, z_b0, z_b1, z_b2, b_and1c, b_and1z, if_true, if_false, nI_add, pk_mul, b_cl, b_lt, b_le, b_eq, b_eq0, b_le0, b_0lt, b_0le, b_lt0]
theorem s_Mo_line0 (h : y_S m j b n q s g dk p) (hD : 9 ≤ D) (hw : w_ky b n q p = 0) : y_L m j w b n q (k_lk b n q s g dk p) (a_ex X tx a_T D 223 [.ref 234] (b_h m j w)) := by
  obtain ⟨d, rfl⟩ : ∃ d, D = d + 1 := ⟨D - 1, by omega⟩
  obtain ⟨h1, h2, h3, h4, h5, h6⟩ := id h
  have dW := fun k W (hk : k < 19) (hW : w_cf 7 (w_wl k) = W) => s_Mo_isWord (X := X) (tx := tx) (D := d) (m := m) (j := j) (w := w) h1 h2 (by omega) hk (w_ww hk hW)
  have d0 := dW 0 1802071652 (by decide) (by decide +kernel)
  rw [decide_eq_true hw] at d0
  rw [e_Mo_line, q_Mo_line_0, bc_234, d0, z_b1, if_neg (show ¬ nI (b_b true) = 0 from by decide +kernel)]
  have hk1 : w_kd b n q p = 1 := ((w_ky_iff (by decide)).mp hw).1
  have hin : w_pb2 b n q p < min n q := w_kd_in (by omega) (by omega)
  clear dW d0
  have sb := s_Mo_bad (X := X) (tx := tx) (D := d) (m := m) (j := j) (w := w) h2 (by omega) (k := 4)
  have a0 : m 237 0 = s 0 := (h4 0 (by omega)).1
  unfold k_lk
  by_cases c : s 0 = 6
  · rw [if_pos c]
    rw [c] at a0
    refine y_L_e rfl ?_ (y_E_x x_M_bad)
    simp (disch := omega) only [sb, a0, ↓bc_234, ↓br_234_7, ↓bc_237, ↓bx_237, bl_237, ↓b_t0, ↓b_t1, ↓b_t2, ↓b_t3, ↓b_t4, ↓b_t5, ↓b_t6, Nat.zero_add, Nat.le_refl, b_rs, b_rn, b_r2, b_ss, b_sn, b_bt, b_bf, b_b0, b_b1, b_bw, b_shl, b_or, b_iv, b_jv, b_sI, b_sJ, ↓z_hl, z_b0, z_b1, z_b2, b_and1c, b_and1z, if_true, if_false, nI_add, pk_mul, b_cl, b_lt, b_le, b_eq, b_eq0, b_le0, b_0lt, b_0le, b_lt0]
  rw [if_neg c]
  have c0 : s 0 < 6 := by have := y_N_K h3; omega
  obtain ⟨n1, n2, n3, n4, n5, n6⟩ := id h
  obtain ⟨m2, j2, e1, e2, _⟩ := s_Mo_nextT (X := X) (tx := tx) (D := d) (w := w) n1 n2 hin (by omega)
  obtain ⟨S2, r2⟩ := y_S_o h e2
  have s2 := s_Mo_freshS (X := X) (tx := tx) (D := d) (w := w) S2 (by omega) (x := 0 + s 0) (to := 30 + s 0) (by omega) (by omega)
  have b0 : m2 237 0 = s 0 := ((y_S_s S2) 0 (by omega)).1
  cases q1 : k_fresh b n q g s (w_nx b n q p) with
  | error e =>
    rw [q1] at s2
    obtain ⟨m3, j3, e3, e4⟩ := s2
    refine y_L_e rfl ?_ (y_E_t r2 e4)
    simp (disch := omega) only [a0, b0, e1, e3, ↓bc_234, ↓br_234_7, ↓bc_237, ↓bx_237, bl_237, ↓b_t0, ↓b_t1, ↓b_t2, ↓b_t3, ↓b_t4, ↓b_t5, ↓b_t6, Nat.zero_add, Nat.le_refl, b_rs, b_rn, b_r2, b_ss, b_sn, b_bt, b_bf, b_b0, b_b1, b_bw, b_shl, b_or, b_iv, b_jv, b_sI, b_sJ, ↓z_hl, z_b0, z_b1, z_b2, b_and1c, b_and1z, if_true, if_false, nI_add, pk_mul, b_cl, b_lt, b_le, b_eq, b_eq0, b_le0, b_0lt, b_0le, b_lt0]
    rw [if_neg (by omega)]
  | ok p2 =>
  rw [q1] at s2
  obtain ⟨m3, j3, e3, S3, r3, hW⟩ := s2
  generalize hWW : w_conv (w_le b n q (w_nx b n q p)) = W at hW S3
  have c1 : m3 237 0 = s 0 := ((y_S_s S3) 0 (by omega)).1
  obtain ⟨S4, r4⟩ := y_S_cnt (v := s 0 + 1) (to := 0) S3 (y_N_i0 (y_S_N S3) c0 (by rw [Nat.zero_add, b_ss]; exact hW)) (by omega)
  refine y_L_o rfl ?_ (by rw [Nat.zero_add] at S4; exact S4) (y_fr_t r2 (y_fr_t r3 r4))
  simp (disch := omega) only [a0, b0, c1, e1, e3, Nat.one_ne_zero, ↓bc_234, ↓br_234_7, ↓bc_237, ↓bx_237, bl_237, ↓b_t0, ↓b_t1, ↓b_t2, ↓b_t3, ↓b_t4, ↓b_t5, ↓b_t6, Nat.zero_add, Nat.le_refl, b_rs, b_rn, b_r2, b_ss, b_sn, b_bt, b_bf, b_b0, b_b1, b_bw, b_shl, b_or, b_iv, b_jv, b_sI, b_sJ, ↓z_hl, z_b0, z_b1, z_b2, b_and1c, b_and1z, if_true, if_false, nI_add, pk_mul, b_cl, b_lt, b_le, b_eq, b_eq0, b_le0, b_0lt, b_0le, b_lt0]
  rw [if_neg (by omega)]
theorem s_Mo_line1 (h : y_S m j b n q s g dk p) (hD : 9 ≤ D) (hw : w_ky b n q p = 1) : y_L m j w b n q (k_lm b n q s g dk p) (a_ex X tx a_T D 223 [.ref 234] (b_h m j w)) := by
  obtain ⟨d, rfl⟩ : ∃ d, D = d + 1 := ⟨D - 1, by omega⟩
  obtain ⟨h1, h2, h3, h4, h5, h6⟩ := id h
  have dW := fun k W (hk : k < 19) (hW : w_cf 7 (w_wl k) = W) => s_Mo_isWord (X := X) (tx := tx) (D := d) (m := m) (j := j) (w := w) h1 h2 (by omega) hk (w_ww hk hW)
  have d0 := dW 0 1802071652 (by decide) (by decide +kernel)
  rw [decide_eq_false (by omega)] at d0
  have d1 := dW 1 7168366 (by decide) (by decide +kernel)
  rw [decide_eq_true hw] at d1
  rw [e_Mo_line, q_Mo_line_0, bc_234, d0, z_b1, if_pos (show nI (b_b false) = 0 from by decide +kernel), bc_234, d1, z_b1, if_neg (show ¬ nI (b_b true) = 0 from by decide +kernel)]
  have hk1 : w_kd b n q p = 1 := ((w_ky_iff (by decide)).mp hw).1
  have hin : w_pb2 b n q p < min n q := w_kd_in (by omega) (by omega)
  clear dW d0 d1
  have sb := s_Mo_bad (X := X) (tx := tx) (D := d) (m := m) (j := j) (w := w) h2 (by omega) (k := 4)
  have a0 : m 237 1 = s 1 := (h4 1 (by omega)).1
  unfold k_lm
  by_cases c : s 1 = 6
  · rw [if_pos c]
    rw [c] at a0
    refine y_L_e rfl ?_ (y_E_x x_M_bad)
    simp (disch := omega) only [sb, a0, ↓bc_234, ↓br_234_7, ↓bc_237, ↓bx_237, bl_237, ↓b_t0, ↓b_t1, ↓b_t2, ↓b_t3, ↓b_t4, ↓b_t5, ↓b_t6, Nat.zero_add, Nat.le_refl, b_rs, b_rn, b_r2, b_ss, b_sn, b_bt, b_bf, b_b0, b_b1, b_bw, b_shl, b_or, b_iv, b_jv, b_sI, b_sJ, ↓z_hl, z_b0, z_b1, z_b2, b_and1c, b_and1z, if_true, if_false, nI_add, pk_mul, b_cl, b_lt, b_le, b_eq, b_eq0, b_le0, b_0lt, b_0le, b_lt0]
  rw [if_neg c]
  have c0 : s 1 < 6 := by have := y_N_M h3; omega
  obtain ⟨n1, n2, n3, n4, n5, n6⟩ := id h
  obtain ⟨m2, j2, e1, e2, _⟩ := s_Mo_nextT (X := X) (tx := tx) (D := d) (w := w) n1 n2 hin (by omega)
  obtain ⟨S2, r2⟩ := y_S_o h e2
  have s2 := s_Mo_freshS (X := X) (tx := tx) (D := d) (w := w) S2 (by omega) (x := 6 + s 1) (to := 36 + s 1) (by omega) (by omega)
  have b0 : m2 237 1 = s 1 := ((y_S_s S2) 1 (by omega)).1
  cases q1 : k_fresh b n q g s (w_nx b n q p) with
  | error e =>
    rw [q1] at s2
    obtain ⟨m3, j3, e3, e4⟩ := s2
    refine y_L_e rfl ?_ (y_E_t r2 e4)
    simp (disch := omega) only [a0, b0, e1, e3, ↓bc_234, ↓br_234_7, ↓bc_237, ↓bx_237, bl_237, ↓b_t0, ↓b_t1, ↓b_t2, ↓b_t3, ↓b_t4, ↓b_t5, ↓b_t6, Nat.zero_add, Nat.le_refl, b_rs, b_rn, b_r2, b_ss, b_sn, b_bt, b_bf, b_b0, b_b1, b_bw, b_shl, b_or, b_iv, b_jv, b_sI, b_sJ, ↓z_hl, z_b0, z_b1, z_b2, b_and1c, b_and1z, if_true, if_false, nI_add, pk_mul, b_cl, b_lt, b_le, b_eq, b_eq0, b_le0, b_0lt, b_0le, b_lt0]
    rw [if_neg (by omega)]
  | ok p2 =>
  rw [q1] at s2
  obtain ⟨m3, j3, e3, S3, r3, hW⟩ := s2
  generalize hWW : w_conv (w_le b n q (w_nx b n q p)) = W at hW S3
  obtain ⟨u1, u2, u3, u4, u5, u6⟩ := id S3
  have s3 := s_Mo_puts (X := X) (tx := tx) (D := d) (m := m3) (j := j3) (w := w) u1 u2 (by omega) (to := 5 + s 1) (lo := 0) (hi := 999) (by omega) (by omega) (by omega)
  show y_L m j w b n q (k_lm2 b n q s (b_s g (6 + s 1) W) dk p2) _
  unfold k_lm2
  cases q2 : k_num b n q 0 999 p2 with
  | error e =>
    rw [q2] at s3
    obtain ⟨m4, j4, e5, e6⟩ := s3
    refine y_L_e rfl ?_ (y_E_t r2 (y_E_t r3 (y_E_x e6)))
    simp (disch := omega) only [a0, e1, e3, e5, Nat.one_ne_zero, ↓bc_234, ↓br_234_7, ↓bc_237, ↓bx_237, bl_237, ↓b_t0, ↓b_t1, ↓b_t2, ↓b_t3, ↓b_t4, ↓b_t5, ↓b_t6, Nat.zero_add, Nat.le_refl, b_rs, b_rn, b_r2, b_ss, b_sn, b_bt, b_bf, b_b0, b_b1, b_bw, b_shl, b_or, b_iv, b_jv, b_sI, b_sJ, ↓z_hl, z_b0, z_b1, z_b2, b_and1c, b_and1z, if_true, if_false, nI_add, pk_mul, b_cl, b_lt, b_le, b_eq, b_eq0, b_le0, b_0lt, b_0le, b_lt0]
    rw [if_neg (by omega)]
  | ok r =>
  rw [q2] at s3
  obtain ⟨m4, j4, e5, e6, e7, e8, e9⟩ := s3
  obtain ⟨S4, r4⟩ := y_S_o S3 e6
  obtain ⟨S5, r5⟩ := y_S_put (v := r.1) (to := 5 + s 1) S4 (by omega) (by omega)
  have z8 : m3 237 = m4 237 := (e6.2.2.1 237 (by decide)).symm
  rw [z8] at e5
  have hs1 : b_s s (5 + s 1) r.1 1 = s 1 := b_sn (by omega)
  have c1 : b_s (m4 237) (5 + s 1) r.1 1 = s 1 := (b_sn (by omega)).trans ((y_S_s S4) 1 (by omega)).1
  have hN5 := y_N_i1 (y_S_N S5) (by rw [hs1]; exact c0) (by rw [hs1, b_ss]; exact hW)
  rw [hs1] at hN5
  obtain ⟨S6, r6⟩ := y_S_cnt (v := s 1 + 1) (to := 1) S5 hN5 (by omega)
  rw [b_rs, b_r2] at S6
  refine y_L_o rfl ?_ S6 (y_fr_t r2 (y_fr_t r3 (y_fr_t r4 (by rw [b_rs, b_r2] at r6; exact y_fr_t r5 r6))))
  simp (disch := omega) only [a0, c1, e1, e3, e5, Nat.one_ne_zero, ↓bc_234, ↓br_234_7, ↓bc_237, ↓bx_237, bl_237, ↓b_t0, ↓b_t1, ↓b_t2, ↓b_t3, ↓b_t4, ↓b_t5, ↓b_t6, Nat.zero_add, Nat.le_refl, b_rs, b_rn, b_r2, b_ss, b_sn, b_bt, b_bf, b_b0, b_b1, b_bw, b_shl, b_or, b_iv, b_jv, b_sI, b_sJ, ↓z_hl, z_b0, z_b1, z_b2, b_and1c, b_and1z, if_true, if_false, nI_add, pk_mul, b_cl, b_lt, b_le, b_eq, b_eq0, b_le0, b_0lt, b_0le, b_lt0]
  rw [if_neg (by omega)]
theorem s_Mo_line2 (h : y_S m j b n q s g dk p) (hD : 9 ≤ D) (hz : ∀ t, s 2 ≤ t → t < 8 → ∀ k, k < 6 → s (19 + 6 * t + k) = 0) (hw : w_ky b n q p = 2) : y_L m j w b n q (k_lt b n q s g dk p) (a_ex X tx a_T D 223 [.ref 234] (b_h m j w)) := by
  obtain ⟨d, rfl⟩ : ∃ d, D = d + 1 := ⟨D - 1, by omega⟩
  obtain ⟨h1, h2, h3, h4, h5, h6⟩ := id h
  have dW := fun k W (hk : k < 19) (hW : w_cf 7 (w_wl k) = W) => s_Mo_isWord (X := X) (tx := tx) (D := d) (m := m) (j := j) (w := w) h1 h2 (by omega) hk (w_ww hk hW)
  have d0 := dW 0 1802071652 (by decide) (by decide +kernel)
  rw [decide_eq_false (by omega)] at d0
  have d1 := dW 1 7168366 (by decide) (by decide +kernel)
  rw [decide_eq_false (by omega)] at d1
  have d2 := dW 2 499967946343 (by decide) (by decide +kernel)
  rw [decide_eq_true hw] at d2
  rw [e_Mo_line, q_Mo_line_0, bc_234, d0, z_b1, if_pos (show nI (b_b false) = 0 from by decide +kernel), bc_234, d1, z_b1, if_pos (show nI (b_b false) = 0 from by decide +kernel), bc_234, d2, z_b1, if_neg (show ¬ nI (b_b true) = 0 from by decide +kernel)]
  have hk1 : w_kd b n q p = 1 := ((w_ky_iff (by decide)).mp hw).1
  have hin : w_pb2 b n q p < min n q := w_kd_in (by omega) (by omega)
  clear dW d0 d1 d2
  have sb := s_Mo_bad (X := X) (tx := tx) (D := d) (m := m) (j := j) (w := w) h2 (by omega) (k := 4)
  have a0 : m 237 2 = s 2 := (h4 2 (by omega)).1
  unfold k_lt
  by_cases c : s 2 = 8
  · rw [if_pos c]
    rw [c] at a0
    refine y_L_e rfl ?_ (y_E_x x_M_bad)
    simp (disch := omega) only [sb, a0, ↓bc_234, ↓br_234_7, ↓bc_237, ↓bx_237, bl_237, ↓b_t0, ↓b_t1, ↓b_t2, ↓b_t3, ↓b_t4, ↓b_t5, ↓b_t6, Nat.zero_add, Nat.le_refl, b_rs, b_rn, b_r2, b_ss, b_sn, b_bt, b_bf, b_b0, b_b1, b_bw, b_shl, b_or, b_iv, b_jv, b_sI, b_sJ, ↓z_hl, z_b0, z_b1, z_b2, b_and1c, b_and1z, if_true, if_false, nI_add, pk_mul, b_cl, b_lt, b_le, b_eq, b_eq0, b_le0, b_0lt, b_0le, b_lt0]
  rw [if_neg c]
  have c0 : s 2 < 8 := by have := y_N_T h3; omega
  obtain ⟨n1, n2, n3, n4, n5, n6⟩ := id h
  obtain ⟨m2, j2, e1, e2, _⟩ := s_Mo_nextT (X := X) (tx := tx) (D := d) (w := w) n1 n2 hin (by omega)
  obtain ⟨S2, r2⟩ := y_S_o h e2
  have s2 := s_Mo_freshS (X := X) (tx := tx) (D := d) (w := w) S2 (by omega) (x := 12 + s 2) (to := 42 + s 2) (by omega) (by omega)
  have b0 : m2 237 2 = s 2 := ((y_S_s S2) 2 (by omega)).1
  cases q1 : k_fresh b n q g s (w_nx b n q p) with
  | error e =>
    rw [q1] at s2
    obtain ⟨m3, j3, e3, e4⟩ := s2
    refine y_L_e rfl ?_ (y_E_t r2 e4)
    simp (disch := omega) only [a0, b0, e1, e3, ↓bc_234, ↓br_234_7, ↓bc_237, ↓bx_237, bl_237, ↓b_t0, ↓b_t1, ↓b_t2, ↓b_t3, ↓b_t4, ↓b_t5, ↓b_t6, Nat.zero_add, Nat.le_refl, b_rs, b_rn, b_r2, b_ss, b_sn, b_bt, b_bf, b_b0, b_b1, b_bw, b_shl, b_or, b_iv, b_jv, b_sI, b_sJ, ↓z_hl, z_b0, z_b1, z_b2, b_and1c, b_and1z, if_true, if_false, nI_add, pk_mul, b_cl, b_lt, b_le, b_eq, b_eq0, b_le0, b_0lt, b_0le, b_lt0]
    rw [if_neg (by omega)]
  | ok p2 =>
  rw [q1] at s2
  obtain ⟨m3, j3, e3, S3, r3, hW⟩ := s2
  generalize hWW : w_conv (w_le b n q (w_nx b n q p)) = W at hW S3
  obtain ⟨u1, u2, u3, u4, u5, u6⟩ := id S3
  have c1 : m3 237 1 = s 1 := (u4 1 (by omega)).1
  have s3 := s_Mo_takesName (X := X) (tx := tx) (D := d) (m := m3) (j := j3) (w := w) u1 u2 (by omega) (fr := 36) (by have := y_N_M u3; omega) (y_N_n1 u3)
  show y_L m j w b n q (k_lt2 b n q s (b_s g (12 + s 2) W) dk p2) _
  unfold k_lt2
  cases q2 : k_look b n q (fun k => b_s g (12 + s 2) W (6 + k)) (s 1) p2 with
  | error e =>
    rw [q2] at s3
    obtain ⟨m4, j4, e5, e6⟩ := s3
    refine y_L_e rfl ?_ (y_E_t r2 (y_E_t r3 (y_E_x e6)))
    simp (disch := omega) only [a0, c1, e1, e3, e5, Nat.one_ne_zero, ↓bc_234, ↓br_234_7, ↓bc_237, ↓bx_237, bl_237, ↓b_t0, ↓b_t1, ↓b_t2, ↓b_t3, ↓b_t4, ↓b_t5, ↓b_t6, Nat.zero_add, Nat.le_refl, b_rs, b_rn, b_r2, b_ss, b_sn, b_bt, b_bf, b_b0, b_b1, b_bw, b_shl, b_or, b_iv, b_jv, b_sI, b_sJ, ↓z_hl, z_b0, z_b1, z_b2, b_and1c, b_and1z, if_true, if_false, nI_add, pk_mul, b_cl, b_lt, b_le, b_eq, b_eq0, b_le0, b_0lt, b_0le, b_lt0]
    rw [if_neg (by omega)]
  | ok k =>
  rw [q2] at s3
  obtain ⟨m4, j4, e4, e5, e6, e7⟩ := s3
  have hM1 := y_N_M u3
  obtain ⟨S4, r4⟩ := y_S_o S3 e6
  obtain ⟨S5, r5⟩ := y_S_put (v := k) (to := 11 + s 2) S4 (by omega) (by omega)
  have hs0 : b_s s (11 + s 2) k 0 = s 0 := b_sn (by omega)
  have s5 := s_Mo_readKinds (X := X) (tx := tx) (D := d) (w := w) (to := 19 + 6 * s 2) S5 (by omega) (by omega) (by omega) (fun i hi => by rw [b_sn (by omega)]; exact hz (s 2) (Nat.le_refl _) c0 i hi)
  rw [hs0] at s5
  show y_L m j w b n q (match k_am b n q (b_s g (12 + s 2) W) (s 0) (19 + 6 * s 2) 7 (b_s s (11 + s 2) k) (w_nx b n q p2) with
    | .error e => .error e
    | .ok y => .ok (b_s y.1 2 (s 2 + 1), b_s g (12 + s 2) W, dk, y.2)) _
  cases q3 : k_am b n q (b_s g (12 + s 2) W) (s 0) (19 + 6 * s 2) 7 (b_s s (11 + s 2) k) (w_nx b n q p2) with
  | error e =>
    rw [q3] at s5
    obtain ⟨m6, j6, e8, e9⟩ := s5
    refine y_L_e rfl ?_ (y_E_t r2 (y_E_t r3 (y_E_t r4 (y_E_t r5 e9))))
    simp (disch := omega) only [a0, c1, e1, e3, e5, e7, e8, Nat.one_ne_zero, ↓bc_234, ↓br_234_7, ↓bc_237, ↓bx_237, bl_237, ↓b_t0, ↓b_t1, ↓b_t2, ↓b_t3, ↓b_t4, ↓b_t5, ↓b_t6, Nat.zero_add, Nat.le_refl, b_rs, b_rn, b_r2, b_ss, b_sn, b_bt, b_bf, b_b0, b_b1, b_bw, b_shl, b_or, b_iv, b_jv, b_sI, b_sJ, ↓z_hl, z_b0, z_b1, z_b2, b_and1c, b_and1z, if_true, if_false, nI_add, pk_mul, b_cl, b_lt, b_le, b_eq, b_eq0, b_le0, b_0lt, b_0le, b_lt0]
    rw [if_neg (by omega)]
  | ok y =>
  rw [q3] at s5
  obtain ⟨m6, j6, e8, S6, r6⟩ := s5
  have hM0 := y_N_K u3
  have hy : y.1 2 = s 2 := (k_am_fr _ _ _ _ q3 2 (Or.inl (by omega))).trans (b_sn (by omega))
  have c2 : m6 237 2 = s 2 := ((y_S_s S6) 2 (by omega)).1.trans hy
  have hN := y_N_i2 (y_S_N S6) (by rw [hy]; exact c0) (by rw [hy, b_ss]; exact hW)
  rw [hy] at hN
  obtain ⟨S7, r7⟩ := y_S_cnt (v := s 2 + 1) (to := 2) S6 hN (by omega)
  refine y_L_o rfl ?_ S7 (y_fr_t r2 (y_fr_t r3 (y_fr_t r4 (y_fr_t r5 (y_fr_t r6 r7)))))
  simp (disch := omega) only [a0, c1, c2, e1, e3, e5, e7, e8, Nat.one_ne_zero, ↓bc_234, ↓br_234_7, ↓bc_237, ↓bx_237, bl_237, ↓b_t0, ↓b_t1, ↓b_t2, ↓b_t3, ↓b_t4, ↓b_t5, ↓b_t6, Nat.zero_add, Nat.le_refl, b_rs, b_rn, b_r2, b_ss, b_sn, b_bt, b_bf, b_b0, b_b1, b_bw, b_shl, b_or, b_iv, b_jv, b_sI, b_sJ, ↓z_hl, z_b0, z_b1, z_b2, b_and1c, b_and1z, if_true, if_false, nI_add, pk_mul, b_cl, b_lt, b_le, b_eq, b_eq0, b_le0, b_0lt, b_0le, b_lt0]
  rw [if_neg (by omega)]
end LN
