/-! TEXTS: the reference reads a line, further -/
section LN
variable {X : Nat × (Nat → Int32)} {tx : List Int32} {D : Nat} {m j : Nat → Nat → Nat} {w : (Nat × Nat) × Bool} {b : Nat → Nat} {n q p : Nat} {s g : Nat → Nat} {dk : Nat}
theorem s_Mo_line3 (h : y_S m j b n q s g dk p) (hD : 9 ≤ D) (hz : ∀ t, s 3 ≤ t → t < 10 → ∀ k, k < 6 → s (87 + 6 * t + k) = 0) (hw : w_ky b n q p = 3) : y_L m j w b n q (k_le b n q s g dk p) (a_ex X tx a_T D 223 [.ref 234] (b_h m j w)) := by
  obtain ⟨d, rfl⟩ : ∃ d, D = d + 1 := ⟨D - 1, by omega⟩
  obtain ⟨h1, h2, h3, h4, h5, h6⟩ := id h
  have dW := fun k W (hk : k < 19) (hW : w_cf 7 (w_wl k) = W) => s_Mo_isWord (X := X) (tx := tx) (D := d) (m := m) (j := j) (w := w) h1 h2 (by omega) hk (w_ww hk hW)
  have d0 := dW 0 1802071652 (by decide) (by decide +kernel)
  rw [decide_eq_false (by omega)] at d0
  have d1 := dW 1 7168366 (by decide) (by decide +kernel)
  rw [decide_eq_false (by omega)] at d1
  have d2 := dW 2 499967946343 (by decide) (by decide +kernel)
  rw [decide_eq_false (by omega)] at d2
  have d3 := dW 3 111524805439079 (by decide) (by decide +kernel)
  rw [decide_eq_true hw] at d3
  rw [e_Mo_line, q_Mo_line_0, bc_234, d0, z_b1, if_pos (show nI (b_b false) = 0 from by decide +kernel), bc_234, d1, z_b1, if_pos (show nI (b_b false) = 0 from by decide +kernel), bc_234, d2, z_b1, if_pos (show nI (b_b false) = 0 from by decide +kernel), bc_234, d3, z_b1, if_neg (show ¬ nI (b_b true) = 0 from by decide +kernel)]
  have hk1 : w_kd b n q p = 1 := ((w_ky_iff (by decide)).mp hw).1
  have hin : w_pb2 b n q p < min n q := w_kd_in (by omega) (by omega)
  clear dW d0 d1 d2 d3
  have sb := s_Mo_bad (X := X) (tx := tx) (D := d) (m := m) (j := j) (w := w) h2 (by omega) (k := 4)
  have a0 : m 237 3 = s 3 := (h4 3 (by omega)).1
  unfold k_le
  by_cases c : s 3 = 10
  · rw [if_pos c]
    rw [c] at a0
    refine y_L_e rfl ?_ (y_E_x x_M_bad)
    simp (disch := omega) only [sb, a0, ↓bc_234, ↓br_234_7, ↓bc_237, ↓bx_237, bl_237, ↓b_t0, ↓b_t1, ↓b_t2, ↓b_t3, ↓b_t4, ↓b_t5, ↓b_t6, Nat.zero_add, Nat.le_refl, b_rs, b_rn, b_r2, b_ss, b_sn, b_bt, b_bf, b_b0, b_b1, b_bw, b_shl, b_or, b_iv, b_jv, b_sI, b_sJ, ↓z_hl, z_b0, z_b1, z_b2, b_and1c, b_and1z, if_true, if_false, nI_add, pk_mul, b_cl, b_lt, b_le, b_eq, b_eq0, b_le0, b_0lt, b_0le, b_lt0]
  rw [if_neg c]
  have c0 : s 3 < 10 := by have := y_N_E h3; omega
  obtain ⟨n1, n2, n3, n4, n5, n6⟩ := id h
  obtain ⟨m2, j2, e1, e2, _⟩ := s_Mo_nextT (X := X) (tx := tx) (D := d) (w := w) n1 n2 hin (by omega)
  obtain ⟨S2, r2⟩ := y_S_o h e2
  have s2 := s_Mo_freshS (X := X) (tx := tx) (D := d) (w := w) S2 (by omega) (x := 20 + s 3) (to := 50 + s 3) (by omega) (by omega)
  have b0 : m2 237 3 = s 3 := ((y_S_s S2) 3 (by omega)).1
  cases q1 : k_fresh b n q g s (w_nx b n q p) with
  | error e =>
    rw [q1] at s2
    obtain ⟨m3, j3, e3, e4⟩ := s2
    refine y_L_e rfl ?_ (y_E_t r2 e4)
    simp (disch := omega) only [a0, b0, e1, e3, ↓bc_234, ↓br_234_7, ↓bc_237, ↓bx_237, bl_237, ↓b_t0, ↓b_t1, ↓b_t2, ↓b_t3, ↓b_t4, ↓b_t5, ↓b_t6, Nat.zero_add, Nat.le_refl, b_rs, b_rn, b_r2, b_ss, b_sn, b_bt, b_bf, b_b0, b_b1, b_bw, b_shl, b_or, b_iv, b_jv, b_sI, b_sJ, ↓z_hl, z_b0, z_b1, z_b2, b_and1c, b_and1z, if_true, if_false, nI_add, pk_mul, b_cl, b_lt, b_le, b_eq, b_eq0, b_le0, b_0lt, b_0le, b_lt0]
    rw [if_neg (by omega)]
  | ok p2 =>
  rw [q1] at s2
  obtain ⟨m3, j3, e3, S3, r3, hW⟩ := s2
  generalize hWW : w_conv (w_le b n q (w_nx b n q p)) = W at hW S3
  obtain ⟨u1, u2, u3, u4, u5, u6⟩ := id S3
  have c1 : m3 237 1 = s 1 := (u4 1 (by omega)).1
  have s3 := s_Mo_takesName (X := X) (tx := tx) (D := d) (m := m3) (j := j3) (w := w) u1 u2 (by omega) (fr := 36) (by have := y_N_M u3; omega) (y_N_n1 u3)
  show y_L m j w b n q (k_le2 b n q s (b_s g (20 + s 3) W) dk p2) _
  unfold k_le2
  cases q2 : k_look b n q (fun k => b_s g (20 + s 3) W (6 + k)) (s 1) p2 with
  | error e =>
    rw [q2] at s3
    obtain ⟨m4, j4, e5, e6⟩ := s3
    refine y_L_e rfl ?_ (y_E_t r2 (y_E_t r3 (y_E_x e6)))
    simp (disch := omega) only [a0, c1, e1, e3, e5, Nat.one_ne_zero, ↓bc_234, ↓br_234_7, ↓bc_237, ↓bx_237, bl_237, ↓b_t0, ↓b_t1, ↓b_t2, ↓b_t3, ↓b_t4, ↓b_t5, ↓b_t6, Nat.zero_add, Nat.le_refl, b_rs, b_rn, b_r2, b_ss, b_sn, b_bt, b_bf, b_b0, b_b1, b_bw, b_shl, b_or, b_iv, b_jv, b_sI, b_sJ, ↓z_hl, z_b0, z_b1, z_b2, b_and1c, b_and1z, if_true, if_false, nI_add, pk_mul, b_cl, b_lt, b_le, b_eq, b_eq0, b_le0, b_0lt, b_0le, b_lt0]
    rw [if_neg (by omega)]
  | ok k =>
  rw [q2] at s3
  obtain ⟨m4, j4, e4, e5, e6, e7⟩ := s3
  have hM1 := y_N_M u3
  obtain ⟨S4, r4⟩ := y_S_o S3 e6
  obtain ⟨S5, r5⟩ := y_S_put (v := k) (to := 67 + s 3) S4 (by omega) (by omega)
  obtain ⟨v1, v2, v3, v4, v5, v6⟩ := id S5
  have s4 := s_Mo_puts (X := X) (tx := tx) (D := d) (w := w) v1 v2 (by omega) (to := 77 + s 3) (lo := 0) (hi := 99) (by omega) (by omega) (by omega)
  show y_L m j w b n q (match k_num b n q 0 99 (w_nx b n q p2) with
    | .error e => .error e
    | .ok r => k_le3 b n q (b_s (b_s s (67 + s 3) k) (77 + s 3) r.1) (b_s g (20 + s 3) W) dk r.2) _
  cases q4 : k_num b n q 0 99 (w_nx b n q p2) with
  | error e =>
    rw [q4] at s4
    obtain ⟨m6, j6, e8, e9⟩ := s4
    refine y_L_e rfl ?_ (y_E_t r2 (y_E_t r3 (y_E_t r4 (y_E_t r5 (y_E_x e9)))))
    simp (disch := omega) only [a0, c1, e1, e3, e5, e7, e8, Nat.one_ne_zero, ↓bc_234, ↓br_234_7, ↓bc_237, ↓bx_237, bl_237, ↓b_t0, ↓b_t1, ↓b_t2, ↓b_t3, ↓b_t4, ↓b_t5, ↓b_t6, Nat.zero_add, Nat.le_refl, b_rs, b_rn, b_r2, b_ss, b_sn, b_bt, b_bf, b_b0, b_b1, b_bw, b_shl, b_or, b_iv, b_jv, b_sI, b_sJ, ↓z_hl, z_b0, z_b1, z_b2, b_and1c, b_and1z, if_true, if_false, nI_add, pk_mul, b_cl, b_lt, b_le, b_eq, b_eq0, b_le0, b_0lt, b_0le, b_lt0]
    rw [if_neg (by omega)]
  | ok r =>
  rw [q4] at s4
  obtain ⟨m6, j6, e8, e9, e10, e11, e12⟩ := s4
  obtain ⟨S6, r6⟩ := y_S_o S5 e9
  obtain ⟨S7, r7⟩ := y_S_put (v := r.1) (to := 77 + s 3) S6 (by omega) (by omega)
  have z8 : b_r m4 237 (b_s (m4 237) (67 + s 3) k) 237 = m6 237 := (e9.2.2.1 237 (by decide)).symm
  rw [z8] at e8
  have hs0 : b_s (b_s s (67 + s 3) k) (77 + s 3) r.1 0 = s 0 := (b_sn (by omega)).trans (b_sn (by omega))
  have hs3 : b_s (b_s s (67 + s 3) k) (77 + s 3) r.1 3 = s 3 := (b_sn (by omega)).trans (b_sn (by omega))
  have s5 := s_Mo_readKinds (X := X) (tx := tx) (D := d) (w := w) (to := 87 + 6 * s 3) S7 (by omega) (by omega) (by omega) (fun i hi => by rw [b_sn (by omega), b_sn (by omega)]; exact hz (s 3) (Nat.le_refl _) c0 i hi)
  rw [hs0] at s5
  show y_L m j w b n q (k_le3 b n q (b_s (b_s s (67 + s 3) k) (77 + s 3) r.1) (b_s g (20 + s 3) W) dk r.2) _
  unfold k_le3
  rw [hs0, hs3]
  cases q3 : k_am b n q (b_s g (20 + s 3) W) (s 0) (87 + 6 * s 3) 7 (b_s (b_s s (67 + s 3) k) (77 + s 3) r.1) r.2 with
  | error e =>
    rw [q3] at s5
    obtain ⟨m8, j8, f1, f2⟩ := s5
    refine y_L_e rfl ?_ (y_E_t r2 (y_E_t r3 (y_E_t r4 (y_E_t r5 (y_E_t r6 (y_E_t r7 f2))))))
    simp (disch := omega) only [a0, c1, e1, e3, e5, e7, e8, f1, Nat.one_ne_zero, ↓bc_234, ↓br_234_7, ↓bc_237, ↓bx_237, bl_237, ↓b_t0, ↓b_t1, ↓b_t2, ↓b_t3, ↓b_t4, ↓b_t5, ↓b_t6, Nat.zero_add, Nat.le_refl, b_rs, b_rn, b_r2, b_ss, b_sn, b_bt, b_bf, b_b0, b_b1, b_bw, b_shl, b_or, b_iv, b_jv, b_sI, b_sJ, ↓z_hl, z_b0, z_b1, z_b2, b_and1c, b_and1z, if_true, if_false, nI_add, pk_mul, b_cl, b_lt, b_le, b_eq, b_eq0, b_le0, b_0lt, b_0le, b_lt0]
    rw [if_neg (by omega)]
  | ok y =>
  rw [q3] at s5
  obtain ⟨m8, j8, f1, S8, r8⟩ := s5
  have hM0 := y_N_K u3
  have hy : y.1 3 = s 3 := (k_am_fr _ _ _ _ q3 3 (Or.inl (by omega))).trans hs3
  have c2 : m8 237 3 = s 3 := ((y_S_s S8) 3 (by omega)).1.trans hy
  have hN := y_N_i3 (y_S_N S8) (by rw [hy]; exact c0) (by rw [hy, b_ss]; exact hW)
  rw [hy] at hN
  obtain ⟨S9, r9⟩ := y_S_cnt (v := s 3 + 1) (to := 3) S8 hN (by omega)
  refine y_L_o rfl ?_ S9 (y_fr_t r2 (y_fr_t r3 (y_fr_t r4 (y_fr_t r5 (y_fr_t r6 (y_fr_t r7 (y_fr_t r8 r9)))))))
  simp (disch := omega) only [a0, c1, c2, e1, e3, e5, e7, e8, f1, Nat.one_ne_zero, ↓bc_234, ↓br_234_7, ↓bc_237, ↓bx_237, bl_237, ↓b_t0, ↓b_t1, ↓b_t2, ↓b_t3, ↓b_t4, ↓b_t5, ↓b_t6, Nat.zero_add, Nat.le_refl, b_rs, b_rn, b_r2, b_ss, b_sn, b_bt, b_bf, b_b0, b_b1, b_bw, b_shl, b_or, b_iv, b_jv, b_sI, b_sJ, ↓z_hl, z_b0, z_b1, z_b2, b_and1c, b_and1z, if_true, if_false, nI_add, pk_mul, b_cl, b_lt, b_le, b_eq, b_eq0, b_le0, b_0lt, b_0le, b_lt0]
  rw [if_neg (by omega)]
theorem s_Mo_line4 (h : y_S m j b n q s g dk p) (hD : 9 ≤ D) (hw : w_ky b n q p = 4) : y_L m j w b n q (k_lf b n q s g dk p) (a_ex X tx a_T D 223 [.ref 234] (b_h m j w)) := by
  obtain ⟨d, rfl⟩ : ∃ d, D = d + 1 := ⟨D - 1, by omega⟩
  obtain ⟨h1, h2, h3, h4, h5, h6⟩ := id h
  have dW := fun k W (hk : k < 19) (hW : w_cf 7 (w_wl k) = W) => s_Mo_isWord (X := X) (tx := tx) (D := d) (m := m) (j := j) (w := w) h1 h2 (by omega) hk (w_ww hk hW)
  have d0 := dW 0 1802071652 (by decide) (by decide +kernel)
  rw [decide_eq_false (by omega)] at d0
  have d1 := dW 1 7168366 (by decide) (by decide +kernel)
  rw [decide_eq_false (by omega)] at d1
  have d2 := dW 2 499967946343 (by decide) (by decide +kernel)
  rw [decide_eq_false (by omega)] at d2
  have d3 := dW 3 111524805439079 (by decide) (by decide +kernel)
  rw [decide_eq_false (by omega)] at d3
  have d4 := dW 4 439721161573 (by decide) (by decide +kernel)
  rw [decide_eq_true hw] at d4
  rw [e_Mo_line, q_Mo_line_0, bc_234, d0, z_b1, if_pos (show nI (b_b false) = 0 from by decide +kernel), bc_234, d1, z_b1, if_pos (show nI (b_b false) = 0 from by decide +kernel), bc_234, d2, z_b1, if_pos (show nI (b_b false) = 0 from by decide +kernel), bc_234, d3, z_b1, if_pos (show nI (b_b false) = 0 from by decide +kernel), bc_234, d4, z_b1, if_neg (show ¬ nI (b_b true) = 0 from by decide +kernel)]
  have hk1 : w_kd b n q p = 1 := ((w_ky_iff (by decide)).mp hw).1
  have hin : w_pb2 b n q p < min n q := w_kd_in (by omega) (by omega)
  clear dW d0 d1 d2 d3 d4
  obtain ⟨n1, n2, n3, n4, n5, n6⟩ := id h
  obtain ⟨m2, j2, e1, e2, _⟩ := s_Mo_nextT (X := X) (tx := tx) (D := d) (w := w) n1 n2 hin (by omega)
  obtain ⟨S2, r2⟩ := y_S_o h e2
  have b0 : m2 237 3 = s 3 := ((y_S_s S2) 3 (by omega)).1
  have s2 := s_Mo_looksAt (X := X) (tx := tx) (D := d) (w := w) (y_S_x S2) (y_S_l S2) (by omega) (fr := 50) (by have := y_N_E h3; omega) (y_N_n3 (y_S_N S2))
  unfold k_lf
  cases q1 : k_look b n q (fun k => g (20 + k)) (s 3) (w_nx b n q p) with
  | error e =>
    rw [q1] at s2
    obtain ⟨m3, j3, e3, e4⟩ := s2
    refine y_L_e rfl ?_ (y_E_t r2 (y_E_x e4))
    simp (disch := omega) only [b0, e1, e3, ↓bc_234, ↓br_234_7, ↓bc_237, ↓bx_237, bl_237, ↓b_t0, ↓b_t1, ↓b_t2, ↓b_t3, ↓b_t4, ↓b_t5, ↓b_t6, Nat.zero_add, Nat.le_refl, b_rs, b_rn, b_r2, b_ss, b_sn, b_bt, b_bf, b_b0, b_b1, b_bw, b_shl, b_or, b_iv, b_jv, b_sI, b_sJ, ↓z_hl, z_b0, z_b1, z_b2, b_and1c, b_and1z, if_true, if_false, nI_add, pk_mul, b_cl, b_lt, b_le, b_eq, b_eq0, b_le0, b_0lt, b_0le, b_lt0]
  | ok k =>
  rw [q1] at s2
  obtain ⟨k1, e3⟩ := s2
  obtain ⟨S3, r3⟩ := y_S_18 (v := k) S2
  have hE := y_N_E h3
  have c1 : m2 237 (147 + k) = s (147 + k) := ((y_S_s S2) (147 + k) (by omega)).1
  have c2 : s (147 + k) < 1000 := ((y_S_s S2) (147 + k) (by omega)).2
  show y_L m j w b n q (if s (147 + k) ≠ 0 then .error (3, w_pl b n q (w_nx b n q p)) else match k_num b n q 1 60 (w_nx b n q (w_nx b n q p)) with
    | .error e => .error e
    | .ok r => .ok (b_s s (147 + k) r.1, g, dk, r.2)) _
  by_cases c : s (147 + k) = 0
  · rw [if_neg (fun y => y c)]
    rw [c] at c1
    have hk2 := k_am_lo q1
    obtain ⟨m4, j4, e5, e6, _⟩ := s_Mo_nextT (X := X) (tx := tx) (D := d) (w := w) (y_S_x S3) (y_S_l S3) (w_kd_in (by omega) (by omega)) (by omega)
    obtain ⟨S4, r4⟩ := y_S_o S3 e6
    have s4 := s_Mo_puts (X := X) (tx := tx) (D := d) (m := m4) (j := j4) (w := w) (y_S_x S4) (y_S_l S4) (by omega) (to := 147 + k) (lo := 1) (hi := 60) (by omega) (by omega) (by omega)
    cases q2 : k_num b n q 1 60 (w_nx b n q (w_nx b n q p)) with
    | error e =>
      rw [q2] at s4
      obtain ⟨m5, j5, e7, e8⟩ := s4
      refine y_L_e rfl ?_ (y_E_t r2 (y_E_t r3 (y_E_t r4 (y_E_x e8))))
      simp (disch := omega) only [b0, c1, e1, e3, e5, e7, Nat.one_ne_zero, ↓bc_234, ↓br_234_7, ↓bc_237, ↓bx_237, bl_237, ↓b_t0, ↓b_t1, ↓b_t2, ↓b_t3, ↓b_t4, ↓b_t5, ↓b_t6, Nat.zero_add, Nat.le_refl, b_rs, b_rn, b_r2, b_ss, b_sn, b_bt, b_bf, b_b0, b_b1, b_bw, b_shl, b_or, b_iv, b_jv, b_sI, b_sJ, ↓z_hl, z_b0, z_b1, z_b2, b_and1c, b_and1z, if_true, if_false, nI_add, pk_mul, b_cl, b_lt, b_le, b_eq, b_eq0, b_le0, b_0lt, b_0le, b_lt0]
    | ok r =>
      rw [q2] at s4
      obtain ⟨m5, j5, e7, e8, e9, e10, e11⟩ := s4
      obtain ⟨S5, r5⟩ := y_S_o S4 e8
      have z8 : m4 237 = m5 237 := (e8.2.2.1 237 (by decide)).symm
      rw [z8] at e7
      obtain ⟨S6, r6⟩ := y_S_put (v := r.1) (to := 147 + k) S5 (by omega) (by omega)
      refine y_L_o rfl ?_ S6 (y_fr_t r2 (y_fr_t r3 (y_fr_t r4 (y_fr_t r5 r6))))
      simp (disch := omega) only [b0, c1, e1, e3, e5, e7, Nat.one_ne_zero, ↓bc_234, ↓br_234_7, ↓bc_237, ↓bx_237, bl_237, ↓b_t0, ↓b_t1, ↓b_t2, ↓b_t3, ↓b_t4, ↓b_t5, ↓b_t6, Nat.zero_add, Nat.le_refl, b_rs, b_rn, b_r2, b_ss, b_sn, b_bt, b_bf, b_b0, b_b1, b_bw, b_shl, b_or, b_iv, b_jv, b_sI, b_sJ, ↓z_hl, z_b0, z_b1, z_b2, b_and1c, b_and1z, if_true, if_false, nI_add, pk_mul, b_cl, b_lt, b_le, b_eq, b_eq0, b_le0, b_0lt, b_0le, b_lt0]
  · rw [if_pos c]
    have sb := s_Mo_bad (X := X) (tx := tx) (D := d) (w := w) (y_S_l S3) (by omega) (k := 3)
    refine y_L_e rfl ?_ (y_E_t r2 (y_E_t r3 (y_E_x x_M_bad)))
    simp (disch := omega) only [b0, c1, e1, e3, sb, Nat.one_ne_zero, ↓bc_234, ↓br_234_7, ↓bc_237, ↓bx_237, bl_237, ↓b_t0, ↓b_t1, ↓b_t2, ↓b_t3, ↓b_t4, ↓b_t5, ↓b_t6, Nat.zero_add, Nat.le_refl, b_rs, b_rn, b_r2, b_ss, b_sn, b_bt, b_bf, b_b0, b_b1, b_bw, b_shl, b_or, b_iv, b_jv, b_sI, b_sJ, ↓z_hl, z_b0, z_b1, z_b2, b_and1c, b_and1z, if_true, if_false, nI_add, pk_mul, b_cl, b_lt, b_le, b_eq, b_eq0, b_le0, b_0lt, b_0le, b_lt0]
    rw [if_neg (by omega)]
theorem s_Mo_line5 (h : y_S m j b n q s g dk p) (hD : 9 ≤ D) (hd : dk < 2) (hw : w_ky b n q p = 5) : y_L m j w b n q (k_ld b n q s g dk p) (a_ex X tx a_T D 223 [.ref 234] (b_h m j w)) := by
  obtain ⟨d, rfl⟩ : ∃ d, D = d + 1 := ⟨D - 1, by omega⟩
  obtain ⟨h1, h2, h3, h4, h5, h6⟩ := id h
  have dW := fun k W (hk : k < 19) (hW : w_cf 7 (w_wl k) = W) => s_Mo_isWord (X := X) (tx := tx) (D := d) (m := m) (j := j) (w := w) h1 h2 (by omega) hk (w_ww hk hW)
  have d0 := dW 0 1802071652 (by decide) (by decide +kernel)
  rw [decide_eq_false (by omega)] at d0
  have d1 := dW 1 7168366 (by decide) (by decide +kernel)
  rw [decide_eq_false (by omega)] at d1
  have d2 := dW 2 499967946343 (by decide) (by decide +kernel)
  rw [decide_eq_false (by omega)] at d2
  have d3 := dW 3 111524805439079 (by decide) (by decide +kernel)
  rw [decide_eq_false (by omega)] at d3
  have d4 := dW 4 439721161573 (by decide) (by decide +kernel)
  rw [decide_eq_false (by omega)] at d4
  have d5 := dW 5 1685418859 (by decide) (by decide +kernel)
  rw [decide_eq_true hw] at d5
  rw [e_Mo_line, q_Mo_line_0, bc_234, d0, z_b1, if_pos (show nI (b_b false) = 0 from by decide +kernel), bc_234, d1, z_b1, if_pos (show nI (b_b false) = 0 from by decide +kernel), bc_234, d2, z_b1, if_pos (show nI (b_b false) = 0 from by decide +kernel), bc_234, d3, z_b1, if_pos (show nI (b_b false) = 0 from by decide +kernel), bc_234, d4, z_b1, if_pos (show nI (b_b false) = 0 from by decide +kernel), bc_234, d5, z_b1, if_neg (show ¬ nI (b_b true) = 0 from by decide +kernel)]
  have hk1 : w_kd b n q p = 1 := ((w_ky_iff (by decide)).mp hw).1
  have hin : w_pb2 b n q p < min n q := w_kd_in (by omega) (by omega)
  clear dW d0 d1 d2 d3 d4 d5
  unfold k_ld
  by_cases c : dk = 0
  · rw [if_neg (fun y => y c)]
    rw [c] at h5
    obtain ⟨S1, r1⟩ := y_S_dk h
    obtain ⟨m2, j2, e1, e2, _⟩ := s_Mo_nextT (X := X) (tx := tx) (D := d) (w := w) (y_S_x S1) (y_S_l S1) hin (by omega)
    obtain ⟨S2, r2⟩ := y_S_o S1 e2
    have s4 := s_Mo_puts (X := X) (tx := tx) (D := d) (m := m2) (j := j2) (w := w) (y_S_x S2) (y_S_l S2) (by omega) (to := 4) (lo := 0) (hi := 9) (by omega) (by omega) (by omega)
    cases q2 : k_num b n q 0 9 (w_nx b n q p) with
    | error e =>
      rw [q2] at s4
      obtain ⟨m5, j5, e7, e8⟩ := s4
      refine y_L_e rfl ?_ (y_E_t r1 (y_E_t r2 (y_E_x e8)))
      simp (disch := omega) only [h5, e1, e7, ↓bc_234, ↓br_234_7, ↓bc_237, ↓bx_237, bl_237, ↓b_t0, ↓b_t1, ↓b_t2, ↓b_t3, ↓b_t4, ↓b_t5, ↓b_t6, Nat.zero_add, Nat.le_refl, b_rs, b_rn, b_r2, b_ss, b_sn, b_bt, b_bf, b_b0, b_b1, b_bw, b_shl, b_or, b_iv, b_jv, b_sI, b_sJ, ↓z_hl, z_b0, z_b1, z_b2, b_and1c, b_and1z, if_true, if_false, nI_add, pk_mul, b_cl, b_lt, b_le, b_eq, b_eq0, b_le0, b_0lt, b_0le, b_lt0]
    | ok r =>
      rw [q2] at s4
      obtain ⟨m5, j5, e7, e8, e9, e10, e11⟩ := s4
      obtain ⟨S5, r5⟩ := y_S_o S2 e8
      have z8 : m2 237 = m5 237 := (e8.2.2.1 237 (by decide)).symm
      rw [z8] at e7
      obtain ⟨S6, r6⟩ := y_S_put (v := r.1) (to := 4) S5 (by omega) (by omega)
      refine y_L_o rfl ?_ S6 (y_fr_t r1 (y_fr_t r2 (y_fr_t r5 r6)))
      simp (disch := omega) only [h5, e1, e7, ↓bc_234, ↓br_234_7, ↓bc_237, ↓bx_237, bl_237, ↓b_t0, ↓b_t1, ↓b_t2, ↓b_t3, ↓b_t4, ↓b_t5, ↓b_t6, Nat.zero_add, Nat.le_refl, b_rs, b_rn, b_r2, b_ss, b_sn, b_bt, b_bf, b_b0, b_b1, b_bw, b_shl, b_or, b_iv, b_jv, b_sI, b_sJ, ↓z_hl, z_b0, z_b1, z_b2, b_and1c, b_and1z, if_true, if_false, nI_add, pk_mul, b_cl, b_lt, b_le, b_eq, b_eq0, b_le0, b_0lt, b_0le, b_lt0]
  · rw [if_pos c]
    have h5 : m 234 20 = 1 := by omega
    have sb := s_Mo_bad (X := X) (tx := tx) (D := d) (w := w) h2 (by omega) (k := 3)
    refine y_L_e rfl ?_ (y_E_x x_M_bad)
    simp (disch := omega) only [h5, sb, Nat.one_ne_zero, ↓bc_234, ↓br_234_7, ↓bc_237, ↓bx_237, bl_237, ↓b_t0, ↓b_t1, ↓b_t2, ↓b_t3, ↓b_t4, ↓b_t5, ↓b_t6, Nat.zero_add, Nat.le_refl, b_rs, b_rn, b_r2, b_ss, b_sn, b_bt, b_bf, b_b0, b_b1, b_bw, b_shl, b_or, b_iv, b_jv, b_sI, b_sJ, ↓z_hl, z_b0, z_b1, z_b2, b_and1c, b_and1z, if_true, if_false, nI_add, pk_mul, b_cl, b_lt, b_le, b_eq, b_eq0, b_le0, b_0lt, b_0le, b_lt0]
theorem s_Mo_line (h : y_S m j b n q s g dk p) (hD : 9 ≤ D) (hd : dk < 2) (hz2 : ∀ t, s 2 ≤ t → t < 8 → ∀ k, k < 6 → s (19 + 6 * t + k) = 0) (hz3 : ∀ t, s 3 ≤ t → t < 10 → ∀ k, k < 6 → s (87 + 6 * t + k) = 0) : y_L m j w b n q (k_line b n q s g dk p) (a_ex X tx a_T D 223 [.ref 234] (b_h m j w)) := by
  unfold k_line
  by_cases c0 : w_ky b n q p = 0
  · rw [if_pos c0]; exact s_Mo_line0 h hD c0
  by_cases c1 : w_ky b n q p = 1
  · rw [if_neg c0, if_pos c1]; exact s_Mo_line1 h hD c1
  by_cases c2 : w_ky b n q p = 2
  · rw [if_neg c0, if_neg c1, if_pos c2]; exact s_Mo_line2 h hD hz2 c2
  by_cases c3 : w_ky b n q p = 3
  · rw [if_neg c0, if_neg c1, if_neg c2, if_pos c3]; exact s_Mo_line3 h hD hz3 c3
  by_cases c4 : w_ky b n q p = 4
  · rw [if_neg c0, if_neg c1, if_neg c2, if_neg c3, if_pos c4]; exact s_Mo_line4 h hD c4
  by_cases c5 : w_ky b n q p = 5
  · rw [if_neg c0, if_neg c1, if_neg c2, if_neg c3, if_neg c4, if_pos c5]; exact s_Mo_line5 h hD hd c5
  rw [if_neg c0, if_neg c1, if_neg c2, if_neg c3, if_neg c4, if_neg c5]
  exact s_Mo_line6 h hD (fun k hk => by omega)
end LN
