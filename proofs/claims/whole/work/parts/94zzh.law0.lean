/-! THE LAW'S LOOP: calls 0 to 6 -/
theorem lz_c0 {X : Nat × (Nat → Int32)} {ag : Nat → List Value → A_H → A_R} {n : Nat} {m j : Nat → Nat → Nat} {w : (Nat × Nat) × Bool} {u5 u6 : Value} (hX : X.1 < 4000) (hn : 6 * n + 6 ≤ X.1) (h : r_R m j) (hk : X.2 (6 * n) &&& nI 63 = nI 0) : lz_P X ag n m j w u5 u6 := by
  obtain ⟨p1, hp1, e1⟩ := lz_num (X.2 (6 * n + 1))
  obtain ⟨p2, hp2, e2⟩ := lz_num (X.2 (6 * n + 2))
  obtain ⟨p3, hp3, e3⟩ := lz_num (X.2 (6 * n + 3))
  obtain ⟨p4, hp4, e4⟩ := lz_num (X.2 (6 * n + 4))
  obtain ⟨p5, hp5, e5⟩ := lz_num (X.2 (6 * n + 5))
  have hs : w_step X a_tx 41 152 197 [.int (nI p1), .int (nI p2), .int (nI p3), .int (nI p4), .int (nI p5)] m j w := t_feed h (by decide)
  obtain ⟨m1, j1, m2, j2, v, s1, s2, hr⟩ := hs
  have s1 := lz_M_some (d := 39) (by decide) (by decide) s1
  have s2 := lz_M_some (d := 39) (by decide) (by decide) s2
  refine ⟨m2, j2, w, u5, u6, ?_, hr, Nat.le_add_right _ _, Nat.le_add_right _ _⟩
  rw [q_La_law_13, lz_bl hX, z_it, b_sub (by omega), if_neg (by rw [b_lt (by omega) (by omega)]; omega), lz_in hX (by omega), z_it, b_cl (by omega), hk, b_tsi 0 (by decide) rfl]
  simp (disch := omega) only [lz_in hX, z_it, nI_add, b_cl, e1, e2, e3, e4, e5, ↓bc_0, ↓bc_234, s1, s2, z_b1, if_true]
theorem lz_c1 {X : Nat × (Nat → Int32)} {ag : Nat → List Value → A_H → A_R} {n : Nat} {m j : Nat → Nat → Nat} {w : (Nat × Nat) × Bool} {u5 u6 : Value} (hX : X.1 < 4000) (hn : 6 * n + 6 ≤ X.1) (h : r_R m j) (hk : X.2 (6 * n) &&& nI 63 = nI 1) : lz_P X ag n m j w u5 u6 := by
  obtain ⟨p1, hp1, e1⟩ := lz_num (X.2 (6 * n + 1))
  have hs : w_step X a_tx 41 153 199 [.int (nI p1)] m j w := t_end h (by decide) hp1
  obtain ⟨m1, j1, m2, j2, v, s1, s2, hr⟩ := hs
  have s1 := lz_M_some (d := 39) (by decide) (by decide) s1
  have s2 := lz_M_some (d := 39) (by decide) (by decide) s2
  refine ⟨m2, j2, w, u5, u6, ?_, hr, Nat.le_add_right _ _, Nat.le_add_right _ _⟩
  rw [q_La_law_13, lz_bl hX, z_it, b_sub (by omega), if_neg (by rw [b_lt (by omega) (by omega)]; omega), lz_in hX (by omega), z_it, b_cl (by omega), hk, b_tsi 1 (by decide) rfl]
  simp (disch := omega) only [lz_in hX, z_it, nI_add, b_cl, e1, ↓bc_0, ↓bc_234, s1, s2, z_b1, if_true]
theorem lz_c2 {X : Nat × (Nat → Int32)} {ag : Nat → List Value → A_H → A_R} {n : Nat} {m j : Nat → Nat → Nat} {w : (Nat × Nat) × Bool} {u5 u6 : Value} (hX : X.1 < 4000) (hn : 6 * n + 6 ≤ X.1) (h : r_R m j) (hk : X.2 (6 * n) &&& nI 63 = nI 2) : lz_P X ag n m j w u5 u6 := by
  have hs : w_step X a_tx 41 154 225 [] m j w := t_market h (by decide)
  obtain ⟨m1, j1, m2, j2, v, s1, s2, hr⟩ := hs
  have s1 := lz_M_some (d := 39) (by decide) (by decide) s1
  have s2 := lz_M_some (d := 39) (by decide) (by decide) s2
  refine ⟨m2, j2, w, u5, u6, ?_, hr, Nat.le_add_right _ _, Nat.le_add_right _ _⟩
  rw [q_La_law_13, lz_bl hX, z_it, b_sub (by omega), if_neg (by rw [b_lt (by omega) (by omega)]; omega), lz_in hX (by omega), z_it, b_cl (by omega), hk, b_tsi 2 (by decide) rfl]
  simp (disch := omega) only [lz_in hX, z_it, nI_add, b_cl, ↓bc_0, ↓bc_234, s1, s2, z_b1, if_true]
theorem lz_c3 {X : Nat × (Nat → Int32)} {ag : Nat → List Value → A_H → A_R} {n : Nat} {m j : Nat → Nat → Nat} {w : (Nat × Nat) × Bool} {u5 u6 : Value} (hX : X.1 < 4000) (hn : 6 * n + 6 ≤ X.1) (h : r_R m j) (hk : X.2 (6 * n) &&& nI 63 = nI 3) : lz_P X ag n m j w u5 u6 := by
  have hs : w_step X a_tx 41 155 226 [] m j w := t_fault h (by decide)
  obtain ⟨m1, j1, m2, j2, v, s1, s2, hr⟩ := hs
  have s1 := lz_M_some (d := 39) (by decide) (by decide) s1
  have s2 := lz_M_some (d := 39) (by decide) (by decide) s2
  refine ⟨m2, j2, w, u5, u6, ?_, hr, Nat.le_add_right _ _, Nat.le_add_right _ _⟩
  rw [q_La_law_13, lz_bl hX, z_it, b_sub (by omega), if_neg (by rw [b_lt (by omega) (by omega)]; omega), lz_in hX (by omega), z_it, b_cl (by omega), hk, b_tsi 3 (by decide) rfl]
  simp (disch := omega) only [lz_in hX, z_it, nI_add, b_cl, ↓bc_0, ↓bc_234, s1, s2, z_b1, if_true]
theorem lz_c4 {X : Nat × (Nat → Int32)} {ag : Nat → List Value → A_H → A_R} {n : Nat} {m j : Nat → Nat → Nat} {w : (Nat × Nat) × Bool} {u5 u6 : Value} (hX : X.1 < 4000) (hn : 6 * n + 6 ≤ X.1) (h : r_R m j) (hk : X.2 (6 * n) &&& nI 63 = nI 4) : lz_P X ag n m j w u5 u6 := by
  obtain ⟨p1, hp1, e1⟩ := lz_num (X.2 (6 * n + 1))
  obtain ⟨p2, hp2, e2⟩ := lz_num (X.2 (6 * n + 2))
  have hS := r_R_st h
  have hI := r_R_dy h
  by_cases c : p1 < m 236 2 ∧ p2 < 6
  · obtain ⟨z, hz⟩ := lz_lnum ((nI (w_qthing (m 236) p1 p2)).toInt64)
    have s0 := s_EM_thing (X := X) (tx := a_tx) (D := 40) (j := j) (w := w) (r_R_fa h) (r_R_af h) hS hI (by decide) c.1 c.2
    have s1 : a_ex X a_tx a_T 41 316 [.ref 0, .int (nI p1), .int (nI p2), .ref 257] (b_h m j w) = some (b_h m (b_r j 257 (b_s (j 257) 0 z)) w, some (.int (nI 0))) := by
      rw [e_La_thing, q_La_thing_0]
      simp (disch := omega) only [↓bc_0, s0, z_b1, ↓bc_257, ↓bx_257, ↓z_hl, b_cl, ← hz, b_sJ]
    generalize hj : b_r j 257 (b_s (j 257) 0 z) = j1 at s1
    have hR := r_R_257 (m := m) (j := j) (j2 := j1) (fun c hc => by rw [← hj, b_rn hc]) h
    have s2 := s_Mo_thing (X := X) (tx := a_tx) (D := 41) (m := m) (j := j1) (w := w) hS hI (by decide) c.1 c.2
    have s3 := s_Mo_thrown (X := X) (tx := a_tx) (D := 41) (m := b_r m 234 (b_s (m 234) 0 0)) (j := j1) (w := w) (by decide)
    rw [b_rs, b_ss] at s3
    have hv : j1 257 0 = z := by rw [← hj, b_rs, b_ss]
    have s1 := lz_M_some (d := 39) (by decide) (by decide) s1
    have s2 := lz_M_some (d := 39) (by decide) (by decide) s2
    have s3 := lz_M_some (d := 39) (by decide) (by decide) s3
    have hcm : lg_cmp (lN z) (lN z) = 0 := by unfold lg_cmp; simp
    have h00 : (nI 0 = (0 : Int32)) = True := eq_true rfl
    refine ⟨_, j1, w, .int (nI 0), .int (nI (w_qthing (m 236) p1 p2)), ?_, r_R_thr (v := 0) hR, Nat.le_add_right _ _, Nat.le_add_right _ _⟩
    rw [q_La_law_13, lz_bl hX, z_it, b_sub (by omega), if_neg (by rw [b_lt (by omega) (by omega)]; omega), lz_in hX (by omega), z_it, b_cl (by omega), hk, b_tsi 4 (by decide) rfl]
    simp (disch := omega) only [lz_in hX, z_it, nI_add, b_cl, e1, e2, ↓bc_0, ↓bc_234, ↓bc_257, ↓bx_257, s1, s2, s3, z_b1, b_jv, hv, ← hz, hcm, h00, if_true]
  · have s0 := s_EM_thingT (X := X) (tx := a_tx) (D := 40) (m := m) (j := j) (w := w) (r_R_fa h) hS (by decide) hp1 hp2 c
    have s1 : a_ex X a_tx a_T 41 316 [.ref 0, .int (nI p1), .int (nI p2), .ref 257] (b_h m j w) = none := by
      rw [e_La_thing, q_La_thing_0]
      simp only [↓bc_0, s0]
      rfl
    have s1 : lz_M X 39 316 [.ref 0, .int (nI p1), .int (nI p2), .ref 257] (b_h m j w) = some (b_h m j (w_th w), some (.int (nI 1))) := by
      unfold lz_M
      rw [if_neg (by decide), s1]
      show (if 316 = 316 then lz_T X 39 156 [.ref 0, .int (nI p1), .int (nI p2), .ref 257] (b_h m j w) else if 316 = 317 then lz_T X 39 158 [.ref 0, .int (nI p1), .int (nI p2), .ref 257] (b_h m j w) else none) = _
      rw [if_pos rfl]
      show a_kc (b_h m j w) 0 11 (match a_ex X a_tx a_T 40 156 [.ref 0, .int (nI p1), .int (nI p2)] (b_h m j w) with
        | some (h1, some (.retAddr 0)) => some (h1, some (.int 1))
        | _ => none) = _
      rw [s0]
      rfl
    have s2 := s_Mo_thingT (X := X) (tx := a_tx) (D := 41) (m := m) (j := j) (w := w_th w) hS (by decide) hp1 hp2 c
    have s3 := s_Mo_thrown (X := X) (tx := a_tx) (D := 41) (m := b_r m 234 (b_s (m 234) 0 1)) (j := j) (w := w_th w) (by decide)
    rw [b_rs, b_ss] at s3
    have s2 := lz_M_some (d := 39) (by decide) (by decide) s2
    have s3 := lz_M_some (d := 39) (by decide) (by decide) s3
    have h10 : (nI 1 = (0 : Int32)) = False := eq_false (by decide +kernel)
    refine ⟨_, j, w_th w, .int (nI 1), .int (nI 0), ?_, r_R_thr (v := 1) h, Nat.le_refl _, Nat.le_refl _⟩
    rw [q_La_law_13, lz_bl hX, z_it, b_sub (by omega), if_neg (by rw [b_lt (by omega) (by omega)]; omega), lz_in hX (by omega), z_it, b_cl (by omega), hk, b_tsi 4 (by decide) rfl]
    simp (disch := omega) only [lz_in hX, z_it, nI_add, b_cl, e1, e2, ↓bc_0, ↓bc_234, s1, s2, s3, z_b1, h10, if_true, if_false]
theorem lz_c5 {X : Nat × (Nat → Int32)} {ag : Nat → List Value → A_H → A_R} {n : Nat} {m j : Nat → Nat → Nat} {w : (Nat × Nat) × Bool} {u5 u6 : Value} (hX : X.1 < 4000) (hn : 6 * n + 6 ≤ X.1) (h : r_R m j) (hk : X.2 (6 * n) &&& nI 63 = nI 5) : lz_P X ag n m j w u5 u6 := by
  obtain ⟨p1, hp1, e1⟩ := lz_num (X.2 (6 * n + 1))
  obtain ⟨p2, hp2, e2⟩ := lz_num (X.2 (6 * n + 2))
  have hs : w_step X a_tx 41 157 240 [.int (nI p1), .int (nI p2)] m j w := t_open h (by decide) hp1 hp2
  obtain ⟨m1, j1, m2, j2, v, s1, s2, hr⟩ := hs
  have s1 := lz_M_some (d := 39) (by decide) (by decide) s1
  have s2 := lz_M_some (d := 39) (by decide) (by decide) s2
  refine ⟨m2, j2, w, u5, u6, ?_, hr, Nat.le_add_right _ _, Nat.le_add_right _ _⟩
  rw [q_La_law_13, lz_bl hX, z_it, b_sub (by omega), if_neg (by rw [b_lt (by omega) (by omega)]; omega), lz_in hX (by omega), z_it, b_cl (by omega), hk, b_tsi 5 (by decide) rfl]
  simp (disch := omega) only [lz_in hX, z_it, nI_add, b_cl, e1, e2, ↓bc_0, ↓bc_234, s1, s2, z_b1, if_true]
theorem lz_c6 {X : Nat × (Nat → Int32)} {ag : Nat → List Value → A_H → A_R} {n : Nat} {m j : Nat → Nat → Nat} {w : (Nat × Nat) × Bool} {u5 u6 : Value} (hX : X.1 < 4000) (hn : 6 * n + 6 ≤ X.1) (h : r_R m j) (hk : X.2 (6 * n) &&& nI 63 = nI 6) : lz_P X ag n m j w u5 u6 := by
  obtain ⟨p1, hp1, e1⟩ := lz_num (X.2 (6 * n + 1))
  obtain ⟨p2, hp2, e2⟩ := lz_num (X.2 (6 * n + 2))
  have hS := r_R_st h
  have hI := r_R_dy h
  by_cases c : p1 < m 236 3 ∧ p2 < 7
  · obtain ⟨z, hz⟩ := lz_lnum ((nI (w_qending (m 236) p1 p2)).toInt64)
    have s0 := s_EM_ending (X := X) (tx := a_tx) (D := 40) (j := j) (w := w) (r_R_fa h) (r_R_af h) hS hI (by decide) c.1 c.2
    have s1 : a_ex X a_tx a_T 41 317 [.ref 0, .int (nI p1), .int (nI p2), .ref 257] (b_h m j w) = some (b_h m (b_r j 257 (b_s (j 257) 0 z)) w, some (.int (nI 0))) := by
      rw [e_La_ending, q_La_ending_0]
      simp (disch := omega) only [↓bc_0, s0, z_b1, ↓bc_257, ↓bx_257, ↓z_hl, b_cl, ← hz, b_sJ]
    generalize hj : b_r j 257 (b_s (j 257) 0 z) = j1 at s1
    have hR := r_R_257 (m := m) (j := j) (j2 := j1) (fun c hc => by rw [← hj, b_rn hc]) h
    have s2 := s_Mo_ending (X := X) (tx := a_tx) (D := 41) (m := m) (j := j1) (w := w) hS hI (by decide) c.1 c.2
    have s3 := s_Mo_thrown (X := X) (tx := a_tx) (D := 41) (m := b_r m 234 (b_s (m 234) 0 0)) (j := j1) (w := w) (by decide)
    rw [b_rs, b_ss] at s3
    have hv : j1 257 0 = z := by rw [← hj, b_rs, b_ss]
    have s1 := lz_M_some (d := 39) (by decide) (by decide) s1
    have s2 := lz_M_some (d := 39) (by decide) (by decide) s2
    have s3 := lz_M_some (d := 39) (by decide) (by decide) s3
    have hcm : lg_cmp (lN z) (lN z) = 0 := by unfold lg_cmp; simp
    have h00 : (nI 0 = (0 : Int32)) = True := eq_true rfl
    refine ⟨_, j1, w, .int (nI 0), .int (nI (w_qending (m 236) p1 p2)), ?_, r_R_thr (v := 0) hR, Nat.le_add_right _ _, Nat.le_add_right _ _⟩
    rw [q_La_law_13, lz_bl hX, z_it, b_sub (by omega), if_neg (by rw [b_lt (by omega) (by omega)]; omega), lz_in hX (by omega), z_it, b_cl (by omega), hk, b_tsi 6 (by decide) rfl]
    simp (disch := omega) only [lz_in hX, z_it, nI_add, b_cl, e1, e2, ↓bc_0, ↓bc_234, ↓bc_257, ↓bx_257, s1, s2, s3, z_b1, b_jv, hv, ← hz, hcm, h00, if_true]
  · have s0 := s_EM_endingT (X := X) (tx := a_tx) (D := 40) (m := m) (j := j) (w := w) (r_R_fa h) hS (by decide) hp1 hp2 c
    have s1 : a_ex X a_tx a_T 41 317 [.ref 0, .int (nI p1), .int (nI p2), .ref 257] (b_h m j w) = none := by
      rw [e_La_ending, q_La_ending_0]
      simp only [↓bc_0, s0]
      rfl
    have s1 : lz_M X 39 317 [.ref 0, .int (nI p1), .int (nI p2), .ref 257] (b_h m j w) = some (b_h m j (w_th w), some (.int (nI 1))) := by
      unfold lz_M
      rw [if_neg (by decide), s1]
      show (if 317 = 316 then lz_T X 39 156 [.ref 0, .int (nI p1), .int (nI p2), .ref 257] (b_h m j w) else if 317 = 317 then lz_T X 39 158 [.ref 0, .int (nI p1), .int (nI p2), .ref 257] (b_h m j w) else none) = _
      rw [if_neg (by decide), if_pos rfl]
      show a_kc (b_h m j w) 0 11 (match a_ex X a_tx a_T 40 158 [.ref 0, .int (nI p1), .int (nI p2)] (b_h m j w) with
        | some (h1, some (.retAddr 0)) => some (h1, some (.int 1))
        | _ => none) = _
      rw [s0]
      rfl
    have s2 := s_Mo_endingT (X := X) (tx := a_tx) (D := 41) (m := m) (j := j) (w := w_th w) hS (by decide) hp1 hp2 c
    have s3 := s_Mo_thrown (X := X) (tx := a_tx) (D := 41) (m := b_r m 234 (b_s (m 234) 0 1)) (j := j) (w := w_th w) (by decide)
    rw [b_rs, b_ss] at s3
    have s2 := lz_M_some (d := 39) (by decide) (by decide) s2
    have s3 := lz_M_some (d := 39) (by decide) (by decide) s3
    have h10 : (nI 1 = (0 : Int32)) = False := eq_false (by decide +kernel)
    refine ⟨_, j, w_th w, .int (nI 1), .int (nI 0), ?_, r_R_thr (v := 1) h, Nat.le_refl _, Nat.le_refl _⟩
    rw [q_La_law_13, lz_bl hX, z_it, b_sub (by omega), if_neg (by rw [b_lt (by omega) (by omega)]; omega), lz_in hX (by omega), z_it, b_cl (by omega), hk, b_tsi 6 (by decide) rfl]
    simp (disch := omega) only [lz_in hX, z_it, nI_add, b_cl, e1, e2, ↓bc_0, ↓bc_234, s1, s2, s3, z_b1, h10, if_true, if_false]
