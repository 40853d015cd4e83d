/-! THE LAW'S LOOP: calls 14 to 20 -/
theorem lz_c14 {X : Nat × (Nat → Int32)} {ag : Nat → List Value → A_H → A_R} {n : Nat} {m j : Nat → Nat → Nat} {w : (Nat × Nat) × Bool} {u5 u6 : Value} (hX : X.1 < 4000) (hn : 6 * n + 6 ≤ X.1) (h : r_R m j) (hk : X.2 (6 * n) &&& nI 63 = nI 14) : lz_P X ag n m j w u5 u6 := by
  obtain ⟨p1, hp1, e1⟩ := lz_num (X.2 (6 * n + 1))
  obtain ⟨p2, hp2, e2⟩ := lz_num (X.2 (6 * n + 2))
  have hs : w_step X a_tx 41 166 259 [.int (nI p1), .int (nI p2)] m j w := t_fits h (by decide) hp1 hp2
  obtain ⟨m1, j1, m2, j2, v, s1, s2, hr⟩ := hs
  have s1 := lz_M_some (d := 39) (by decide) (by decide) s1
  have s2 := lz_M_some (d := 39) (by decide) (by decide) s2
  refine ⟨m2, j2, w, u5, u6, ?_, hr, Nat.le_add_right _ _, Nat.le_add_right _ _⟩
  rw [q_La_law_13, lz_bl hX, z_it, b_sub (by omega), if_neg (by rw [b_lt (by omega) (by omega)]; omega), lz_in hX (by omega), z_it, b_cl (by omega), hk, b_tsi 14 (by decide) rfl]
  simp (disch := omega) only [lz_in hX, z_it, nI_add, b_cl, e1, e2, ↓bc_0, ↓bc_234, s1, s2, z_b1, if_true]
theorem lz_c15 {X : Nat × (Nat → Int32)} {ag : Nat → List Value → A_H → A_R} {n : Nat} {m j : Nat → Nat → Nat} {w : (Nat × Nat) × Bool} {u5 u6 : Value} (hX : X.1 < 4000) (hn : 6 * n + 6 ≤ X.1) (h : r_R m j) (hk : X.2 (6 * n) &&& nI 63 = nI 15) : lz_P X ag n m j w u5 u6 := by
  obtain ⟨p1, hp1, e1⟩ := lz_num (X.2 (6 * n + 1))
  have hs : w_step X a_tx 41 167 266 [.int (nI p1)] m j w := t_ends h (by decide) hp1
  obtain ⟨m1, j1, m2, j2, v, s1, s2, hr⟩ := hs
  have s1 := lz_M_some (d := 39) (by decide) (by decide) s1
  have s2 := lz_M_some (d := 39) (by decide) (by decide) s2
  refine ⟨m2, j2, w, u5, u6, ?_, hr, Nat.le_add_right _ _, Nat.le_add_right _ _⟩
  rw [q_La_law_13, lz_bl hX, z_it, b_sub (by omega), if_neg (by rw [b_lt (by omega) (by omega)]; omega), lz_in hX (by omega), z_it, b_cl (by omega), hk, b_tsi 15 (by decide) rfl]
  simp (disch := omega) only [lz_in hX, z_it, nI_add, b_cl, e1, ↓bc_0, ↓bc_234, s1, s2, z_b1, if_true]
theorem lz_c16 {X : Nat × (Nat → Int32)} {ag : Nat → List Value → A_H → A_R} {n : Nat} {m j : Nat → Nat → Nat} {w : (Nat × Nat) × Bool} {u5 u6 : Value} (hX : X.1 < 4000) (hn : 6 * n + 6 ≤ X.1) (h : r_R m j) (hk : X.2 (6 * n) &&& nI 63 = nI 16) : lz_P X ag n m j w u5 u6 := by
  obtain ⟨p1, hp1, e1⟩ := lz_num (X.2 (6 * n + 1))
  have hs : w_step X a_tx 41 168 267 [.int (nI p1)] m j w := t_row h (by decide) hp1
  obtain ⟨m1, j1, m2, j2, v, s1, s2, hr⟩ := hs
  have s1 := lz_M_some (d := 39) (by decide) (by decide) s1
  have s2 := lz_M_some (d := 39) (by decide) (by decide) s2
  refine ⟨m2, j2, w, u5, u6, ?_, hr, Nat.le_add_right _ _, Nat.le_add_right _ _⟩
  rw [q_La_law_13, lz_bl hX, z_it, b_sub (by omega), if_neg (by rw [b_lt (by omega) (by omega)]; omega), lz_in hX (by omega), z_it, b_cl (by omega), hk, b_tsi 16 (by decide) rfl]
  simp (disch := omega) only [lz_in hX, z_it, nI_add, b_cl, e1, ↓bc_0, ↓bc_234, s1, s2, z_b1, if_true]
theorem lz_c17 {X : Nat × (Nat → Int32)} {ag : Nat → List Value → A_H → A_R} {n : Nat} {m j : Nat → Nat → Nat} {w : (Nat × Nat) × Bool} {u5 u6 : Value} (hX : X.1 < 4000) (hn : 6 * n + 6 ≤ X.1) (h : r_R m j) (hk : X.2 (6 * n) &&& nI 63 = nI 17) : lz_P X ag n m j w u5 u6 := by
  obtain ⟨p1, hp1, e1⟩ := lz_num (X.2 (6 * n + 1))
  have hs : w_step X a_tx 41 169 271 [.int (nI p1)] m j w := t_street h (by decide) hp1
  obtain ⟨m1, j1, m2, j2, v, s1, s2, hr⟩ := hs
  have s1 := lz_M_some (d := 39) (by decide) (by decide) s1
  have s2 := lz_M_some (d := 39) (by decide) (by decide) s2
  refine ⟨m2, j2, w, u5, u6, ?_, hr, Nat.le_add_right _ _, Nat.le_add_right _ _⟩
  rw [q_La_law_13, lz_bl hX, z_it, b_sub (by omega), if_neg (by rw [b_lt (by omega) (by omega)]; omega), lz_in hX (by omega), z_it, b_cl (by omega), hk, b_tsi 17 (by decide) rfl]
  simp (disch := omega) only [lz_in hX, z_it, nI_add, b_cl, e1, ↓bc_0, ↓bc_234, s1, s2, z_b1, if_true]
theorem lz_c18 {X : Nat × (Nat → Int32)} {ag : Nat → List Value → A_H → A_R} {n : Nat} {m j : Nat → Nat → Nat} {w : (Nat × Nat) × Bool} {u5 u6 : Value} (hX : X.1 < 4000) (hn : 6 * n + 6 ≤ X.1) (h : r_R m j) (hk : X.2 (6 * n) &&& nI 63 = nI 18) : lz_P X ag n m j w u5 u6 := by
  obtain ⟨p1, hp1, e1⟩ := lz_num (X.2 (6 * n + 1))
  have hs : w_step X a_tx 41 170 272 [.int (nI p1)] m j w := t_has h (by decide) hp1
  obtain ⟨m1, j1, m2, j2, v, s1, s2, hr⟩ := hs
  have s1 := lz_M_some (d := 39) (by decide) (by decide) s1
  have s2 := lz_M_some (d := 39) (by decide) (by decide) s2
  refine ⟨m2, j2, w, u5, u6, ?_, hr, Nat.le_add_right _ _, Nat.le_add_right _ _⟩
  rw [q_La_law_13, lz_bl hX, z_it, b_sub (by omega), if_neg (by rw [b_lt (by omega) (by omega)]; omega), lz_in hX (by omega), z_it, b_cl (by omega), hk, b_tsi 18 (by decide) rfl]
  simp (disch := omega) only [lz_in hX, z_it, nI_add, b_cl, e1, ↓bc_0, ↓bc_234, s1, s2, z_b1, if_true]
theorem lz_c19 {X : Nat × (Nat → Int32)} {ag : Nat → List Value → A_H → A_R} {n : Nat} {m j : Nat → Nat → Nat} {w : (Nat × Nat) × Bool} {u5 u6 : Value} (hX : X.1 < 4000) (hn : 6 * n + 6 ≤ X.1) (h : r_R m j) (hk : X.2 (6 * n) &&& nI 63 = nI 19) : lz_P X ag n m j w u5 u6 := by
  obtain ⟨p1, hp1, e1⟩ := lz_num (X.2 (6 * n + 1))
  have hs : w_step X a_tx 41 171 274 [.int (nI p1)] m j w := t_covers h (by decide) hp1
  obtain ⟨m1, j1, m2, j2, v, s1, s2, hr⟩ := hs
  have s1 := lz_M_some (d := 39) (by decide) (by decide) s1
  have s2 := lz_M_some (d := 39) (by decide) (by decide) s2
  refine ⟨m2, j2, w, u5, u6, ?_, hr, Nat.le_add_right _ _, Nat.le_add_right _ _⟩
  rw [q_La_law_13, lz_bl hX, z_it, b_sub (by omega), if_neg (by rw [b_lt (by omega) (by omega)]; omega), lz_in hX (by omega), z_it, b_cl (by omega), hk, b_tsi 19 (by decide) rfl]
  simp (disch := omega) only [lz_in hX, z_it, nI_add, b_cl, e1, ↓bc_0, ↓bc_234, s1, s2, z_b1, if_true]
theorem lz_c20 {X : Nat × (Nat → Int32)} {ag : Nat → List Value → A_H → A_R} {n : Nat} {m j : Nat → Nat → Nat} {w : (Nat × Nat) × Bool} {u5 u6 : Value} (hX : X.1 < 4000) (hn : 6 * n + 6 ≤ X.1) (h : r_R m j) (hk : X.2 (6 * n) &&& nI 63 = nI 20) : lz_P X ag n m j w u5 u6 := by
  have hs : w_step X a_tx 41 172 275 [] m j w := t_tray h (by decide)
  obtain ⟨m1, j1, m2, j2, v, s1, s2, hr⟩ := hs
  have s1 := lz_M_some (d := 39) (by decide) (by decide) s1
  have s2 := lz_M_some (d := 39) (by decide) (by decide) s2
  refine ⟨m2, j2, w, u5, u6, ?_, hr, Nat.le_add_right _ _, Nat.le_add_right _ _⟩
  rw [q_La_law_13, lz_bl hX, z_it, b_sub (by omega), if_neg (by rw [b_lt (by omega) (by omega)]; omega), lz_in hX (by omega), z_it, b_cl (by omega), hk, b_tsi 20 (by decide) rfl]
  simp (disch := omega) only [lz_in hX, z_it, nI_add, b_cl, ↓bc_0, ↓bc_234, s1, s2, z_b1, if_true]
