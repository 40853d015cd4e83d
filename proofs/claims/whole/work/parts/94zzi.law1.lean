/-! THE LAW'S LOOP: calls 7 to 13 -/
theorem lz_c7 {X : Nat × (Nat → Int32)} {ag : Nat → List Value → A_H → A_R} {n : Nat} {m j : Nat → Nat → Nat} {w : (Nat × Nat) × Bool} {u5 u6 : Value} (hX : X.1 < 4000) (hn : 6 * n + 6 ≤ X.1) (h : r_R m j) (hk : X.2 (6 * n) &&& nI 63 = nI 7) : lz_P X ag n m j w u5 u6 := by
  obtain ⟨p1, hp1, e1⟩ := lz_num (X.2 (6 * n + 1))
  obtain ⟨p2, hp2, e2⟩ := lz_num (X.2 (6 * n + 2))
  have hs : w_step X a_tx 41 159 242 [.int (nI p1), .int (nI p2)] m j w := t_closes h (by decide) hp1 hp2
  obtain ⟨m1, j1, m2, j2, v, s1, s2, hr⟩ := hs
  have s1 := lz_M_some (d := 39) (by decide) (by decide) s1
  have s2 := lz_M_some (d := 39) (by decide) (by decide) s2
  refine ⟨m2, j2, w, u5, u6, ?_, hr, Nat.le_add_right _ _, Nat.le_add_right _ _⟩
  rw [q_La_law_13, lz_bl hX, z_it, b_sub (by omega), if_neg (by rw [b_lt (by omega) (by omega)]; omega), lz_in hX (by omega), z_it, b_cl (by omega), hk, b_tsi 7 (by decide) rfl]
  simp (disch := omega) only [lz_in hX, z_it, nI_add, b_cl, e1, e2, ↓bc_0, ↓bc_234, s1, s2, z_b1, if_true]
theorem lz_c8 {X : Nat × (Nat → Int32)} {ag : Nat → List Value → A_H → A_R} {n : Nat} {m j : Nat → Nat → Nat} {w : (Nat × Nat) × Bool} {u5 u6 : Value} (hX : X.1 < 4000) (hn : 6 * n + 6 ≤ X.1) (h : r_R m j) (hk : X.2 (6 * n) &&& nI 63 = nI 8) : lz_P X ag n m j w u5 u6 := by
  obtain ⟨p1, hp1, e1⟩ := lz_num (X.2 (6 * n + 1))
  obtain ⟨p2, hp2, e2⟩ := lz_num (X.2 (6 * n + 2))
  have hs : w_step X a_tx 41 160 243 [.int (nI p1), .int (nI p2)] m j w := t_man h (by decide) hp1 hp2
  obtain ⟨m1, j1, m2, j2, v, s1, s2, hr⟩ := hs
  have s1 := lz_M_some (d := 39) (by decide) (by decide) s1
  have s2 := lz_M_some (d := 39) (by decide) (by decide) s2
  refine ⟨m2, j2, w, u5, u6, ?_, hr, Nat.le_add_right _ _, Nat.le_add_right _ _⟩
  rw [q_La_law_13, lz_bl hX, z_it, b_sub (by omega), if_neg (by rw [b_lt (by omega) (by omega)]; omega), lz_in hX (by omega), z_it, b_cl (by omega), hk, b_tsi 8 (by decide) rfl]
  simp (disch := omega) only [lz_in hX, z_it, nI_add, b_cl, e1, e2, ↓bc_0, ↓bc_234, s1, s2, z_b1, if_true]
theorem lz_c9 {X : Nat × (Nat → Int32)} {ag : Nat → List Value → A_H → A_R} {n : Nat} {m j : Nat → Nat → Nat} {w : (Nat × Nat) × Bool} {u5 u6 : Value} (hX : X.1 < 4000) (hn : 6 * n + 6 ≤ X.1) (h : r_R m j) (hk : X.2 (6 * n) &&& nI 63 = nI 9) : lz_P X ag n m j w u5 u6 := by
  obtain ⟨p1, hp1, e1⟩ := lz_num (X.2 (6 * n + 1))
  have hs : w_step X a_tx 41 161 244 [.int (nI p1)] m j w := t_now h (by decide) hp1
  obtain ⟨m1, j1, m2, j2, v, s1, s2, hr⟩ := hs
  have s1 := lz_M_some (d := 39) (by decide) (by decide) s1
  have s2 := lz_M_some (d := 39) (by decide) (by decide) s2
  refine ⟨m2, j2, w, u5, u6, ?_, hr, Nat.le_add_right _ _, Nat.le_add_right _ _⟩
  rw [q_La_law_13, lz_bl hX, z_it, b_sub (by omega), if_neg (by rw [b_lt (by omega) (by omega)]; omega), lz_in hX (by omega), z_it, b_cl (by omega), hk, b_tsi 9 (by decide) rfl]
  simp (disch := omega) only [lz_in hX, z_it, nI_add, b_cl, e1, ↓bc_0, ↓bc_234, s1, s2, z_b1, if_true]
theorem lz_c10 {X : Nat × (Nat → Int32)} {ag : Nat → List Value → A_H → A_R} {n : Nat} {m j : Nat → Nat → Nat} {w : (Nat × Nat) × Bool} {u5 u6 : Value} (hX : X.1 < 4000) (hn : 6 * n + 6 ≤ X.1) (h : r_R m j) (hk : X.2 (6 * n) &&& nI 63 = nI 10) : lz_P X ag n m j w u5 u6 := by
  obtain ⟨p1, hp1, e1⟩ := lz_num (X.2 (6 * n + 1))
  obtain ⟨p2, hp2, e2⟩ := lz_num (X.2 (6 * n + 2))
  have hs : w_step X a_tx 41 162 252 [.int (nI p1), .int (nI p2)] m j w := t_buy h (by decide) hp1 hp2
  obtain ⟨m1, j1, m2, j2, v, s1, s2, hr⟩ := hs
  have s1 := lz_M_some (d := 39) (by decide) (by decide) s1
  have s2 := lz_M_some (d := 39) (by decide) (by decide) s2
  refine ⟨m2, j2, w, u5, u6, ?_, hr, Nat.le_add_right _ _, Nat.le_add_right _ _⟩
  rw [q_La_law_13, lz_bl hX, z_it, b_sub (by omega), if_neg (by rw [b_lt (by omega) (by omega)]; omega), lz_in hX (by omega), z_it, b_cl (by omega), hk, b_tsi 10 (by decide) rfl]
  simp (disch := omega) only [lz_in hX, z_it, nI_add, b_cl, e1, e2, ↓bc_0, ↓bc_234, s1, s2, z_b1, if_true]
theorem lz_c11 {X : Nat × (Nat → Int32)} {ag : Nat → List Value → A_H → A_R} {n : Nat} {m j : Nat → Nat → Nat} {w : (Nat × Nat) × Bool} {u5 u6 : Value} (hX : X.1 < 4000) (hn : 6 * n + 6 ≤ X.1) (h : r_R m j) (hk : X.2 (6 * n) &&& nI 63 = nI 11) : lz_P X ag n m j w u5 u6 := by
  obtain ⟨p1, hp1, e1⟩ := lz_num (X.2 (6 * n + 1))
  obtain ⟨p2, hp2, e2⟩ := lz_num (X.2 (6 * n + 2))
  obtain ⟨p3, hp3, e3⟩ := lz_num (X.2 (6 * n + 3))
  have hs : w_step X a_tx 41 163 253 [.int (nI p1), .int (nI p2), .int (nI p3)] m j w := t_put h (by decide) hp1 hp2 hp3
  obtain ⟨m1, j1, m2, j2, v, s1, s2, hr⟩ := hs
  have s1 := lz_M_some (d := 39) (by decide) (by decide) s1
  have s2 := lz_M_some (d := 39) (by decide) (by decide) s2
  refine ⟨m2, j2, w, u5, u6, ?_, hr, Nat.le_add_right _ _, Nat.le_add_right _ _⟩
  rw [q_La_law_13, lz_bl hX, z_it, b_sub (by omega), if_neg (by rw [b_lt (by omega) (by omega)]; omega), lz_in hX (by omega), z_it, b_cl (by omega), hk, b_tsi 11 (by decide) rfl]
  simp (disch := omega) only [lz_in hX, z_it, nI_add, b_cl, e1, e2, e3, ↓bc_0, ↓bc_234, s1, s2, z_b1, if_true]
theorem lz_c12 {X : Nat × (Nat → Int32)} {ag : Nat → List Value → A_H → A_R} {n : Nat} {m j : Nat → Nat → Nat} {w : (Nat × Nat) × Bool} {u5 u6 : Value} (hX : X.1 < 4000) (hn : 6 * n + 6 ≤ X.1) (h : r_R m j) (hk : X.2 (6 * n) &&& nI 63 = nI 12) : lz_P X ag n m j w u5 u6 := by
  obtain ⟨p1, hp1, e1⟩ := lz_num (X.2 (6 * n + 1))
  have hs : w_step X a_tx 41 164 254 [.int (nI p1)] m j w := t_days h (by decide) hp1
  obtain ⟨m1, j1, m2, j2, v, s1, s2, hr⟩ := hs
  have s1 := lz_M_some (d := 39) (by decide) (by decide) s1
  have s2 := lz_M_some (d := 39) (by decide) (by decide) s2
  refine ⟨m2, j2, w, u5, u6, ?_, hr, Nat.le_add_right _ _, Nat.le_add_right _ _⟩
  rw [q_La_law_13, lz_bl hX, z_it, b_sub (by omega), if_neg (by rw [b_lt (by omega) (by omega)]; omega), lz_in hX (by omega), z_it, b_cl (by omega), hk, b_tsi 12 (by decide) rfl]
  simp (disch := omega) only [lz_in hX, z_it, nI_add, b_cl, e1, ↓bc_0, ↓bc_234, s1, s2, z_b1, if_true]
theorem lz_c13 {X : Nat × (Nat → Int32)} {ag : Nat → List Value → A_H → A_R} {n : Nat} {m j : Nat → Nat → Nat} {w : (Nat × Nat) × Bool} {u5 u6 : Value} (hX : X.1 < 4000) (hn : 6 * n + 6 ≤ X.1) (h : r_R m j) (hk : X.2 (6 * n) &&& nI 63 = nI 13) : lz_P X ag n m j w u5 u6 := by
  have hs : w_step X a_tx 41 165 256 [] m j w := t_undo h (by decide)
  obtain ⟨m1, j1, m2, j2, v, s1, s2, hr⟩ := hs
  have s1 := lz_M_some (d := 39) (by decide) (by decide) s1
  have s2 := lz_M_some (d := 39) (by decide) (by decide) s2
  refine ⟨m2, j2, w, u5, u6, ?_, hr, Nat.le_add_right _ _, Nat.le_add_right _ _⟩
  rw [q_La_law_13, lz_bl hX, z_it, b_sub (by omega), if_neg (by rw [b_lt (by omega) (by omega)]; omega), lz_in hX (by omega), z_it, b_cl (by omega), hk, b_tsi 13 (by decide) rfl]
  simp (disch := omega) only [lz_in hX, z_it, nI_add, b_cl, ↓bc_0, ↓bc_234, s1, s2, z_b1, if_true]
