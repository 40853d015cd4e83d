/-! THE LAW'S LOOP: calls 21 to 27 -/
theorem lz_c21 {X : Nat × (Nat → Int32)} {ag : Nat → List Value → A_H → A_R} {n : Nat} {m j : Nat → Nat → Nat} {w : (Nat × Nat) × Bool} {u5 u6 : Value} (hX : X.1 < 4000) (hn : 6 * n + 6 ≤ X.1) (h : r_R m j) (hk : X.2 (6 * n) &&& nI 63 = nI 21) : lz_P X ag n m j w u5 u6 := by
  have hs : w_step X a_tx 41 173 278 [] m j w := t_was h (by decide)
  obtain ⟨m1, j1, m2, j2, v, s1, s2, hr⟩ := hs
  have s1 := lz_M_some (d := 39) (by decide) (by decide) s1
  have s2 := lz_M_some (d := 39) (by decide) (by decide) s2
  refine ⟨m2, j2, w, u5, u6, ?_, hr, Nat.le_add_right _ _, Nat.le_add_right _ _⟩
  rw [q_La_law_13, lz_bl hX, z_it, b_sub (by omega), if_neg (by rw [b_lt (by omega) (by omega)]; omega), lz_in hX (by omega), z_it, b_cl (by omega), hk, b_tsi 21 (by decide) rfl]
  simp (disch := omega) only [lz_in hX, z_it, nI_add, b_cl, ↓bc_0, ↓bc_234, s1, s2, z_b1, if_true]
theorem lz_c22 {X : Nat × (Nat → Int32)} {ag : Nat → List Value → A_H → A_R} {n : Nat} {m j : Nat → Nat → Nat} {w : (Nat × Nat) × Bool} {u5 u6 : Value} (hX : X.1 < 4000) (hn : 6 * n + 6 ≤ X.1) (h : r_R m j) (hk : X.2 (6 * n) &&& nI 63 = nI 22) : lz_P X ag n m j w u5 u6 := by
  have hs : w_step X a_tx 41 174 279 [] m j w := t_ask h (by decide)
  obtain ⟨m1, j1, m2, j2, v, s1, s2, hr⟩ := hs
  have s1 := lz_M_some (d := 39) (by decide) (by decide) s1
  have s2 := lz_M_some (d := 39) (by decide) (by decide) s2
  refine ⟨m2, j2, w, u5, u6, ?_, hr, Nat.le_add_right _ _, Nat.le_add_right _ _⟩
  rw [q_La_law_13, lz_bl hX, z_it, b_sub (by omega), if_neg (by rw [b_lt (by omega) (by omega)]; omega), lz_in hX (by omega), z_it, b_cl (by omega), hk, b_tsi 22 (by decide) rfl]
  simp (disch := omega) only [lz_in hX, z_it, nI_add, b_cl, ↓bc_0, ↓bc_234, s1, s2, z_b1, if_true]
theorem lz_c23 {X : Nat × (Nat → Int32)} {ag : Nat → List Value → A_H → A_R} {n : Nat} {m j : Nat → Nat → Nat} {w : (Nat × Nat) × Bool} {u5 u6 : Value} (hX : X.1 < 4000) (hn : 6 * n + 6 ≤ X.1) (h : r_R m j) (hk : X.2 (6 * n) &&& nI 63 = nI 23) : lz_P X ag n m j w u5 u6 := by
  obtain ⟨p1, hp1, e1⟩ := lz_num (X.2 (6 * n + 1))
  obtain ⟨p2, hp2, e2⟩ := lz_num (X.2 (6 * n + 2))
  have hs : w_step X a_tx 41 175 280 [.int (nI p1), .int (nI p2)] m j w := t_haggle h (by decide) hp1 hp2
  obtain ⟨m1, j1, m2, j2, v, s1, s2, hr⟩ := hs
  have s1 := lz_M_some (d := 39) (by decide) (by decide) s1
  have s2 := lz_M_some (d := 39) (by decide) (by decide) s2
  refine ⟨m2, j2, w, u5, u6, ?_, hr, Nat.le_add_right _ _, Nat.le_add_right _ _⟩
  rw [q_La_law_13, lz_bl hX, z_it, b_sub (by omega), if_neg (by rw [b_lt (by omega) (by omega)]; omega), lz_in hX (by omega), z_it, b_cl (by omega), hk, b_tsi 23 (by decide) rfl]
  simp (disch := omega) only [lz_in hX, z_it, nI_add, b_cl, e1, e2, ↓bc_0, ↓bc_234, s1, s2, z_b1, if_true]
theorem lz_c24 {X : Nat × (Nat → Int32)} {ag : Nat → List Value → A_H → A_R} {n : Nat} {m j : Nat → Nat → Nat} {w : (Nat × Nat) × Bool} {u5 u6 : Value} (hX : X.1 < 4000) (hn : 6 * n + 6 ≤ X.1) (h : r_R m j) (hk : X.2 (6 * n) &&& nI 63 = nI 24) : lz_P X ag n m j w u5 u6 := by
  have hs : w_step X a_tx 41 176 281 [] m j w := t_rounds h (by decide)
  obtain ⟨m1, j1, m2, j2, v, s1, s2, hr⟩ := hs
  have s1 := lz_M_some (d := 39) (by decide) (by decide) s1
  have s2 := lz_M_some (d := 39) (by decide) (by decide) s2
  refine ⟨m2, j2, w, u5, u6, ?_, hr, Nat.le_add_right _ _, Nat.le_add_right _ _⟩
  rw [q_La_law_13, lz_bl hX, z_it, b_sub (by omega), if_neg (by rw [b_lt (by omega) (by omega)]; omega), lz_in hX (by omega), z_it, b_cl (by omega), hk, b_tsi 24 (by decide) rfl]
  simp (disch := omega) only [lz_in hX, z_it, nI_add, b_cl, ↓bc_0, ↓bc_234, s1, s2, z_b1, if_true]
theorem lz_c25 {X : Nat × (Nat → Int32)} {ag : Nat → List Value → A_H → A_R} {n : Nat} {m j : Nat → Nat → Nat} {w : (Nat × Nat) × Bool} {u5 u6 : Value} (hX : X.1 < 4000) (hn : 6 * n + 6 ≤ X.1) (h : r_R m j) (hk : X.2 (6 * n) &&& nI 63 = nI 25) : lz_P X ag n m j w u5 u6 := by
  obtain ⟨p1, hp1, e1⟩ := lz_num (X.2 (6 * n + 1))
  obtain ⟨p2, hp2, e2⟩ := lz_num (X.2 (6 * n + 2))
  have hs : w_step X a_tx 41 177 283 [.int (nI p1), .int (nI p2)] m j w := t_likes h (by decide) hp1 hp2
  obtain ⟨m1, j1, m2, j2, v, s1, s2, hr⟩ := hs
  have s1 := lz_M_some (d := 39) (by decide) (by decide) s1
  have s2 := lz_M_some (d := 39) (by decide) (by decide) s2
  refine ⟨m2, j2, w, u5, u6, ?_, hr, Nat.le_add_right _ _, Nat.le_add_right _ _⟩
  rw [q_La_law_13, lz_bl hX, z_it, b_sub (by omega), if_neg (by rw [b_lt (by omega) (by omega)]; omega), lz_in hX (by omega), z_it, b_cl (by omega), hk, b_tsi 25 (by decide) rfl]
  simp (disch := omega) only [lz_in hX, z_it, nI_add, b_cl, e1, e2, ↓bc_0, ↓bc_234, s1, s2, z_b1, if_true]
theorem lz_c26 {X : Nat × (Nat → Int32)} {ag : Nat → List Value → A_H → A_R} {n : Nat} {m j : Nat → Nat → Nat} {w : (Nat × Nat) × Bool} {u5 u6 : Value} (hX : X.1 < 4000) (hn : 6 * n + 6 ≤ X.1) (h : r_R m j) (hk : X.2 (6 * n) &&& nI 63 = nI 26) : lz_P X ag n m j w u5 u6 := by
  obtain ⟨p1, hp1, e1⟩ := lz_num (X.2 (6 * n + 1))
  have hs : w_step X a_tx 41 178 287 [.int (nI p1)] m j w := t_gets h (by decide) hp1
  obtain ⟨m1, j1, m2, j2, v, s1, s2, hr⟩ := hs
  have s1 := lz_M_some (d := 39) (by decide) (by decide) s1
  have s2 := lz_M_some (d := 39) (by decide) (by decide) s2
  refine ⟨m2, j2, w, u5, u6, ?_, hr, Nat.le_add_right _ _, Nat.le_add_right _ _⟩
  rw [q_La_law_13, lz_bl hX, z_it, b_sub (by omega), if_neg (by rw [b_lt (by omega) (by omega)]; omega), lz_in hX (by omega), z_it, b_cl (by omega), hk, b_tsi 26 (by decide) rfl]
  simp (disch := omega) only [lz_in hX, z_it, nI_add, b_cl, e1, ↓bc_0, ↓bc_234, s1, s2, z_b1, if_true]
theorem lz_c27 {X : Nat × (Nat → Int32)} {ag : Nat → List Value → A_H → A_R} {n : Nat} {m j : Nat → Nat → Nat} {w : (Nat × Nat) × Bool} {u5 u6 : Value} (hX : X.1 < 4000) (hn : 6 * n + 6 ≤ X.1) (h : r_R m j) (hk : X.2 (6 * n) &&& nI 63 = nI 27) : lz_P X ag n m j w u5 u6 := by
  have hs : w_step X a_tx 41 179 288 [] m j w := t_trade h (by decide)
  obtain ⟨m1, j1, m2, j2, v, s1, s2, hr⟩ := hs
  have s1 := lz_M_some (d := 39) (by decide) (by decide) s1
  have s2 := lz_M_some (d := 39) (by decide) (by decide) s2
  refine ⟨m2, j2, w, u5, u6, ?_, hr, Nat.le_add_right _ _, Nat.le_add_right _ _⟩
  rw [q_La_law_13, lz_bl hX, z_it, b_sub (by omega), if_neg (by rw [b_lt (by omega) (by omega)]; omega), lz_in hX (by omega), z_it, b_cl (by omega), hk, b_tsi 27 (by decide) rfl]
  simp (disch := omega) only [lz_in hX, z_it, nI_add, b_cl, ↓bc_0, ↓bc_234, s1, s2, z_b1, if_true]
