/-! THE LAW'S LOOP: calls 35 to 40 -/
theorem lz_c35 {X : Nat × (Nat → Int32)} {ag : Nat → List Value → A_H → A_R} {n : Nat} {m j : Nat → Nat → Nat} {w : (Nat × Nat) × Bool} {u5 u6 : Value} (hX : X.1 < 4000) (hn : 6 * n + 6 ≤ X.1) (h : r_R m j) (hk : X.2 (6 * n) &&& nI 63 = nI 35) : lz_P X ag n m j w u5 u6 := by
  obtain ⟨p1, hp1, e1⟩ := lz_num (X.2 (6 * n + 1))
  have hs : w_step X a_tx 41 187 301 [.int (nI p1)] m j w := t_told h (by decide) hp1
  obtain ⟨m1, j1, m2, j2, v, s1, s2, hr⟩ := hs
  have s1 := lz_M_some (d := 39) (by decide) (by decide) s1
  have s2 := lz_M_some (d := 39) (by decide) (by decide) s2
  refine ⟨m2, j2, w, u5, u6, ?_, hr, Nat.le_add_right _ _, Nat.le_add_right _ _⟩
  rw [q_La_law_13, lz_bl hX, z_it, b_sub (by omega), if_neg (by rw [b_lt (by omega) (by omega)]; omega), lz_in hX (by omega), z_it, b_cl (by omega), hk, b_tsi 35 (by decide) rfl]
  simp (disch := omega) only [lz_in hX, z_it, nI_add, b_cl, e1, ↓bc_0, ↓bc_234, s1, s2, z_b1, if_true]
theorem lz_c36 {X : Nat × (Nat → Int32)} {ag : Nat → List Value → A_H → A_R} {n : Nat} {m j : Nat → Nat → Nat} {w : (Nat × Nat) × Bool} {u5 u6 : Value} (hX : X.1 < 4000) (hn : 6 * n + 6 ≤ X.1) (h : r_R m j) (hk : X.2 (6 * n) &&& nI 63 = nI 36) : lz_P X ag n m j w u5 u6 := by
  have hs : w_step X a_tx 41 188 308 [] m j w := t_sentence h (by decide)
  obtain ⟨m1, j1, m2, j2, v, s1, s2, hr⟩ := hs
  have s1 := lz_M_some (d := 39) (by decide) (by decide) s1
  have s2 := lz_M_some (d := 39) (by decide) (by decide) s2
  refine ⟨m2, j2, w, u5, u6, ?_, hr, Nat.le_add_right _ _, Nat.le_add_right _ _⟩
  rw [q_La_law_13, lz_bl hX, z_it, b_sub (by omega), if_neg (by rw [b_lt (by omega) (by omega)]; omega), lz_in hX (by omega), z_it, b_cl (by omega), hk, b_tsi 36 (by decide) rfl]
  simp (disch := omega) only [lz_in hX, z_it, nI_add, b_cl, ↓bc_0, ↓bc_234, s1, s2, z_b1, if_true]
theorem lz_c37 {X : Nat × (Nat → Int32)} {ag : Nat → List Value → A_H → A_R} {n : Nat} {m j : Nat → Nat → Nat} {w : (Nat × Nat) × Bool} {u5 u6 : Value} (hX : X.1 < 4000) (hn : 6 * n + 6 ≤ X.1) (h : r_R m j) (hk : X.2 (6 * n) &&& nI 63 = nI 37) : lz_P X ag n m j w u5 u6 := by
  obtain ⟨p1, hp1, e1⟩ := lz_num (X.2 (6 * n + 1))
  have hs : w_step X a_tx 41 189 311 [.int (nI p1)] m j w := t_said h (by decide) hp1
  obtain ⟨m1, j1, m2, j2, v, s1, s2, hr⟩ := hs
  have s1 := lz_M_some (d := 39) (by decide) (by decide) s1
  have s2 := lz_M_some (d := 39) (by decide) (by decide) s2
  refine ⟨m2, j2, w, u5, u6, ?_, hr, Nat.le_add_right _ _, Nat.le_add_right _ _⟩
  rw [q_La_law_13, lz_bl hX, z_it, b_sub (by omega), if_neg (by rw [b_lt (by omega) (by omega)]; omega), lz_in hX (by omega), z_it, b_cl (by omega), hk, b_tsi 37 (by decide) rfl]
  simp (disch := omega) only [lz_in hX, z_it, nI_add, b_cl, e1, ↓bc_0, ↓bc_234, s1, s2, z_b1, if_true]
theorem lz_c38 {X : Nat × (Nat → Int32)} {ag : Nat → List Value → A_H → A_R} {n : Nat} {m j : Nat → Nat → Nat} {w : (Nat × Nat) × Bool} {u5 u6 : Value} (hX : X.1 < 4000) (hn : 6 * n + 6 ≤ X.1) (h : r_R m j) (hk : X.2 (6 * n) &&& nI 63 = nI 38) : lz_P X ag n m j w u5 u6 := by
  obtain ⟨p1, hp1, e1⟩ := lz_num (X.2 (6 * n + 1))
  have hs : w_step X a_tx 41 190 312 [.int (nI p1)] m j w := t_image h (by decide) hp1
  obtain ⟨m1, j1, m2, j2, v, s1, s2, hr⟩ := hs
  have s1 := lz_M_some (d := 39) (by decide) (by decide) s1
  have s2 := lz_M_some (d := 39) (by decide) (by decide) s2
  refine ⟨m2, j2, w, u5, u6, ?_, hr, Nat.le_add_right _ _, Nat.le_add_right _ _⟩
  rw [q_La_law_13, lz_bl hX, z_it, b_sub (by omega), if_neg (by rw [b_lt (by omega) (by omega)]; omega), lz_in hX (by omega), z_it, b_cl (by omega), hk, b_tsi 38 (by decide) rfl]
  simp (disch := omega) only [lz_in hX, z_it, nI_add, b_cl, e1, ↓bc_0, ↓bc_234, s1, s2, z_b1, if_true]
theorem lz_c39 {X : Nat × (Nat → Int32)} {ag : Nat → List Value → A_H → A_R} {n : Nat} {m j : Nat → Nat → Nat} {w : (Nat × Nat) × Bool} {u5 u6 : Value} (hX : X.1 < 4000) (hn : 6 * n + 6 ≤ X.1) (h : r_R m j) (hk : X.2 (6 * n) &&& nI 63 = nI 39) : lz_P X ag n m j w u5 u6 := by
  obtain ⟨p1, hp1, e1⟩ := lz_num (X.2 (6 * n + 1))
  have hs : w_step X a_tx 41 191 313 [.int (nI p1)] m j w := t_restore h (by decide) hp1
  obtain ⟨m1, j1, m2, j2, v, s1, s2, hr⟩ := hs
  have s1 := lz_M_some (d := 39) (by decide) (by decide) s1
  have s2 := lz_M_some (d := 39) (by decide) (by decide) s2
  refine ⟨m2, j2, w, u5, u6, ?_, hr, Nat.le_add_right _ _, Nat.le_add_right _ _⟩
  rw [q_La_law_13, lz_bl hX, z_it, b_sub (by omega), if_neg (by rw [b_lt (by omega) (by omega)]; omega), lz_in hX (by omega), z_it, b_cl (by omega), hk, b_tsi 39 (by decide) rfl]
  simp (disch := omega) only [lz_in hX, z_it, nI_add, b_cl, e1, ↓bc_0, ↓bc_234, s1, s2, z_b1, if_true]
theorem lz_c40 {X : Nat × (Nat → Int32)} {ag : Nat → List Value → A_H → A_R} {n : Nat} {m j : Nat → Nat → Nat} {w : (Nat × Nat) × Bool} {u5 u6 : Value} (hX : X.1 < 4000) (hn : 6 * n + 6 ≤ X.1) (h : r_R m j) (hk : X.2 (6 * n) &&& nI 63 = nI 40) : lz_P X ag n m j w u5 u6 := by
  obtain ⟨p1, hp1, e1⟩ := lz_num (X.2 (6 * n + 1))
  have hs : w_step X a_tx 41 192 314 [.int (nI p1)] m j w := t_count h (by decide) hp1
  obtain ⟨m1, j1, m2, j2, v, s1, s2, hr⟩ := hs
  have s1 := lz_M_some (d := 39) (by decide) (by decide) s1
  have s2 := lz_M_some (d := 39) (by decide) (by decide) s2
  refine ⟨m2, j2, w, u5, u6, ?_, hr, Nat.le_add_right _ _, Nat.le_add_right _ _⟩
  rw [q_La_law_13, lz_bl hX, z_it, b_sub (by omega), if_neg (by rw [b_lt (by omega) (by omega)]; omega), lz_in hX (by omega), z_it, b_cl (by omega), hk, b_tsi 40 (by decide) rfl]
  simp (disch := omega) only [lz_in hX, z_it, nI_add, b_cl, e1, ↓bc_0, ↓bc_234, s1, s2, z_b1, if_true]
theorem lz_cd {X : Nat × (Nat → Int32)} {ag : Nat → List Value → A_H → A_R} {n : Nat} {m j : Nat → Nat → Nat} {w : (Nat × Nat) × Bool} {u5 u6 : Value} (hX : X.1 < 4000) (hn : 6 * n + 6 ≤ X.1) (h : r_R m j) {k : Nat} (h1 : 41 ≤ k) (h2 : k < 64) (hk : X.2 (6 * n) &&& nI 63 = nI k) : lz_P X ag n m j w u5 u6 := by
  refine ⟨m, j, w, u5, u6, ?_, h, Nat.le_add_right _ _, Nat.le_add_right _ _⟩
  rw [q_La_law_13, lz_bl hX, z_it, b_sub (by omega), if_neg (by rw [b_lt (by omega) (by omega)]; omega), lz_in hX (by omega), z_it, b_cl (by omega), hk, b_tsd (by exact h1) (by omega), nI_add]
/-- one round, any call -/
theorem lz_round {X : Nat × (Nat → Int32)} {ag : Nat → List Value → A_H → A_R} {n : Nat} {m j : Nat → Nat → Nat} {w : (Nat × Nat) × Bool} {u5 u6 : Value} (hX : X.1 < 4000) (hn : 6 * n + 6 ≤ X.1) (h : r_R m j) : lz_P X ag n m j w u5 u6 := by
  obtain ⟨k, hk, e⟩ := pk_andE (X.2 (6 * n)) (m := nI 63) 6 (by decide)
  have hk : k < 64 := hk
  rcases (show k = 0 ∨ k = 1 ∨ k = 2 ∨ k = 3 ∨ k = 4 ∨ k = 5 ∨ k = 6 ∨ k = 7 ∨ k = 8 ∨ k = 9 ∨ k = 10 ∨ k = 11 ∨ k = 12 ∨ k = 13 ∨ k = 14 ∨ k = 15 ∨ k = 16 ∨ k = 17 ∨ k = 18 ∨ k = 19 ∨ k = 20 ∨ k = 21 ∨ k = 22 ∨ k = 23 ∨ k = 24 ∨ k = 25 ∨ k = 26 ∨ k = 27 ∨ k = 28 ∨ k = 29 ∨ k = 30 ∨ k = 31 ∨ k = 32 ∨ k = 33 ∨ k = 34 ∨ k = 35 ∨ k = 36 ∨ k = 37 ∨ k = 38 ∨ k = 39 ∨ k = 40 ∨ 41 ≤ k by omega) with rfl | rfl | rfl | rfl | rfl | rfl | rfl | rfl | rfl | rfl | rfl | rfl | rfl | rfl | rfl | rfl | rfl | rfl | rfl | rfl | rfl | rfl | rfl | rfl | rfl | rfl | rfl | rfl | rfl | rfl | rfl | rfl | rfl | rfl | rfl | rfl | rfl | rfl | rfl | rfl | rfl | c
  · exact lz_c0 hX hn h e
  · exact lz_c1 hX hn h e
  · exact lz_c2 hX hn h e
  · exact lz_c3 hX hn h e
  · exact lz_c4 hX hn h e
  · exact lz_c5 hX hn h e
  · exact lz_c6 hX hn h e
  · exact lz_c7 hX hn h e
  · exact lz_c8 hX hn h e
  · exact lz_c9 hX hn h e
  · exact lz_c10 hX hn h e
  · exact lz_c11 hX hn h e
  · exact lz_c12 hX hn h e
  · exact lz_c13 hX hn h e
  · exact lz_c14 hX hn h e
  · exact lz_c15 hX hn h e
  · exact lz_c16 hX hn h e
  · exact lz_c17 hX hn h e
  · exact lz_c18 hX hn h e
  · exact lz_c19 hX hn h e
  · exact lz_c20 hX hn h e
  · exact lz_c21 hX hn h e
  · exact lz_c22 hX hn h e
  · exact lz_c23 hX hn h e
  · exact lz_c24 hX hn h e
  · exact lz_c25 hX hn h e
  · exact lz_c26 hX hn h e
  · exact lz_c27 hX hn h e
  · exact lz_c28 hX hn h e
  · exact lz_c29 hX hn h e
  · exact lz_c30 hX hn h e
  · exact lz_c31 hX hn h e
  · exact lz_c32 hX hn h e
  · exact lz_c33 hX hn h e
  · exact lz_c34 hX hn h e
  · exact lz_c35 hX hn h e
  · exact lz_c36 hX hn h e
  · exact lz_c37 hX hn h e
  · exact lz_c38 hX hn h e
  · exact lz_c39 hX hn h e
  · exact lz_c40 hX hn h e
  · exact lz_cd hX hn h c hk e
/-- all rounds from n on -/
theorem lz_all {X : Nat × (Nat → Int32)} (hX : X.1 < 4000) : ∀ (r n f : Nat) (m j : Nat → Nat → Nat) (w : (Nat × Nat) × Bool) (u5 u6 : Value), r_R m j → X.1 < 6 * n + 6 * r + 6 → r < f → 6 * n ≤ X.1 → ∃ hf, a_go X a_tx (lz_M X 39) k_La_law_0 f 13 [.retAddr 1, .ref 0, .ref 234, .ref 257, .int (nI (6 * n)), u5, u6] (b_h m j w) = some (hf, some (.int 1)) ∧ a_nc hf ≤ w.1.1 + 8 * r ∧ a_ns hf ≤ w.1.2 + 40 * r := by
  intro r
  induction r with
  | zero =>
    intro n f m j w u5 u6 h h1 h2 h3
    obtain ⟨f, rfl⟩ : ∃ g, f = g + 1 := ⟨f - 1, by omega⟩
    rw [l_La_law_13, q_La_law_13, lz_bl hX, z_it]
    refine ⟨b_h m j w, ?_, Nat.le_refl _, Nat.le_refl _⟩
    have hb : nI 1 &&& 1 = nI 1 := by decide +kernel
    rw [if_pos ?_]
    · rw [if_pos hb]
      rfl
    · by_cases c : 6 ≤ X.1
      · rw [b_sub c, b_lt (by omega) (by omega)]
        omega
      · have hn : n = 0 := by omega
        subst hn
        rcases (show X.1 = 0 ∨ X.1 = 1 ∨ X.1 = 2 ∨ X.1 = 3 ∨ X.1 = 4 ∨ X.1 = 5 by omega) with e | e | e | e | e | e <;> rw [e] <;> decide +kernel
  | succ r ih =>
    intro n f m j w u5 u6 h h1 h2 h3
    obtain ⟨f, rfl⟩ : ∃ g, f = g + 1 := ⟨f - 1, by omega⟩
    by_cases c : 6 * n + 6 ≤ X.1
    · obtain ⟨m2, j2, w2, v5, v6, e, hr, q1, q2⟩ := lz_round (ag := a_go X a_tx (lz_M X 39) k_La_law_0 f) (w := w) (u5 := u5) (u6 := u6) hX c h
      rw [l_La_law_13, e]
      obtain ⟨hf, g1, g2, g3⟩ := ih (n + 1) f m2 j2 w2 v5 v6 hr (by omega) (by omega) (by omega)
      exact ⟨hf, g1, by omega, by omega⟩
    · obtain ⟨hf, g1, g2, g3⟩ := ih n (f + 1) m j w u5 u6 h (by omega) (by omega) h3
      exact ⟨hf, g1, by omega, by omega⟩
