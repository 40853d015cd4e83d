/-! TEXTS: the class finds and takes names -/
section NC
variable {X : Nat × (Nat → Int32)} {tx : List Int32} {D : Nat} {m j : Nat → Nat → Nat} {w : (Nat × Nat) × Bool} {n q p : Nat} {N s : Nat → Nat} {l : Nat}
theorem s_Fa_findName15 (hc : m 15 6 ≤ 30) (hl : l < 9223372036854775808) (hL : ∀ i, i < m 15 6 → j 16 i < 9223372036854775808) (hD : 1 ≤ D) : a_ex X tx a_T D 41 [.ref 15, .long (lN l)] (b_h m j w) = some (b_h m j w, some (.int (nI (w_fd (j 16) l (m 15 6))))) := by
  obtain ⟨d, rfl⟩ : ∃ d, D = d + 1 := ⟨D - 1, by omega⟩
  rw [e_Fa_findName, q_Fa_findName_0]
  have loop : a_go X tx (a_ex X tx a_T d) k_Fa_findName_0 (a_f1 + 1) 2 [.ref 15, .long (lN l), .retAddr 0, .int (nI 0)] (b_h m j w) = some (b_h m j w, some (.int (nI (w_fd (j 16) l (m 15 6))))) := by
    refine z_run (Q := fun r => r = some (b_h m j w, some (.int (nI (w_fd (j 16) l (m 15 6)))))) (fun c L y => ∃ k, c + k = m 15 6 ∧ L = [.ref 15, .long (lN l), .retAddr 0, .int (nI k)] ∧ y = b_h m j w ∧ ∀ i, i < k → j 16 i ≠ l) 0 ?_ (m 15 6) _ _ ⟨0, by omega, rfl, rfl, fun i hi => absurd hi (by omega)⟩ _ (z_fu (by omega))
    rintro c L y ⟨k, hc2, rfl, rfl, hi⟩ f _
    rw [l_Fa_findName_2, q_Fa_findName_2]
    by_cases c1 : k = m 15 6
    · left
      rw [← c1, w_fd_not hi]
      have c3 := c1.symm
      simp (disch := omega) only [c3, ↓bc_15, ↓br_15_7, ↓bc_16, ↓bx_16, bl_16, ↓b_t0, ↓b_t1, ↓b_t2, ↓b_t3, ↓b_t4, ↓b_t5, ↓b_t6, Nat.zero_add, Nat.le_refl, b_rs, b_rn, b_r2, b_ss, b_sn, b_bt, b_bf, b_b0, b_b1, b_bw, b_shl, b_or, b_iv, b_jv, b_sI, b_sJ, ↓z_hl, z_b0, z_b1, z_b2, b_and1c, b_and1z, if_true, if_false, nI_add, pk_mul, b_cl, b_lt, b_le, b_eq, b_eq0, b_le0, b_0lt, b_0le, b_lt0]
    · have h5 := hL k (by omega)
      by_cases c2 : j 16 k = l
      · left
        rw [w_fd_hit (by omega) c2 hi]
        simp (disch := omega) only [b_lcmp, ↓bc_15, ↓br_15_7, ↓bc_16, ↓bx_16, bl_16, ↓b_t0, ↓b_t1, ↓b_t2, ↓b_t3, ↓b_t4, ↓b_t5, ↓b_t6, Nat.zero_add, Nat.le_refl, b_rs, b_rn, b_r2, b_ss, b_sn, b_bt, b_bf, b_b0, b_b1, b_bw, b_shl, b_or, b_iv, b_jv, b_sI, b_sJ, ↓z_hl, z_b0, z_b1, z_b2, b_and1c, b_and1z, if_true, if_false, nI_add, pk_mul, b_cl, b_lt, b_le, b_eq, b_eq0, b_le0, b_0lt, b_0le, b_lt0]
        rw [if_neg (by omega), if_pos c2]
      · right
        refine ⟨c - 1, [.ref 15, .long (lN l), .retAddr 0, .int (nI (k + 1))], _, by omega, ⟨k + 1, by omega, rfl, rfl, fun i hi2 => by
          by_cases g1 : i = k
          · rw [g1]; exact c2
          · exact hi i (by omega)⟩, ?_⟩
        simp (disch := omega) only [b_lcmp, ↓bc_15, ↓br_15_7, ↓bc_16, ↓bx_16, bl_16, ↓b_t0, ↓b_t1, ↓b_t2, ↓b_t3, ↓b_t4, ↓b_t5, ↓b_t6, Nat.zero_add, Nat.le_refl, b_rs, b_rn, b_r2, b_ss, b_sn, b_bt, b_bf, b_b0, b_b1, b_bw, b_shl, b_or, b_iv, b_jv, b_sI, b_sJ, ↓z_hl, z_b0, z_b1, z_b2, b_and1c, b_and1z, if_true, if_false, nI_add, pk_mul, b_cl, b_lt, b_le, b_eq, b_eq0, b_le0, b_0lt, b_0le, b_lt0]
        rw [if_neg (by omega), if_neg c2]
  rw [l_Fa_findName_2] at loop
  exact loop
theorem s_Fa_lookUp15 (hX : l_X m j n q) (h : l_C m j n q p) (hN : r_N (m 17) (m 18) (m 15 6) (j 16) N s) (hc : m 15 6 ≤ 30) (hD : 3 ≤ D) {so : Nat} (hs : so ≤ 3) : match k_look (m 2) n q (fun k => N (w_base so + k)) (s so) p with
    | .ok k => a_ex X tx a_T D 43 [.ref 15, .ref 1, .int (nI so)] (b_h m j w) = some (b_h m j w, some (.int (nI k))) ∧ k < s so ∧ k < 30
    | .error e => ∃ m2, a_ex X tx a_T D 43 [.ref 15, .ref 1, .int (nI so)] (b_h m j w) = some (b_h m2 j w, some (.int (nI 4294967295))) ∧ x_C m m2 j j e := by
  obtain ⟨d, rfl⟩ : ∃ d, D = d + 1 := ⟨D - 1, by omega⟩
  have s1 : a_ex X tx a_T d 10 [.ref 1] (b_h m j w) = some (b_h m j w, some (.int (nI (b_b (k_isn (m 2) n q p))))) := s_Ta_atName hX h (by omega)
  have s2 := fun k => s_Ta_fail (X := X) (tx := tx) (D := d) (m := m) (j := j) (w := w) h (by omega) (k := k)
  unfold k_look
  by_cases c1 : k_isn (m 2) n q p = true
  · rw [if_pos c1]
    rw [c1] at s1
    have hk := k_isn_1 c1
    have hle := l_C_le h hk
    have hl := w_le_lt hX.2.2.1 hk
    obtain ⟨x1, x2, x3, x4⟩ := id hN
    have s3 := s_Fa_findName15 (X := X) (tx := tx) (D := d) (m := m) (j := j) (w := w) hc (l := w_le (m 2) n q p) (by omega) (fun i hi => by have := (x2 i hi).2.2.2; omega) (by omega)
    have g := r_N_look (l := w_le (m 2) n q p) hN hc hs
    have g1 := w_fd_le (g := j 16) (L := w_le (m 2) n q p) (many := m 15 6)
    generalize w_fd (j 16) (w_le (m 2) n q p) (m 15 6) = r at s3 g g1
    by_cases c2 : r = 4294967295
    · rw [g.2 (Or.inl c2), if_pos rfl]
      subst c2
      refine ⟨_, ?_, x_C_fail⟩
      rw [e_Fa_lookUp, q_Fa_lookUp_0]
      simp (disch := omega) only [s1, s2, s3, hle, b_lt0M, Nat.one_ne_zero, ↓bc_1, ↓bc_15, ↓br_15_8, ↓bc_17, ↓bx_17, bl_17, ↓br_15_9, ↓bc_18, ↓bx_18, bl_18, ↓b_t0, ↓b_t1, ↓b_t2, ↓b_t3, ↓b_t4, ↓b_t5, ↓b_t6, Nat.zero_add, Nat.le_refl, b_rs, b_rn, b_r2, b_ss, b_sn, b_bt, b_bf, b_b0, b_b1, b_bw, b_shl, b_or, b_iv, b_jv, b_sI, b_sJ, ↓z_hl, z_b0, z_b1, z_b2, b_and1c, b_and1z, if_true, if_false, nI_add, pk_mul, b_cl, b_lt, b_le, b_eq, b_eq0, b_le0, b_0lt, b_0le, b_lt0]
    · have c3 : r < m 15 6 := by omega
      have x5 := x2 r c3
      by_cases c4 : m 17 r = so
      · have g2 := g.1 c3 c4
        have x6 : m 18 r < s so := by rw [← c4]; exact x5.2.1
        have x7 : s so ≤ 30 := by
          have : so = 0 ∨ so = 1 ∨ so = 2 ∨ so = 3 := by omega
          rcases this with y | y | y | y
          · rw [y]; omega
          · rw [y]; omega
          · rw [y]; omega
          · rw [y]; omega
        rw [g2, if_neg (by omega)]
        refine ⟨?_, x6, by omega⟩
        rw [e_Fa_lookUp, q_Fa_lookUp_0]
        simp (disch := omega) only [s1, s3, hle, Nat.one_ne_zero, ↓bc_1, ↓bc_15, ↓br_15_8, ↓bc_17, ↓bx_17, bl_17, ↓br_15_9, ↓bc_18, ↓bx_18, bl_18, ↓b_t0, ↓b_t1, ↓b_t2, ↓b_t3, ↓b_t4, ↓b_t5, ↓b_t6, Nat.zero_add, Nat.le_refl, b_rs, b_rn, b_r2, b_ss, b_sn, b_bt, b_bf, b_b0, b_b1, b_bw, b_shl, b_or, b_iv, b_jv, b_sI, b_sJ, ↓z_hl, z_b0, z_b1, z_b2, b_and1c, b_and1z, if_true, if_false, nI_add, pk_mul, b_cl, b_lt, b_le, b_eq, b_eq0, b_le0, b_0lt, b_0le, b_lt0]
        rw [if_neg (by omega), if_pos c4]
      · rw [g.2 (Or.inr c4), if_pos rfl]
        refine ⟨_, ?_, x_C_fail⟩
        rw [e_Fa_lookUp, q_Fa_lookUp_0]
        simp (disch := omega) only [s1, s2, s3, hle, Nat.one_ne_zero, ↓bc_1, ↓bc_15, ↓br_15_8, ↓bc_17, ↓bx_17, bl_17, ↓br_15_9, ↓bc_18, ↓bx_18, bl_18, ↓b_t0, ↓b_t1, ↓b_t2, ↓b_t3, ↓b_t4, ↓b_t5, ↓b_t6, Nat.zero_add, Nat.le_refl, b_rs, b_rn, b_r2, b_ss, b_sn, b_bt, b_bf, b_b0, b_b1, b_bw, b_shl, b_or, b_iv, b_jv, b_sI, b_sJ, ↓z_hl, z_b0, z_b1, z_b2, b_and1c, b_and1z, if_true, if_false, nI_add, pk_mul, b_cl, b_lt, b_le, b_eq, b_eq0, b_le0, b_0lt, b_0le, b_lt0]
        rw [if_neg (by omega), if_neg c4]
  · rw [if_neg c1]
    rw [Bool.not_eq_true] at c1
    rw [c1] at s1
    refine ⟨_, ?_, x_C_fail⟩
    rw [e_Fa_lookUp, q_Fa_lookUp_0]
    simp (disch := omega) only [s1, s2, ↓bc_1, ↓bc_15, ↓br_15_8, ↓bc_17, ↓bx_17, bl_17, ↓br_15_9, ↓bc_18, ↓bx_18, bl_18, ↓b_t0, ↓b_t1, ↓b_t2, ↓b_t3, ↓b_t4, ↓b_t5, ↓b_t6, Nat.zero_add, Nat.le_refl, b_rs, b_rn, b_r2, b_ss, b_sn, b_bt, b_bf, b_b0, b_b1, b_bw, b_shl, b_or, b_iv, b_jv, b_sI, b_sJ, ↓z_hl, z_b0, z_b1, z_b2, b_and1c, b_and1z, if_true, if_false, nI_add, pk_mul, b_cl, b_lt, b_le, b_eq, b_eq0, b_le0, b_0lt, b_0le, b_lt0]
theorem s_Fa_takeName15 (hX : l_X m j n q) (h : l_C m j n q p) (hN : r_N (m 17) (m 18) (m 15 6) (j 16) N s) (hc : m 15 6 ≤ 30) (hD : 4 ≤ D) {so : Nat} (hs : so ≤ 3) : match k_look (m 2) n q (fun k => N (w_base so + k)) (s so) p with
    | .ok k => ∃ m2 j2, a_ex X tx a_T D 44 [.ref 15, .ref 1, .int (nI so)] (b_h m j w) = some (b_h m2 j2 w, some (.int (nI k))) ∧ o_C m m2 j j2 n q (w_nx (m 2) n q p) ∧ k < s so ∧ k < 30
    | .error e => ∃ m2, a_ex X tx a_T D 44 [.ref 15, .ref 1, .int (nI so)] (b_h m j w) = some (b_h m2 j w, some (.int (nI 4294967295))) ∧ x_C m m2 j j e := by
  obtain ⟨d, rfl⟩ : ∃ d, D = d + 1 := ⟨D - 1, by omega⟩
  have s1 := s_Fa_lookUp15 (X := X) (tx := tx) (D := d) (w := w) hX h hN hc (by omega) hs
  cases hr : k_look (m 2) n q (fun k => N (w_base so + k)) (s so) p with
  | ok k =>
    rw [hr] at s1
    obtain ⟨e1, e2, e3⟩ := s1
    have hk := k_am_lo hr
    obtain ⟨m2, j2, f1, f2⟩ := s_Ta_stepT (X := X) (tx := tx) (D := d) (m := m) (j := j) (w := w) hX h (w_kd_in (by omega) (by omega)) (by omega)
    refine ⟨m2, j2, ?_, f2, e2, e3⟩
    rw [e_Fa_takeName, q_Fa_takeName_0]
    simp (disch := omega) only [e1, f1, ↓bc_15, ↓bc_1, ↓b_t0, ↓b_t1, ↓b_t2, ↓b_t3, ↓b_t4, ↓b_t5, ↓b_t6, Nat.zero_add, Nat.le_refl, b_rs, b_rn, b_r2, b_ss, b_sn, b_bt, b_bf, b_b0, b_b1, b_bw, b_shl, b_or, b_iv, b_jv, b_sI, b_sJ, ↓z_hl, z_b0, z_b1, z_b2, b_and1c, b_and1z, if_true, if_false, nI_add, pk_mul, b_cl, b_lt, b_le, b_eq, b_eq0, b_le0, b_0lt, b_0le, b_lt0]
    rw [if_neg (by omega)]
  | error e =>
    rw [hr] at s1
    obtain ⟨m2, e1, e2⟩ := s1
    refine ⟨m2, ?_, e2⟩
    rw [e_Fa_takeName, q_Fa_takeName_0]
    simp (disch := omega) only [e1, ↓bc_15, ↓bc_1, ↓b_t0, ↓b_t1, ↓b_t2, ↓b_t3, ↓b_t4, ↓b_t5, ↓b_t6, Nat.zero_add, Nat.le_refl, b_rs, b_rn, b_r2, b_ss, b_sn, b_bt, b_bf, b_b0, b_b1, b_bw, b_shl, b_or, b_iv, b_jv, b_sI, b_sJ, ↓z_hl, z_b0, z_b1, z_b2, b_and1c, b_and1z, if_true, if_false, nI_add, pk_mul, b_cl, b_lt, b_le, b_eq, b_eq0, b_le0, b_0lt, b_0le, b_lt0]
theorem s_Fa_findName4 (hc : m 4 6 ≤ 30) (hl : l < 9223372036854775808) (hL : ∀ i, i < m 4 6 → j 5 i < 9223372036854775808) (hD : 1 ≤ D) : a_ex X tx a_T D 41 [.ref 4, .long (lN l)] (b_h m j w) = some (b_h m j w, some (.int (nI (w_fd (j 5) l (m 4 6))))) := by
  obtain ⟨d, rfl⟩ : ∃ d, D = d + 1 := ⟨D - 1, by omega⟩
  rw [e_Fa_findName, q_Fa_findName_0]
  have loop : a_go X tx (a_ex X tx a_T d) k_Fa_findName_0 (a_f1 + 1) 2 [.ref 4, .long (lN l), .retAddr 0, .int (nI 0)] (b_h m j w) = some (b_h m j w, some (.int (nI (w_fd (j 5) l (m 4 6))))) := by
    refine z_run (Q := fun r => r = some (b_h m j w, some (.int (nI (w_fd (j 5) l (m 4 6)))))) (fun c L y => ∃ k, c + k = m 4 6 ∧ L = [.ref 4, .long (lN l), .retAddr 0, .int (nI k)] ∧ y = b_h m j w ∧ ∀ i, i < k → j 5 i ≠ l) 0 ?_ (m 4 6) _ _ ⟨0, by omega, rfl, rfl, fun i hi => absurd hi (by omega)⟩ _ (z_fu (by omega))
    rintro c L y ⟨k, hc2, rfl, rfl, hi⟩ f _
    rw [l_Fa_findName_2, q_Fa_findName_2]
    by_cases c1 : k = m 4 6
    · left
      rw [← c1, w_fd_not hi]
      have c3 := c1.symm
      simp (disch := omega) only [c3, ↓bc_4, ↓br_4_7, ↓bc_5, ↓bx_5, bl_5, ↓b_t0, ↓b_t1, ↓b_t2, ↓b_t3, ↓b_t4, ↓b_t5, ↓b_t6, Nat.zero_add, Nat.le_refl, b_rs, b_rn, b_r2, b_ss, b_sn, b_bt, b_bf, b_b0, b_b1, b_bw, b_shl, b_or, b_iv, b_jv, b_sI, b_sJ, ↓z_hl, z_b0, z_b1, z_b2, b_and1c, b_and1z, if_true, if_false, nI_add, pk_mul, b_cl, b_lt, b_le, b_eq, b_eq0, b_le0, b_0lt, b_0le, b_lt0]
    · have h5 := hL k (by omega)
      by_cases c2 : j 5 k = l
      · left
        rw [w_fd_hit (by omega) c2 hi]
        simp (disch := omega) only [b_lcmp, ↓bc_4, ↓br_4_7, ↓bc_5, ↓bx_5, bl_5, ↓b_t0, ↓b_t1, ↓b_t2, ↓b_t3, ↓b_t4, ↓b_t5, ↓b_t6, Nat.zero_add, Nat.le_refl, b_rs, b_rn, b_r2, b_ss, b_sn, b_bt, b_bf, b_b0, b_b1, b_bw, b_shl, b_or, b_iv, b_jv, b_sI, b_sJ, ↓z_hl, z_b0, z_b1, z_b2, b_and1c, b_and1z, if_true, if_false, nI_add, pk_mul, b_cl, b_lt, b_le, b_eq, b_eq0, b_le0, b_0lt, b_0le, b_lt0]
        rw [if_neg (by omega), if_pos c2]
      · right
        refine ⟨c - 1, [.ref 4, .long (lN l), .retAddr 0, .int (nI (k + 1))], _, by omega, ⟨k + 1, by omega, rfl, rfl, fun i hi2 => by
          by_cases g1 : i = k
          · rw [g1]; exact c2
          · exact hi i (by omega)⟩, ?_⟩
        simp (disch := omega) only [b_lcmp, ↓bc_4, ↓br_4_7, ↓bc_5, ↓bx_5, bl_5, ↓b_t0, ↓b_t1, ↓b_t2, ↓b_t3, ↓b_t4, ↓b_t5, ↓b_t6, Nat.zero_add, Nat.le_refl, b_rs, b_rn, b_r2, b_ss, b_sn, b_bt, b_bf, b_b0, b_b1, b_bw, b_shl, b_or, b_iv, b_jv, b_sI, b_sJ, ↓z_hl, z_b0, z_b1, z_b2, b_and1c, b_and1z, if_true, if_false, nI_add, pk_mul, b_cl, b_lt, b_le, b_eq, b_eq0, b_le0, b_0lt, b_0le, b_lt0]
        rw [if_neg (by omega), if_neg c2]
  rw [l_Fa_findName_2] at loop
  exact loop
theorem s_Fa_lookUp4 (hX : l_X m j n q) (h : l_C m j n q p) (hN : r_N (m 6) (m 7) (m 4 6) (j 5) N s) (hc : m 4 6 ≤ 30) (hD : 3 ≤ D) {so : Nat} (hs : so ≤ 3) : match k_look (m 2) n q (fun k => N (w_base so + k)) (s so) p with
    | .ok k => a_ex X tx a_T D 43 [.ref 4, .ref 1, .int (nI so)] (b_h m j w) = some (b_h m j w, some (.int (nI k))) ∧ k < s so ∧ k < 30
    | .error e => ∃ m2, a_ex X tx a_T D 43 [.ref 4, .ref 1, .int (nI so)] (b_h m j w) = some (b_h m2 j w, some (.int (nI 4294967295))) ∧ x_C m m2 j j e := by
  obtain ⟨d, rfl⟩ : ∃ d, D = d + 1 := ⟨D - 1, by omega⟩
  have s1 : a_ex X tx a_T d 10 [.ref 1] (b_h m j w) = some (b_h m j w, some (.int (nI (b_b (k_isn (m 2) n q p))))) := s_Ta_atName hX h (by omega)
  have s2 := fun k => s_Ta_fail (X := X) (tx := tx) (D := d) (m := m) (j := j) (w := w) h (by omega) (k := k)
  unfold k_look
  by_cases c1 : k_isn (m 2) n q p = true
  · rw [if_pos c1]
    rw [c1] at s1
    have hk := k_isn_1 c1
    have hle := l_C_le h hk
    have hl := w_le_lt hX.2.2.1 hk
    obtain ⟨x1, x2, x3, x4⟩ := id hN
    have s3 := s_Fa_findName4 (X := X) (tx := tx) (D := d) (m := m) (j := j) (w := w) hc (l := w_le (m 2) n q p) (by omega) (fun i hi => by have := (x2 i hi).2.2.2; omega) (by omega)
    have g := r_N_look (l := w_le (m 2) n q p) hN hc hs
    have g1 := w_fd_le (g := j 5) (L := w_le (m 2) n q p) (many := m 4 6)
    generalize w_fd (j 5) (w_le (m 2) n q p) (m 4 6) = r at s3 g g1
    by_cases c2 : r = 4294967295
    · rw [g.2 (Or.inl c2), if_pos rfl]
      subst c2
      refine ⟨_, ?_, x_C_fail⟩
      rw [e_Fa_lookUp, q_Fa_lookUp_0]
      simp (disch := omega) only [s1, s2, s3, hle, b_lt0M, Nat.one_ne_zero, ↓bc_1, ↓bc_4, ↓br_4_8, ↓bc_6, ↓bx_6, bl_6, ↓br_4_9, ↓bc_7, ↓bx_7, bl_7, ↓b_t0, ↓b_t1, ↓b_t2, ↓b_t3, ↓b_t4, ↓b_t5, ↓b_t6, Nat.zero_add, Nat.le_refl, b_rs, b_rn, b_r2, b_ss, b_sn, b_bt, b_bf, b_b0, b_b1, b_bw, b_shl, b_or, b_iv, b_jv, b_sI, b_sJ, ↓z_hl, z_b0, z_b1, z_b2, b_and1c, b_and1z, if_true, if_false, nI_add, pk_mul, b_cl, b_lt, b_le, b_eq, b_eq0, b_le0, b_0lt, b_0le, b_lt0]
    · have c3 : r < m 4 6 := by omega
      have x5 := x2 r c3
      by_cases c4 : m 6 r = so
      · have g2 := g.1 c3 c4
        have x6 : m 7 r < s so := by rw [← c4]; exact x5.2.1
        have x7 : s so ≤ 30 := by
          have : so = 0 ∨ so = 1 ∨ so = 2 ∨ so = 3 := by omega
          rcases this with y | y | y | y
          · rw [y]; omega
          · rw [y]; omega
          · rw [y]; omega
          · rw [y]; omega
        rw [g2, if_neg (by omega)]
        refine ⟨?_, x6, by omega⟩
        rw [e_Fa_lookUp, q_Fa_lookUp_0]
        simp (disch := omega) only [s1, s3, hle, Nat.one_ne_zero, ↓bc_1, ↓bc_4, ↓br_4_8, ↓bc_6, ↓bx_6, bl_6, ↓br_4_9, ↓bc_7, ↓bx_7, bl_7, ↓b_t0, ↓b_t1, ↓b_t2, ↓b_t3, ↓b_t4, ↓b_t5, ↓b_t6, Nat.zero_add, Nat.le_refl, b_rs, b_rn, b_r2, b_ss, b_sn, b_bt, b_bf, b_b0, b_b1, b_bw, b_shl, b_or, b_iv, b_jv, b_sI, b_sJ, ↓z_hl, z_b0, z_b1, z_b2, b_and1c, b_and1z, if_true, if_false, nI_add, pk_mul, b_cl, b_lt, b_le, b_eq, b_eq0, b_le0, b_0lt, b_0le, b_lt0]
        rw [if_neg (by omega), if_pos c4]
      · rw [g.2 (Or.inr c4), if_pos rfl]
        refine ⟨_, ?_, x_C_fail⟩
        rw [e_Fa_lookUp, q_Fa_lookUp_0]
        simp (disch := omega) only [s1, s2, s3, hle, Nat.one_ne_zero, ↓bc_1, ↓bc_4, ↓br_4_8, ↓bc_6, ↓bx_6, bl_6, ↓br_4_9, ↓bc_7, ↓bx_7, bl_7, ↓b_t0, ↓b_t1, ↓b_t2, ↓b_t3, ↓b_t4, ↓b_t5, ↓b_t6, Nat.zero_add, Nat.le_refl, b_rs, b_rn, b_r2, b_ss, b_sn, b_bt, b_bf, b_b0, b_b1, b_bw, b_shl, b_or, b_iv, b_jv, b_sI, b_sJ, ↓z_hl, z_b0, z_b1, z_b2, b_and1c, b_and1z, if_true, if_false, nI_add, pk_mul, b_cl, b_lt, b_le, b_eq, b_eq0, b_le0, b_0lt, b_0le, b_lt0]
        rw [if_neg (by omega), if_neg c4]
  · rw [if_neg c1]
    rw [Bool.not_eq_true] at c1
    rw [c1] at s1
    refine ⟨_, ?_, x_C_fail⟩
    rw [e_Fa_lookUp, q_Fa_lookUp_0]
    simp (disch := omega) only [s1, s2, ↓bc_1, ↓bc_4, ↓br_4_8, ↓bc_6, ↓bx_6, bl_6, ↓br_4_9, ↓bc_7, ↓bx_7, bl_7, ↓b_t0, ↓b_t1, ↓b_t2, ↓b_t3, ↓b_t4, ↓b_t5, ↓b_t6, Nat.zero_add, Nat.le_refl, b_rs, b_rn, b_r2, b_ss, b_sn, b_bt, b_bf, b_b0, b_b1, b_bw, b_shl, b_or, b_iv, b_jv, b_sI, b_sJ, ↓z_hl, z_b0, z_b1, z_b2, b_and1c, b_and1z, if_true, if_false, nI_add, pk_mul, b_cl, b_lt, b_le, b_eq, b_eq0, b_le0, b_0lt, b_0le, b_lt0]
theorem s_Fa_takeName4 (hX : l_X m j n q) (h : l_C m j n q p) (hN : r_N (m 6) (m 7) (m 4 6) (j 5) N s) (hc : m 4 6 ≤ 30) (hD : 4 ≤ D) {so : Nat} (hs : so ≤ 3) : match k_look (m 2) n q (fun k => N (w_base so + k)) (s so) p with
    | .ok k => ∃ m2 j2, a_ex X tx a_T D 44 [.ref 4, .ref 1, .int (nI so)] (b_h m j w) = some (b_h m2 j2 w, some (.int (nI k))) ∧ o_C m m2 j j2 n q (w_nx (m 2) n q p) ∧ k < s so ∧ k < 30
    | .error e => ∃ m2, a_ex X tx a_T D 44 [.ref 4, .ref 1, .int (nI so)] (b_h m j w) = some (b_h m2 j w, some (.int (nI 4294967295))) ∧ x_C m m2 j j e := by
  obtain ⟨d, rfl⟩ : ∃ d, D = d + 1 := ⟨D - 1, by omega⟩
  have s1 := s_Fa_lookUp4 (X := X) (tx := tx) (D := d) (w := w) hX h hN hc (by omega) hs
  cases hr : k_look (m 2) n q (fun k => N (w_base so + k)) (s so) p with
  | ok k =>
    rw [hr] at s1
    obtain ⟨e1, e2, e3⟩ := s1
    have hk := k_am_lo hr
    obtain ⟨m2, j2, f1, f2⟩ := s_Ta_stepT (X := X) (tx := tx) (D := d) (m := m) (j := j) (w := w) hX h (w_kd_in (by omega) (by omega)) (by omega)
    refine ⟨m2, j2, ?_, f2, e2, e3⟩
    rw [e_Fa_takeName, q_Fa_takeName_0]
    simp (disch := omega) only [e1, f1, ↓bc_4, ↓bc_1, ↓b_t0, ↓b_t1, ↓b_t2, ↓b_t3, ↓b_t4, ↓b_t5, ↓b_t6, Nat.zero_add, Nat.le_refl, b_rs, b_rn, b_r2, b_ss, b_sn, b_bt, b_bf, b_b0, b_b1, b_bw, b_shl, b_or, b_iv, b_jv, b_sI, b_sJ, ↓z_hl, z_b0, z_b1, z_b2, b_and1c, b_and1z, if_true, if_false, nI_add, pk_mul, b_cl, b_lt, b_le, b_eq, b_eq0, b_le0, b_0lt, b_0le, b_lt0]
    rw [if_neg (by omega)]
  | error e =>
    rw [hr] at s1
    obtain ⟨m2, e1, e2⟩ := s1
    refine ⟨m2, ?_, e2⟩
    rw [e_Fa_takeName, q_Fa_takeName_0]
    simp (disch := omega) only [e1, ↓bc_4, ↓bc_1, ↓b_t0, ↓b_t1, ↓b_t2, ↓b_t3, ↓b_t4, ↓b_t5, ↓b_t6, Nat.zero_add, Nat.le_refl, b_rs, b_rn, b_r2, b_ss, b_sn, b_bt, b_bf, b_b0, b_b1, b_bw, b_shl, b_or, b_iv, b_jv, b_sI, b_sJ, ↓z_hl, z_b0, z_b1, z_b2, b_and1c, b_and1z, if_true, if_false, nI_add, pk_mul, b_cl, b_lt, b_le, b_eq, b_eq0, b_le0, b_0lt, b_0le, b_lt0]
end NC
