/-! TEXTS: the reference takes a new name -/
theorem b_0leM : ((0 : Int32) ≤ nI 4294967295) = False := eq_false (by decide +kernel)
theorem b_lt0M : (nI 4294967295 < (0 : Int32)) = True := eq_true (by decide +kernel)
theorem b_0leT {r : Nat} (h : r < 2147483648) : ((0 : Int32) ≤ nI r) = True := b_0le h
theorem b_lt0T {r : Nat} (h : r < 2147483648) : (nI r < (0 : Int32)) = False := b_lt0 h
section TM4
variable {X : Nat × (Nat → Int32)} {tx : List Int32} {D : Nat} {m j : Nat → Nat → Nat} {w : (Nat × Nat) × Bool} {b : Nat → Nat} {n q p : Nat}
theorem s_Mo_fresh (hX : y_X m j b n q) (h : l_M m j b n q p) (hD : 4 ≤ D) {g s : Nat → Nat} (hN : y_N j g s) (hs : ∀ x, x < 4 → m 237 x = s x) {to : Nat} (ht : to < 60) : match k_fresh b n q g s p with
    | .ok p2 => ∃ m2 j2, a_ex X tx a_T D 220 [.ref 234, .int (nI to)] (b_h m j w) = some (b_h m2 j2 w, some (.int (nI 1))) ∧ o_M m m2 (b_r j 239 (b_s (j 239) to (w_conv (w_le b n q p)))) j2 b n q p2
    | .error e => ∃ m2 j2, a_ex X tx a_T D 220 [.ref 234, .int (nI to)] (b_h m j w) = some (b_h m2 j2 w, some (.int (nI 0))) ∧ x_M m m2 j j2 e := by
  obtain ⟨d, rfl⟩ : ∃ d, D = d + 1 := ⟨D - 1, by omega⟩
  have n1 := y_N_K hN
  have n2 := y_N_M hN
  have n3 := y_N_T hN
  have n4 := y_N_E hN
  have n5 := y_N_n0 hN
  have n6 := y_N_n1 hN
  have n7 := y_N_n2 hN
  have n8 := y_N_n3 hN
  have a0 := hs 0 (by decide)
  have a1 := hs 1 (by decide)
  have a2 := hs 2 (by decide)
  have a3 := hs 3 (by decide)
  have s1 := s_Mo_isName (X := X) (tx := tx) (D := d) (m := m) (j := j) (w := w) hX h (by omega)
  have s2 := fun k => s_Mo_bad (X := X) (tx := tx) (D := d) (m := m) (j := j) (w := w) h (by omega) (k := k)
  unfold k_fresh
  by_cases c1 : k_isn b n q p = true
  · rw [if_pos c1]
    rw [c1] at s1
    have hk := k_isn_1 c1
    have f0 := s_Mo_find (X := X) (tx := tx) (D := d) (m := m) (j := j) (w := w) h (y_X_b hX) hk (by omega) (fr := 30) (by omega) n5
    have f1 := s_Mo_find (X := X) (tx := tx) (D := d) (m := m) (j := j) (w := w) h (y_X_b hX) hk (by omega) (fr := 36) (g := fun k => g (6 + k)) (by omega) n6
    have f2 := s_Mo_find (X := X) (tx := tx) (D := d) (m := m) (j := j) (w := w) h (y_X_b hX) hk (by omega) (fr := 42) (g := fun k => g (12 + k)) (by omega) n7
    have f3 := s_Mo_find (X := X) (tx := tx) (D := d) (m := m) (j := j) (w := w) h (y_X_b hX) hk (by omega) (fr := 50) (g := fun k => g (20 + k)) (by omega) n8
    have g0 := w_fd_le (g := g) (L := w_conv (w_le b n q p)) (many := s 0)
    have g1 := w_fd_le (g := fun k => g (6 + k)) (L := w_conv (w_le b n q p)) (many := s 1)
    have g2 := w_fd_le (g := fun k => g (12 + k)) (L := w_conv (w_le b n q p)) (many := s 2)
    have g3 := w_fd_le (g := fun k => g (20 + k)) (L := w_conv (w_le b n q p)) (many := s 3)
    have hu : k_used g s (w_conv (w_le b n q p)) = decide (w_fd g (w_conv (w_le b n q p)) (s 0) ≠ 4294967295 ∨ w_fd (fun k => g (6 + k)) (w_conv (w_le b n q p)) (s 1) ≠ 4294967295 ∨ w_fd (fun k => g (12 + k)) (w_conv (w_le b n q p)) (s 2) ≠ 4294967295 ∨ w_fd (fun k => g (20 + k)) (w_conv (w_le b n q p)) (s 3) ≠ 4294967295) := rfl
    rw [hu]
    generalize w_fd g (w_conv (w_le b n q p)) (s 0) = r0 at f0 g0 ⊢
    generalize w_fd (fun k => g (6 + k)) (w_conv (w_le b n q p)) (s 1) = r1 at f1 g1 ⊢
    generalize w_fd (fun k => g (12 + k)) (w_conv (w_le b n q p)) (s 2) = r2 at f2 g2 ⊢
    generalize w_fd (fun k => g (20 + k)) (w_conv (w_le b n q p)) (s 3) = r3 at f3 g3 ⊢
    clear n5 n6 n7 n8 hu hN
    by_cases c2 : r0 ≠ 4294967295
    · rw [decide_eq_true (Or.inl c2), if_pos rfl]
      have t0 := b_0leT (r := r0) (by omega)
      refine ⟨_, j, ?_, x_M_bad⟩
      rw [e_Mo_fresh, q_Mo_fresh_0]
      simp (disch := omega) only [s1, s2, a0, f0, t0, Nat.one_ne_zero, ↓bc_234, ↓br_234_7, ↓bc_237, ↓bx_237, bl_237, ↓br_234_9, ↓bc_239, ↓bx_239, bl_239, ↓b_t0, ↓b_t1, ↓b_t2, ↓b_t3, ↓b_t4, ↓b_t5, ↓b_t6, Nat.zero_add, Nat.le_refl, b_rs, b_rn, b_r2, b_ss, b_sn, b_bt, b_bf, b_b0, b_b1, b_bw, b_shl, b_or, b_iv, b_jv, b_sI, b_sJ, ↓z_hl, z_b0, z_b1, z_b2, b_and1c, b_and1z, if_true, if_false, nI_add, pk_mul, b_cl, b_lt, b_le, b_eq, b_eq0, b_le0, b_0lt, b_0le, b_lt0]
    · have c2 : r0 = 4294967295 := Classical.byContradiction c2
      subst c2
      by_cases c3 : r1 ≠ 4294967295
      · rw [decide_eq_true (Or.inr (Or.inl c3)), if_pos rfl]
        have t0 := b_0leT (r := r1) (by omega)
        refine ⟨_, j, ?_, x_M_bad⟩
        rw [e_Mo_fresh, q_Mo_fresh_0]
        simp (disch := omega) only [s1, s2, a0, a1, f0, f1, t0, b_0leM, Nat.one_ne_zero, ↓bc_234, ↓br_234_7, ↓bc_237, ↓bx_237, bl_237, ↓br_234_9, ↓bc_239, ↓bx_239, bl_239, ↓b_t0, ↓b_t1, ↓b_t2, ↓b_t3, ↓b_t4, ↓b_t5, ↓b_t6, Nat.zero_add, Nat.le_refl, b_rs, b_rn, b_r2, b_ss, b_sn, b_bt, b_bf, b_b0, b_b1, b_bw, b_shl, b_or, b_iv, b_jv, b_sI, b_sJ, ↓z_hl, z_b0, z_b1, z_b2, b_and1c, b_and1z, if_true, if_false, nI_add, pk_mul, b_cl, b_lt, b_le, b_eq, b_eq0, b_le0, b_0lt, b_0le, b_lt0]
      · have c3 : r1 = 4294967295 := Classical.byContradiction c3
        subst c3
        by_cases c4 : r2 ≠ 4294967295
        · rw [decide_eq_true (Or.inr (Or.inr (Or.inl c4))), if_pos rfl]
          have t0 := b_0leT (r := r2) (by omega)
          refine ⟨_, j, ?_, x_M_bad⟩
          rw [e_Mo_fresh, q_Mo_fresh_0]
          simp (disch := omega) only [s1, s2, a0, a1, a2, f0, f1, f2, t0, b_0leM, Nat.one_ne_zero, ↓bc_234, ↓br_234_7, ↓bc_237, ↓bx_237, bl_237, ↓br_234_9, ↓bc_239, ↓bx_239, bl_239, ↓b_t0, ↓b_t1, ↓b_t2, ↓b_t3, ↓b_t4, ↓b_t5, ↓b_t6, Nat.zero_add, Nat.le_refl, b_rs, b_rn, b_r2, b_ss, b_sn, b_bt, b_bf, b_b0, b_b1, b_bw, b_shl, b_or, b_iv, b_jv, b_sI, b_sJ, ↓z_hl, z_b0, z_b1, z_b2, b_and1c, b_and1z, if_true, if_false, nI_add, pk_mul, b_cl, b_lt, b_le, b_eq, b_eq0, b_le0, b_0lt, b_0le, b_lt0]
        · have c4 : r2 = 4294967295 := Classical.byContradiction c4
          subst c4
          by_cases c5 : r3 ≠ 4294967295
          · rw [decide_eq_true (Or.inr (Or.inr (Or.inr c5))), if_pos rfl]
            have t0 := b_lt0T (r := r3) (by omega)
            refine ⟨_, j, ?_, x_M_bad⟩
            rw [e_Mo_fresh, q_Mo_fresh_0]
            simp (disch := omega) only [s1, s2, a0, a1, a2, a3, f0, f1, f2, f3, t0, b_0leM, Nat.one_ne_zero, ↓bc_234, ↓br_234_7, ↓bc_237, ↓bx_237, bl_237, ↓br_234_9, ↓bc_239, ↓bx_239, bl_239, ↓b_t0, ↓b_t1, ↓b_t2, ↓b_t3, ↓b_t4, ↓b_t5, ↓b_t6, Nat.zero_add, Nat.le_refl, b_rs, b_rn, b_r2, b_ss, b_sn, b_bt, b_bf, b_b0, b_b1, b_bw, b_shl, b_or, b_iv, b_jv, b_sI, b_sJ, ↓z_hl, z_b0, z_b1, z_b2, b_and1c, b_and1z, if_true, if_false, nI_add, pk_mul, b_cl, b_lt, b_le, b_eq, b_eq0, b_le0, b_0lt, b_0le, b_lt0]
          · have c5 : r3 = 4294967295 := Classical.byContradiction c5
            subst c5
            rw [decide_eq_false (by omega), if_neg (by decide)]
            have hw := l_M_wo h hk
            have hl : l_M m (b_r j 239 (b_s (j 239) to (w_conv (w_le b n q p)))) b n q p := l_M_c h rfl (b_rn (by decide))
            have hX2 : y_X m (b_r j 239 (b_s (j 239) to (w_conv (w_le b n q p)))) b n q := y_X_fr hX rfl (b_rn (by decide))
            obtain ⟨m2, j2, e1, e2, e3⟩ := s_Mo_nextT (X := X) (tx := tx) (D := d) (w := w) hX2 hl (w_kd_in (by omega) (by omega)) (by omega)
            refine ⟨m2, j2, ?_, e2⟩
            rw [e_Mo_fresh, q_Mo_fresh_0]
            simp (disch := omega) only [s1, a0, a1, a2, a3, f0, f1, f2, f3, hw, e1, b_0leM, b_lt0M, Nat.one_ne_zero, ↓bc_234, ↓br_234_7, ↓bc_237, ↓bx_237, bl_237, ↓br_234_9, ↓bc_239, ↓bx_239, bl_239, ↓b_t0, ↓b_t1, ↓b_t2, ↓b_t3, ↓b_t4, ↓b_t5, ↓b_t6, Nat.zero_add, Nat.le_refl, b_rs, b_rn, b_r2, b_ss, b_sn, b_bt, b_bf, b_b0, b_b1, b_bw, b_shl, b_or, b_iv, b_jv, b_sI, b_sJ, ↓z_hl, z_b0, z_b1, z_b2, b_and1c, b_and1z, if_true, if_false, nI_add, pk_mul, b_cl, b_lt, b_le, b_eq, b_eq0, b_le0, b_0lt, b_0le, b_lt0]
  · rw [if_neg c1]
    rw [Bool.not_eq_true] at c1
    rw [c1] at s1
    refine ⟨_, j, ?_, x_M_bad⟩
    rw [e_Mo_fresh, q_Mo_fresh_0]
    simp (disch := omega) only [s1, s2, ↓bc_234, ↓br_234_7, ↓bc_237, ↓bx_237, bl_237, ↓br_234_9, ↓bc_239, ↓bx_239, bl_239, ↓b_t0, ↓b_t1, ↓b_t2, ↓b_t3, ↓b_t4, ↓b_t5, ↓b_t6, Nat.zero_add, Nat.le_refl, b_rs, b_rn, b_r2, b_ss, b_sn, b_bt, b_bf, b_b0, b_b1, b_bw, b_shl, b_or, b_iv, b_jv, b_sI, b_sJ, ↓z_hl, z_b0, z_b1, z_b2, b_and1c, b_and1z, if_true, if_false, nI_add, pk_mul, b_cl, b_lt, b_le, b_eq, b_eq0, b_le0, b_0lt, b_0le, b_lt0]
end TM4
