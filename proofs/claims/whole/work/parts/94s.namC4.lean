/-! TEXTS: the class takes a new name -/
theorem l_C_c {m m2 j j2 : Nat → Nat → Nat} {n q p : Nat} (h : l_C m j n q p) (h1 : m2 1 = m 1) (h2 : m2 2 = m 2) (h3 : j2 1 = j 1) : l_C m2 j2 n q p := by
  unfold l_C at h ⊢
  rw [h1, h2, h3]
  exact h
def w_nnM (m : Nat → Nat → Nat) (so nu : Nat) : Nat → Nat → Nat := b_r (b_r (b_r m 17 (b_s (m 17) (m 15 6) so)) 18 (b_s (m 18) (m 15 6) nu)) 15 (b_s (m 15) 6 (m 15 6 + 1))
def w_nnJ (m j : Nat → Nat → Nat) (l : Nat) : Nat → Nat → Nat := b_r j 16 (b_s (j 16) (m 15 6) l)
section NN
variable {X : Nat × (Nat → Int32)} {tx : List Int32} {D : Nat} {m j : Nat → Nat → Nat} {w : (Nat × Nat) × Bool} {n q p : Nat} {N s : Nat → Nat}
theorem s_Fa_takeNewName (hX : l_X m j n q) (h : l_C m j n q p) (hN : r_N (m 17) (m 18) (m 15 6) (j 16) N s) (hc : m 15 6 < 30) (hD : 4 ≤ D) {so nu : Nat} (hso : so ≤ 3) (hnu : nu < 30) : match k_fresh (m 2) n q N s p with
    | .ok p2 => ∃ m2 j2, a_ex X tx a_T D 42 [.ref 15, .ref 1, .int (nI so), .int (nI nu)] (b_h m j w) = some (b_h m2 j2 w, some (.int (nI 1))) ∧ o_C (w_nnM m so nu) m2 (w_nnJ m j (w_le (m 2) n q p)) j2 n q p2 ∧ w_le (m 2) n q p < 34359738368
    | .error e => ∃ m2, a_ex X tx a_T D 42 [.ref 15, .ref 1, .int (nI so), .int (nI nu)] (b_h m j w) = some (b_h m2 j w, some (.int (nI 0))) ∧ x_C m m2 j j e := by
  obtain ⟨d, rfl⟩ : ∃ d, D = d + 1 := ⟨D - 1, by omega⟩
  have s1 : a_ex X tx a_T d 10 [.ref 1] (b_h m j w) = some (b_h m j w, some (.int (nI (b_b (k_isn (m 2) n q p))))) := s_Ta_atName hX h (by omega)
  have s2 := fun k => s_Ta_fail (X := X) (tx := tx) (D := d) (m := m) (j := j) (w := w) h (by omega) (k := k)
  unfold k_fresh
  by_cases c1 : k_isn (m 2) n q p = true
  · rw [if_pos c1]
    rw [c1] at s1
    have hk := k_isn_1 c1
    have hle := l_C_le h hk
    have hl := w_le_lt hX.2.2.1 hk
    have s3 := s_Fa_findName15 (X := X) (tx := tx) (D := d) (m := m) (j := j) (w := w) (Nat.le_of_lt hc) (l := w_le (m 2) n q p) (by omega) (fun i hi => by have := (hN.2.1 i hi).2.2.2; omega) (by omega)
    rw [r_N_used hN (Nat.le_of_lt hc)]
    have g1 := w_fd_le (g := j 16) (L := w_le (m 2) n q p) (many := m 15 6)
    generalize w_fd (j 16) (w_le (m 2) n q p) (m 15 6) = r at s3 g1 ⊢
    by_cases c2 : r = 4294967295
    · rw [decide_eq_false (fun x => x c2), if_neg (by decide)]
      subst c2
      have e1 : w_nnM m so nu 1 = m 1 := by unfold w_nnM; rw [b_rn (by decide), b_rn (by decide), b_rn (by decide)]
      have e2 : w_nnM m so nu 2 = m 2 := by unfold w_nnM; rw [b_rn (by decide), b_rn (by decide), b_rn (by decide)]
      have e3 : w_nnJ m j (w_le (m 2) n q p) 1 = j 1 := by unfold w_nnJ; rw [b_rn (by decide)]
      have e4 : w_nnJ m j (w_le (m 2) n q p) 3 = j 3 := by unfold w_nnJ; rw [b_rn (by decide)]
      have hX2 := l_X_fr hX e2 e4
      have h2 := l_C_c h e1 e2 e3
      obtain ⟨m2, j2, f1, f2⟩ := s_Ta_stepT (X := X) (tx := tx) (D := d) (w := w) hX2 h2 (by rw [e2]; exact w_kd_in (by omega) (by omega)) (by omega)
      rw [e2] at f2
      refine ⟨m2, j2, ?_, f2, hl⟩
      unfold w_nnM w_nnJ at f1
      rw [e_Fa_takeNewName, q_Fa_takeNewName_0]
      simp (disch := omega) only [s1, s3, hle, f1, Nat.one_ne_zero, ↓bc_1, ↓bc_15, ↓br_15_7, ↓bc_16, ↓bx_16, bl_16, ↓br_15_8, ↓bc_17, ↓bx_17, bl_17, ↓br_15_9, ↓bc_18, ↓bx_18, bl_18, ↓b_t0, ↓b_t1, ↓b_t2, ↓b_t3, ↓b_t4, ↓b_t5, ↓b_t6, Nat.zero_add, Nat.le_refl, b_rs, b_rn, b_r2, b_ss, b_sn, b_bt, b_bf, b_b0, b_b1, b_bw, b_shl, b_or, b_iv, b_jv, b_sI, b_sJ, ↓z_hl, z_b0, z_b1, z_b2, b_and1c, b_and1z, if_true, if_false, nI_add, pk_mul, b_cl, b_lt, b_le, b_eq, b_eq0, b_le0, b_0lt, b_0le, b_lt0]
      rw [if_pos hc]
    · rw [decide_eq_true c2, if_pos rfl]
      refine ⟨_, ?_, x_C_fail⟩
      rw [e_Fa_takeNewName, q_Fa_takeNewName_0]
      simp (disch := omega) only [s1, s2, s3, hle, Nat.one_ne_zero, ↓bc_1, ↓bc_15, ↓br_15_7, ↓bc_16, ↓bx_16, bl_16, ↓br_15_8, ↓bc_17, ↓bx_17, bl_17, ↓br_15_9, ↓bc_18, ↓bx_18, bl_18, ↓b_t0, ↓b_t1, ↓b_t2, ↓b_t3, ↓b_t4, ↓b_t5, ↓b_t6, Nat.zero_add, Nat.le_refl, b_rs, b_rn, b_r2, b_ss, b_sn, b_bt, b_bf, b_b0, b_b1, b_bw, b_shl, b_or, b_iv, b_jv, b_sI, b_sJ, ↓z_hl, z_b0, z_b1, z_b2, b_and1c, b_and1z, if_true, if_false, nI_add, pk_mul, b_cl, b_lt, b_le, b_eq, b_eq0, b_le0, b_0lt, b_0le, b_lt0]
      rw [if_neg (by omega)]
  · rw [if_neg c1]
    rw [Bool.not_eq_true] at c1
    rw [c1] at s1
    refine ⟨_, ?_, x_C_fail⟩
    rw [e_Fa_takeNewName, q_Fa_takeNewName_0]
    simp (disch := omega) only [s1, s2, ↓bc_1, ↓bc_15, ↓br_15_7, ↓bc_16, ↓bx_16, bl_16, ↓br_15_8, ↓bc_17, ↓bx_17, bl_17, ↓br_15_9, ↓bc_18, ↓bx_18, bl_18, ↓b_t0, ↓b_t1, ↓b_t2, ↓b_t3, ↓b_t4, ↓b_t5, ↓b_t6, Nat.zero_add, Nat.le_refl, b_rs, b_rn, b_r2, b_ss, b_sn, b_bt, b_bf, b_b0, b_b1, b_bw, b_shl, b_or, b_iv, b_jv, b_sI, b_sJ, ↓z_hl, z_b0, z_b1, z_b2, b_and1c, b_and1z, if_true, if_false, nI_add, pk_mul, b_cl, b_lt, b_le, b_eq, b_eq0, b_le0, b_0lt, b_0le, b_lt0]
end NN
