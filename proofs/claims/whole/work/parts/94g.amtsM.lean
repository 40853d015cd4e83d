/-! TEXTS: the reference reads amounts -/
theorem b_rid {m : Nat → Nat → Nat} {c : Nat} {f : Nat → Nat} (h : m c = f) : b_r m c f = m := by
  funext i
  unfold b_r
  split
  · rename_i h2; subst h2; exact h.symm
  · rfl
theorem k_am_lo {b : Nat → Nat} {n q : Nat} {g : Nat → Nat} {many p k : Nat} (h : k_look b n q g many p = .ok k) : w_kd b n q p = 1 := by
  unfold k_look at h
  by_cases c : k_isn b n q p = true
  · exact k_isn_1 c
  · rw [if_neg c] at h
    exact absurd h (by simp only [reduceCtorEq, not_false_eq_true])
section AM
variable {X : Nat × (Nat → Int32)} {tx : List Int32} {D : Nat} {m j : Nat → Nat → Nat} {w : (Nat × Nat) × Bool} {b : Nat → Nat} {n q p : Nat}
theorem s_Mo_readKinds {s g : Nat → Nat} {dk to : Nat} (h : y_S m j b n q s g dk p) (hD : 6 ≤ D) (h4 : 4 ≤ to) (ht : to + 6 ≤ 157) (hz : ∀ k, k < 6 → s (to + k) = 0) : y_A m j w b n q g dk (k_am b n q g (s 0) to 7 s p) (a_ex X tx a_T D 224 [.ref 234, .int (nI to)] (b_h m j w)) := by
  obtain ⟨d, rfl⟩ : ∃ d, D = d + 1 := ⟨D - 1, by omega⟩
  -- what the second loop answers
  have l2 : ∀ x : Nat, ∀ F, 7 < F → y_A m j w b n q g dk (k_am b n q g (s 0) to 7 s p) (a_go X tx (a_ex X tx a_T d) k_Mo_readKinds_0 F 14 [.ref 234, .int (nI to), .int (nI x)] (b_h m j w)) := by
    intro x F hF
    refine z_run (Q := y_A m j w b n q g dk (k_am b n q g (s 0) to 7 s p)) (fun c L y => ∃ m' j' s' p' x', L = [.ref 234, .int (nI to), .int (nI x')] ∧ y = b_h m' j' w ∧ y_S m' j' b n q s' g dk p' ∧ y_fr m m' j j' ∧ k_am b n q g (s 0) to 7 s p = k_am b n q g (s 0) to c s' p' ∧ w_zn s' to < c ∧ ∀ i, i < 4 → s' i = s i) 0 ?_ 7 _ _ ⟨m, j, s, p, x, rfl, rfl, h, y_fr_r, rfl, by have := w_zn_le (s := s) (to := to); omega, fun _ _ => rfl⟩ F (by omega)
    rintro c L y ⟨m', j', s', p', x', rfl, rfl, hS, hf, hk, hc, hi⟩ f _
    obtain ⟨c, rfl⟩ : ∃ c2, c = c2 + 1 := ⟨c - 1, by omega⟩
    rw [l_Mo_readKinds_14, q_Mo_readKinds_14]
    obtain ⟨x1, x2, x3, x4, x5, x6⟩ := id hS
    have a0 : m' 237 0 = s 0 := (x4 0 (by omega)).1.trans (hi 0 (by omega))
    have s1 := s_Mo_isSign (X := X) (tx := tx) (D := d) (m := m') (j := j') (w := w) x1 x2 (by omega) (c := 59) (by omega) (by omega)
    have n0 := y_N_n0 x3
    have n1 := y_N_K x3
    rw [hi 0 (by omega)] at n0 n1
    have s2 := s_Mo_looksAt (X := X) (tx := tx) (D := d) (m := m') (j := j') (w := w) x1 x2 (by omega) (fr := 30) (by omega) n0
    by_cases c1 : w_kd b n q p' = 59
    · left
      rw [decide_eq_true c1] at s1
      have hr := hk.trans (k_am_1 c1)
      refine y_A_o hr ?_ (hS) (hf)
      simp (disch := omega) only [s1, Nat.one_ne_zero, ↓bc_234, ↓br_234_7, ↓bc_237, ↓bx_237, bl_237, ↓b_t0, ↓b_t1, ↓b_t2, ↓b_t3, ↓b_t4, ↓b_t5, ↓b_t6, Nat.zero_add, Nat.le_refl, b_rs, b_rn, b_r2, b_ss, b_sn, b_bt, b_bf, b_b0, b_b1, b_bw, b_shl, b_or, b_iv, b_jv, b_sI, b_sJ, ↓z_hl, z_b0, z_b1, z_b2, b_and1c, b_and1z, if_true, if_false, nI_add, pk_mul, b_cl, b_lt, b_le, b_eq, b_eq0, b_le0, b_0lt, b_0le, b_lt0]
    · rw [decide_eq_false c1] at s1
      cases h2 : k_look b n q g (s 0) p' with
      | error e =>
        left
        rw [h2] at s2
        obtain ⟨m2, j2, e1, e2⟩ := s2
        have hr := hk.trans (k_am_2 c1 h2)
        refine y_A_e hr ?_ (y_E_t hf (y_E_x e2))
        simp (disch := omega) only [s1, a0, e1, ↓bc_234, ↓br_234_7, ↓bc_237, ↓bx_237, bl_237, ↓b_t0, ↓b_t1, ↓b_t2, ↓b_t3, ↓b_t4, ↓b_t5, ↓b_t6, Nat.zero_add, Nat.le_refl, b_rs, b_rn, b_r2, b_ss, b_sn, b_bt, b_bf, b_b0, b_b1, b_bw, b_shl, b_or, b_iv, b_jv, b_sI, b_sJ, ↓z_hl, z_b0, z_b1, z_b2, b_and1c, b_and1z, if_true, if_false, nI_add, pk_mul, b_cl, b_lt, b_le, b_eq, b_eq0, b_le0, b_0lt, b_0le, b_lt0]
      | ok k =>
        rw [h2] at s2
        obtain ⟨k1, s2⟩ := s2
        obtain ⟨hS2, hf2⟩ := y_S_18 (v := k) hS
        have a1 : m' 237 (to + k) = s' (to + k) := (x4 (to + k) (by omega)).1
        by_cases c2 : s' (to + k) = 0
        · rw [c2] at a1
          obtain ⟨z1, z2, z3, z4, z5, z6⟩ := id hS2
          have hk1 := k_am_lo h2
          obtain ⟨m3, j3, e1, e2, _⟩ := s_Mo_nextT (X := X) (tx := tx) (D := d) (w := w) z1 z2 (w_kd_in (by omega) (by omega)) (by omega)
          obtain ⟨hS3, hf3⟩ := y_S_o hS2 e2
          obtain ⟨v1, v2, v3, v4, v5, v6⟩ := id hS3
          have s3 := s_Mo_puts (X := X) (tx := tx) (D := d) (m := m3) (j := j3) (w := w) v1 v2 (by omega) (to := to + k) (lo := 1) (hi := 9) (by omega) (by omega) (by omega)
          cases h3 : k_num b n q 1 9 (w_nx b n q p') with
          | error e =>
            left
            rw [h3] at s3
            obtain ⟨m4, j4, e3, e4⟩ := s3
            have hr := hk.trans (k_am_4 c1 h2 c2 h3)
            refine y_A_e hr ?_ (y_E_t hf (y_E_t hf2 (y_E_t hf3 (y_E_x e4))))
            simp (disch := omega) only [s1, a0, s2, a1, e1, e3, Nat.one_ne_zero, ↓bc_234, ↓br_234_7, ↓bc_237, ↓bx_237, bl_237, ↓b_t0, ↓b_t1, ↓b_t2, ↓b_t3, ↓b_t4, ↓b_t5, ↓b_t6, Nat.zero_add, Nat.le_refl, b_rs, b_rn, b_r2, b_ss, b_sn, b_bt, b_bf, b_b0, b_b1, b_bw, b_shl, b_or, b_iv, b_jv, b_sI, b_sJ, ↓z_hl, z_b0, z_b1, z_b2, b_and1c, b_and1z, if_true, if_false, nI_add, pk_mul, b_cl, b_lt, b_le, b_eq, b_eq0, b_le0, b_0lt, b_0le, b_lt0]
          | ok r =>
            right
            rw [h3] at s3
            obtain ⟨m4, j4, e3, e4, e5, e6, e7⟩ := s3
            obtain ⟨hS4, hf4⟩ := y_S_o hS3 e4
            obtain ⟨hS5, hf5⟩ := y_S_put (v := r.1) (to := to + k) hS4 (by omega) e7
            have e8 : m3 237 = m4 237 := (e4.2.2.1 237 (by decide)).symm
            rw [e8] at e3
            have hz2 := w_zn_s (s := s') (to := to) (k := k) (v := r.1) (by omega) c2 (by omega)
            refine ⟨c, _, _, Nat.lt_succ_self c, ⟨b_r m4 237 (b_s (m4 237) (to + k) r.1), j4, b_s s' (to + k) r.1, r.2, k, rfl, rfl, hS5, y_fr_t hf (y_fr_t hf2 (y_fr_t hf3 (y_fr_t hf4 hf5))), hk.trans (k_am_5 c1 h2 c2 h3), by omega, fun i hi2 => by rw [b_sn (by omega)]; exact hi i hi2⟩, ?_⟩
            simp (disch := omega) only [s1, a0, s2, a1, e1, e3, Nat.one_ne_zero, ↓bc_234, ↓br_234_7, ↓bc_237, ↓bx_237, bl_237, ↓b_t0, ↓b_t1, ↓b_t2, ↓b_t3, ↓b_t4, ↓b_t5, ↓b_t6, Nat.zero_add, Nat.le_refl, b_rs, b_rn, b_r2, b_ss, b_sn, b_bt, b_bf, b_b0, b_b1, b_bw, b_shl, b_or, b_iv, b_jv, b_sI, b_sJ, ↓z_hl, z_b0, z_b1, z_b2, b_and1c, b_and1z, if_true, if_false, nI_add, pk_mul, b_cl, b_lt, b_le, b_eq, b_eq0, b_le0, b_0lt, b_0le, b_lt0]
        · left
          obtain ⟨z1, z2, z3, z4, z5, z6⟩ := id hS2
          have s4 := s_Mo_bad (X := X) (tx := tx) (D := d) (w := w) z2 (by omega) (k := 3)
          have hr := hk.trans (k_am_3 c1 h2 c2)
          refine y_A_e hr ?_ (y_E_t hf (y_E_t hf2 (y_E_x x_M_bad)))
          have a2 : s' (to + k) < 2147483648 := by have := (x4 (to + k) (by omega)).2; omega
          simp (disch := omega) only [s1, a0, s2, a1, s4, Nat.one_ne_zero, ↓bc_234, ↓br_234_7, ↓bc_237, ↓bx_237, bl_237, ↓b_t0, ↓b_t1, ↓b_t2, ↓b_t3, ↓b_t4, ↓b_t5, ↓b_t6, Nat.zero_add, Nat.le_refl, b_rs, b_rn, b_r2, b_ss, b_sn, b_bt, b_bf, b_b0, b_b1, b_bw, b_shl, b_or, b_iv, b_jv, b_sI, b_sJ, ↓z_hl, z_b0, z_b1, z_b2, b_and1c, b_and1z, if_true, if_false, nI_add, pk_mul, b_cl, b_lt, b_le, b_eq, b_eq0, b_le0, b_0lt, b_0le, b_lt0]
          rw [if_neg (by omega)]
  rw [e_Mo_readKinds, q_Mo_readKinds_0]
  have l1 : y_A m j w b n q g dk (k_am b n q g (s 0) to 7 s p) (a_go X tx (a_ex X tx a_T d) k_Mo_readKinds_0 (a_f1 + 1) 2 [.ref 234, .int (nI to), .int (nI 0)] (b_h m j w)) := by
    refine z_run (Q := y_A m j w b n q g dk (k_am b n q g (s 0) to 7 s p)) (fun c L y => ∃ i, c + i = 6 ∧ L = [.ref 234, .int (nI to), .int (nI i)] ∧ y = b_h m j w) 8 ?_ 6 _ _ ⟨0, by omega, rfl, rfl⟩ _ (z_fu (by omega))
    rintro c L y ⟨i, hc, rfl, rfl⟩ f hf
    rw [l_Mo_readKinds_2, q_Mo_readKinds_2]
    by_cases c1 : i = 6
    · left
      subst c1
      rw [if_pos (by decide +kernel)]
      have := l2 6 (f + 1) (by omega)
      rw [l_Mo_readKinds_14] at this
      exact this
    · right
      have a0 : m 237 (to + i) = 0 := ((y_S_s h) (to + i) (by omega)).1.trans (hz i (by omega))
      have a1 : b_r m 237 (b_s (m 237) (to + i) 0) = m := by rw [b_sid a0, b_rid rfl]
      refine ⟨c - 1, [.ref 234, .int (nI to), .int (nI (i + 1))], b_h m j w, by omega, ⟨i + 1, by omega, rfl, rfl⟩, ?_⟩
      simp (disch := omega) only [a1, ↓bc_234, ↓br_234_7, ↓bc_237, ↓bx_237, bl_237, ↓b_t0, ↓b_t1, ↓b_t2, ↓b_t3, ↓b_t4, ↓b_t5, ↓b_t6, Nat.zero_add, Nat.le_refl, b_rs, b_rn, b_r2, b_ss, b_sn, b_bt, b_bf, b_b0, b_b1, b_bw, b_shl, b_or, b_iv, b_jv, b_sI, b_sJ, ↓z_hl, z_b0, z_b1, z_b2, b_and1c, b_and1z, if_true, if_false, nI_add, pk_mul, b_cl, b_lt, b_le, b_eq, b_eq0, b_le0, b_0lt, b_0le, b_lt0]
      rw [if_neg (by omega)]
  rw [l_Mo_readKinds_2] at l1
  exact l1
end AM
