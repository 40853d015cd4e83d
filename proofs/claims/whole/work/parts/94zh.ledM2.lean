/-! LEDGERS: a line; the reference's side, further -/
section LG
variable {X : Nat × (Nat → Int32)} {tx : List Int32} {D d : Nat} {m j : Nat → Nat → Nat} {w : (Nat × Nat) × Bool} {b : Nat → Nat} {n q p : Nat} {S N : Nat → Nat} {ln a : Nat}
theorem s_Mo_ledgerLine (hX : y_X m j b n q) (h : l_M m j b n q p) (hS : m 236 = S) (hi : i_S S) (hN : j 239 = N) (hb : z_nb N S) (hl : m 234 41 = ln) (hln : ln ≤ 40) (hD : 9 ≤ D) : y_G m j w b n q ln (k_ll b n q N S ln p) (a_ex X tx a_T D 298 [.ref 234] (b_h m j w)) := by
  obtain ⟨d, rfl⟩ : ∃ d, D = d + 1 := ⟨D - 1, by omega⟩
  have hM := i_S_M hi
  have dW := fun {m j : Nat → Nat → Nat} {p : Nat} (h1 : y_X m j b n q) (h2 : l_M m j b n q p) k W (hk : k < 19) (hW : w_cf 7 (w_wl k) = W) => s_Mo_isWord (X := X) (tx := tx) (D := d) (m := m) (j := j) (w := w) h1 h2 (by omega) hk (w_ww hk hW)
  have d8 := dW hX h 8 6578553 (by decide) (by decide +kernel)
  have S1 : m 236 1 = S 1 := by rw [hS]
  unfold k_ll
  by_cases c8 : w_ky b n q p = 8
  · rw [if_pos c8]
    rw [decide_eq_true c8] at d8
    have hk : w_kd b n q p = 1 := ((w_ky_iff (by decide)).mp c8).1
    by_cases c : ln = 40
    · rw [if_pos c]
      have sb := s_Mo_bad (X := X) (tx := tx) (D := d) (m := m) (j := j) (w := w) h (by omega) (k := 4)
      rw [c] at hl
      refine y_G_e rfl ?_ (z_lE_x (ln := ln) z_lf_r x_M_bad)
      rw [e_Mo_ledgerLine, q_Mo_ledgerLine_0]
      simp (disch := omega) only [d8, hl, Nat.one_ne_zero, ↓bc_234, ↓br_234_6, ↓bc_236, ↓bx_236, bl_236, ↓br_234_8, ↓bc_238, ↓bx_238, bl_238, ↓b_t0, ↓b_t1, ↓b_t2, ↓b_t3, ↓b_t4, ↓b_t5, ↓b_t6, Nat.zero_add, Nat.le_refl, b_rs, b_rn, b_r2, b_ss, b_sn, b_bt, b_bf, b_b0, b_b1, b_bw, b_shl, b_or, b_iv, b_jv, b_sI, b_sJ, ↓z_hl, z_b0, z_b1, z_b2, b_and1c, b_and1z, if_true, if_false, nI_add, pk_mul, b_cl, b_lt, b_le, b_eq, b_eq0, b_le0, b_0lt, b_0le, b_lt0]
      rw [q_Mo_ledgerLine_21]
      simp (disch := omega) only [sb, hl, ↓bc_234, ↓br_234_6, ↓bc_236, ↓bx_236, bl_236, ↓br_234_8, ↓bc_238, ↓bx_238, bl_238, ↓b_t0, ↓b_t1, ↓b_t2, ↓b_t3, ↓b_t4, ↓b_t5, ↓b_t6, Nat.zero_add, Nat.le_refl, b_rs, b_rn, b_r2, b_ss, b_sn, b_bt, b_bf, b_b0, b_b1, b_bw, b_shl, b_or, b_iv, b_jv, b_sI, b_sJ, ↓z_hl, z_b0, z_b1, z_b2, b_and1c, b_and1z, if_true, if_false, nI_add, pk_mul, b_cl, b_lt, b_le, b_eq, b_eq0, b_le0, b_0lt, b_0le, b_lt0]
    · rw [if_neg c]
      generalize hm2 : b_r m 238 (b_s (b_s (m 238) (3 * ln) (m 234 18)) (3 * ln + 2) 4294967294) = m2
      have f2 : z_lf m m2 j j ln := by
        have := z_lf_w (z_lf_w (v := m 234 18) (z_lf_r (m := m) (j := j) (ln := ln)) (x := 3 * ln) (by omega)) (v := 4294967294) (x := 3 * ln + 2) (by omega)
        rw [b_r2, b_rs, hm2] at this
        exact this
      have v2 : ∀ c, c ≠ 238 → m2 c = m c := fun c hc => by rw [← hm2, b_rn hc]
      have X2 : y_X m2 j b n q := y_X_fr hX (v2 235 (by decide)) rfl
      obtain ⟨m3, j3, e3, o3, g3⟩ := s_Mo_nextT (X := X) (tx := tx) (D := d) (m := m2) (j := j) (w := w) X2 (l_M_c h (v2 234 (by decide)) rfl) (w_kd_in (by omega) (by omega)) (by omega)
      have X3 : y_X m3 j3 b n q := y_X_fr X2 (o3.2.2.1 235 (by decide)) (o3.2.2.2.1 240 (by decide))
      have f3 : z_lf m m3 j j3 ln := z_lf_t f2 (z_lf_o o3)
      have s4 := s_Mo_takes (X := X) (tx := tx) (D := d) (m := m3) (j := j3) (w := w) X3 o3.1 (by omega) (lo := 1) (hi := 60) (by omega) (by omega)
      unfold k_lgd
      cases q1 : k_num b n q 1 60 (w_nx b n q p) with
      | error e =>
        rw [q1] at s4
        obtain ⟨m4, j4, e4, x4⟩ := s4
        refine y_G_e rfl ?_ (z_lE_x f3 x4)
        rw [e_Mo_ledgerLine, q_Mo_ledgerLine_0]
        simp (disch := omega) only [d8, hl, Nat.one_ne_zero, ↓bc_234, ↓br_234_6, ↓bc_236, ↓bx_236, bl_236, ↓br_234_8, ↓bc_238, ↓bx_238, bl_238, ↓b_t0, ↓b_t1, ↓b_t2, ↓b_t3, ↓b_t4, ↓b_t5, ↓b_t6, Nat.zero_add, Nat.le_refl, b_rs, b_rn, b_r2, b_ss, b_sn, b_bt, b_bf, b_b0, b_b1, b_bw, b_shl, b_or, b_iv, b_jv, b_sI, b_sJ, ↓z_hl, z_b0, z_b1, z_b2, b_and1c, b_and1z, if_true, if_false, nI_add, pk_mul, b_cl, b_lt, b_le, b_eq, b_eq0, b_le0, b_0lt, b_0le, b_lt0]
        rw [q_Mo_ledgerLine_21]
        simp (disch := omega) only [hl, Nat.one_ne_zero, ↓bc_234, ↓br_234_6, ↓bc_236, ↓bx_236, bl_236, ↓br_234_8, ↓bc_238, ↓bx_238, bl_238, ↓b_t0, ↓b_t1, ↓b_t2, ↓b_t3, ↓b_t4, ↓b_t5, ↓b_t6, Nat.zero_add, Nat.le_refl, b_rs, b_rn, b_r2, b_ss, b_sn, b_bt, b_bf, b_b0, b_b1, b_bw, b_shl, b_or, b_iv, b_jv, b_sI, b_sJ, ↓z_hl, z_b0, z_b1, z_b2, b_and1c, b_and1z, if_true, if_false, nI_add, pk_mul, b_cl, b_lt, b_le, b_eq, b_eq0, b_le0, b_0lt, b_0le, b_lt0]
        rw [if_neg c, q_Mo_ledgerLine_45]
        simp (disch := omega) only [hm2, e3, e4, Nat.one_ne_zero, ↓bc_234, ↓br_234_6, ↓bc_236, ↓bx_236, bl_236, ↓br_234_8, ↓bc_238, ↓bx_238, bl_238, ↓b_t0, ↓b_t1, ↓b_t2, ↓b_t3, ↓b_t4, ↓b_t5, ↓b_t6, Nat.zero_add, Nat.le_refl, b_rs, b_rn, b_r2, b_ss, b_sn, b_bt, b_bf, b_b0, b_b1, b_bw, b_shl, b_or, b_iv, b_jv, b_sI, b_sJ, ↓z_hl, z_b0, z_b1, z_b2, b_and1c, b_and1z, if_true, if_false, nI_add, pk_mul, b_cl, b_lt, b_le, b_eq, b_eq0, b_le0, b_0lt, b_0le, b_lt0]
      | ok r =>
        rw [q1] at s4
        obtain ⟨m4, j4, e4, o4, g4, g5⟩ := s4
        have v4 : m4 238 = b_s (b_s (m 238) (3 * ln) (m 234 18)) (3 * ln + 2) 4294967294 := by rw [o4.2.2.1 238 (by decide), o3.2.2.1 238 (by decide), ← hm2, b_rs]
        refine y_G_o rfl (m2 := b_r m4 238 (b_s (m4 238) (3 * ln) r.1)) (j2 := j4) ?_ (l_M_c o4.1 (b_rn (by decide)) rfl) o4.2.1 (z_lf_w (z_lf_t f3 (z_lf_o o4)) (by omega)) ?_ ?_ ?_
        · rw [e_Mo_ledgerLine, q_Mo_ledgerLine_0]
          simp (disch := omega) only [d8, hl, Nat.one_ne_zero, ↓bc_234, ↓br_234_6, ↓bc_236, ↓bx_236, bl_236, ↓br_234_8, ↓bc_238, ↓bx_238, bl_238, ↓b_t0, ↓b_t1, ↓b_t2, ↓b_t3, ↓b_t4, ↓b_t5, ↓b_t6, Nat.zero_add, Nat.le_refl, b_rs, b_rn, b_r2, b_ss, b_sn, b_bt, b_bf, b_b0, b_b1, b_bw, b_shl, b_or, b_iv, b_jv, b_sI, b_sJ, ↓z_hl, z_b0, z_b1, z_b2, b_and1c, b_and1z, if_true, if_false, nI_add, pk_mul, b_cl, b_lt, b_le, b_eq, b_eq0, b_le0, b_0lt, b_0le, b_lt0]
          rw [q_Mo_ledgerLine_21]
          simp (disch := omega) only [hl, Nat.one_ne_zero, ↓bc_234, ↓br_234_6, ↓bc_236, ↓bx_236, bl_236, ↓br_234_8, ↓bc_238, ↓bx_238, bl_238, ↓b_t0, ↓b_t1, ↓b_t2, ↓b_t3, ↓b_t4, ↓b_t5, ↓b_t6, Nat.zero_add, Nat.le_refl, b_rs, b_rn, b_r2, b_ss, b_sn, b_bt, b_bf, b_b0, b_b1, b_bw, b_shl, b_or, b_iv, b_jv, b_sI, b_sJ, ↓z_hl, z_b0, z_b1, z_b2, b_and1c, b_and1z, if_true, if_false, nI_add, pk_mul, b_cl, b_lt, b_le, b_eq, b_eq0, b_le0, b_0lt, b_0le, b_lt0]
          rw [if_neg c, q_Mo_ledgerLine_45]
          simp (disch := omega) only [hm2, e3, e4, g4, Nat.one_ne_zero, ↓bc_234, ↓br_234_6, ↓bc_236, ↓bx_236, bl_236, ↓br_234_8, ↓bc_238, ↓bx_238, bl_238, ↓b_t0, ↓b_t1, ↓b_t2, ↓b_t3, ↓b_t4, ↓b_t5, ↓b_t6, Nat.zero_add, Nat.le_refl, b_rs, b_rn, b_r2, b_ss, b_sn, b_bt, b_bf, b_b0, b_b1, b_bw, b_shl, b_or, b_iv, b_jv, b_sI, b_sJ, ↓z_hl, z_b0, z_b1, z_b2, b_and1c, b_and1z, if_true, if_false, nI_add, pk_mul, b_cl, b_lt, b_le, b_eq, b_eq0, b_le0, b_0lt, b_0le, b_lt0]
        · rw [b_rs, b_ss]
        · rw [b_rs, b_sn (by omega), v4, b_ss]
        · intro x
          exact absurd rfl x
  · rw [if_neg c8]
    rw [decide_eq_false c8] at d8
    have s2 := s_Mo_looksAt (X := X) (tx := tx) (D := d) (m := m) (j := j) (w := w) hX h (by omega) (fr := 6) (many := S 1) (g := fun k => N (6 + k)) (by omega) (fun k hk => ⟨by rw [hN], hb.1 k hk⟩)
    cases q1 : k_look b n q (fun k => N (6 + k)) (S 1) p with
    | error e =>
      rw [q1] at s2
      obtain ⟨m2, j2, e2, x2⟩ := s2
      refine y_G_e rfl ?_ (z_lE_x (ln := ln) z_lf_r x2)
      rw [e_Mo_ledgerLine, q_Mo_ledgerLine_0]
      simp (disch := omega) only [d8, S1, e2, ↓bc_234, ↓br_234_6, ↓bc_236, ↓bx_236, bl_236, ↓br_234_8, ↓bc_238, ↓bx_238, bl_238, ↓b_t0, ↓b_t1, ↓b_t2, ↓b_t3, ↓b_t4, ↓b_t5, ↓b_t6, Nat.zero_add, Nat.le_refl, b_rs, b_rn, b_r2, b_ss, b_sn, b_bt, b_bf, b_b0, b_b1, b_bw, b_shl, b_or, b_iv, b_jv, b_sI, b_sJ, ↓z_hl, z_b0, z_b1, z_b2, b_and1c, b_and1z, if_true, if_false, nI_add, pk_mul, b_cl, b_lt, b_le, b_eq, b_eq0, b_le0, b_0lt, b_0le, b_lt0]
    | ok a =>
      rw [q1] at s2
      obtain ⟨ha, e1⟩ := s2
      have hk : w_kd b n q p = 1 := k_am_lo q1
      show y_G m j w b n q ln (if ln = 40 then .error (4, w_pl b n q p) else k_lgp b n q N S a (w_nx b n q p)) _
      generalize hm1 : b_r m 234 (b_s (m 234) 18 a) = m1 at e1
      have f1 : z_lf m m1 j j ln := by rw [← hm1]; exact z_lf_18
      have l1 : l_M m1 j b n q p := by rw [← hm1]; exact l_M_18 h (by decide) (by decide) (by decide) (by decide) (by decide) (by decide)
      have hl1 : m1 234 41 = ln := by rw [← hm1, b_rs, b_sn (by decide)]; exact hl
      have h18 : m1 234 18 = a := by rw [← hm1, b_rs, b_ss]
      have w1 : ∀ c, c ≠ 234 → m1 c = m c := fun c hc => by rw [← hm1, b_rn hc]
      have X1 : y_X m1 j b n q := y_X_fr hX (w1 235 (by decide)) rfl
      by_cases c : ln = 40
      · rw [if_pos c]
        have sb := s_Mo_bad (X := X) (tx := tx) (D := d) (m := m1) (j := j) (w := w) l1 (by omega) (k := 4)
        refine y_G_e rfl ?_ (z_lE_x f1 x_M_bad)
        rw [e_Mo_ledgerLine, q_Mo_ledgerLine_0]
        simp (disch := omega) only [d8, S1, hl, e1, Nat.one_ne_zero, ↓bc_234, ↓br_234_6, ↓bc_236, ↓bx_236, bl_236, ↓br_234_8, ↓bc_238, ↓bx_238, bl_238, ↓b_t0, ↓b_t1, ↓b_t2, ↓b_t3, ↓b_t4, ↓b_t5, ↓b_t6, Nat.zero_add, Nat.le_refl, b_rs, b_rn, b_r2, b_ss, b_sn, b_bt, b_bf, b_b0, b_b1, b_bw, b_shl, b_or, b_iv, b_jv, b_sI, b_sJ, ↓z_hl, z_b0, z_b1, z_b2, b_and1c, b_and1z, if_true, if_false, nI_add, pk_mul, b_cl, b_lt, b_le, b_eq, b_eq0, b_le0, b_0lt, b_0le, b_lt0]
        rw [q_Mo_ledgerLine_21]
        simp (disch := omega) only [sb, hl1, ↓bc_234, ↓br_234_6, ↓bc_236, ↓bx_236, bl_236, ↓br_234_8, ↓bc_238, ↓bx_238, bl_238, ↓b_t0, ↓b_t1, ↓b_t2, ↓b_t3, ↓b_t4, ↓b_t5, ↓b_t6, Nat.zero_add, Nat.le_refl, b_rs, b_rn, b_r2, b_ss, b_sn, b_bt, b_bf, b_b0, b_b1, b_bw, b_shl, b_or, b_iv, b_jv, b_sI, b_sJ, ↓z_hl, z_b0, z_b1, z_b2, b_and1c, b_and1z, if_true, if_false, nI_add, pk_mul, b_cl, b_lt, b_le, b_eq, b_eq0, b_le0, b_0lt, b_0le, b_lt0]
        rw [if_pos c]
      · rw [if_neg c]
        generalize hm2 : b_r m1 238 (b_s (b_s (m1 238) (3 * ln) a) (3 * ln + 2) 4294967295) = m2
        have f2 : z_lf m m2 j j ln := by
          have := z_lf_w (z_lf_w (v := a) f1 (x := 3 * ln) (by omega)) (v := 4294967295) (x := 3 * ln + 2) (by omega)
          rw [b_r2, b_rs, hm2] at this
          exact this
        have v2 : ∀ c, c ≠ 238 → m2 c = m1 c := fun c hc => by rw [← hm2, b_rn hc]
        have X2 : y_X m2 j b n q := y_X_fr X1 (v2 235 (by decide)) rfl
        obtain ⟨m3, j3, e3, o3, g3⟩ := s_Mo_nextT (X := X) (tx := tx) (D := d) (m := m2) (j := j) (w := w) X2 (l_M_c l1 (v2 234 (by decide)) rfl) (w_kd_in (by omega) (by omega)) (by omega)
        have X3 : y_X m3 j3 b n q := y_X_fr X2 (o3.2.2.1 235 (by decide)) (o3.2.2.2.1 240 (by decide))
        have f3 : z_lf m m3 j j3 ln := z_lf_t f2 (z_lf_o o3)
        have S3 : m3 236 = S := by rw [o3.2.2.1 236 (by decide), v2 236 (by decide), w1 236 (by decide)]; exact hS
        have N3 : j3 239 = N := (o3.2.2.2.1 239 (by decide)).trans hN
        have v3 : m3 238 = b_s (b_s (m1 238) (3 * ln) a) (3 * ln + 2) 4294967295 := by rw [o3.2.2.1 238 (by decide), ← hm2, b_rs]
        have u0 : m3 238 (3 * ln) = a := by rw [v3, b_sn (by omega), b_ss]
        have u2 : m3 238 (3 * ln + 2) = 4294967295 := by rw [v3, b_ss]
        have d7 := dW X3 o3.1 7 1886745715 (by decide) (by decide +kernel)
        have d6 := dW X3 o3.1 6 1651865971 (by decide) (by decide +kernel)
        unfold k_lgp
        have pre : a_ex X tx a_T (d + 1) 298 [.ref 234] (b_h m j w) = a_rn X tx (a_ex X tx a_T d) (a_go X tx (a_ex X tx a_T d) k_Mo_ledgerLine_0 a_f1) k_Mo_ledgerLine_45 0 [.ref 234, .int (nI (3 * ln)), .int (nI 0), .retAddr 0] [.int (nI 4294967295), .int (nI (3 * ln + 2)), .ref 238] (b_h (b_r m1 238 (b_s (m1 238) (3 * ln) a)) j w) := by
          rw [e_Mo_ledgerLine, q_Mo_ledgerLine_0]
          simp (disch := omega) only [d8, S1, hl, e1, Nat.one_ne_zero, ↓bc_234, ↓br_234_6, ↓bc_236, ↓bx_236, bl_236, ↓br_234_8, ↓bc_238, ↓bx_238, bl_238, ↓b_t0, ↓b_t1, ↓b_t2, ↓b_t3, ↓b_t4, ↓b_t5, ↓b_t6, Nat.zero_add, Nat.le_refl, b_rs, b_rn, b_r2, b_ss, b_sn, b_bt, b_bf, b_b0, b_b1, b_bw, b_shl, b_or, b_iv, b_jv, b_sI, b_sJ, ↓z_hl, z_b0, z_b1, z_b2, b_and1c, b_and1z, if_true, if_false, nI_add, pk_mul, b_cl, b_lt, b_le, b_eq, b_eq0, b_le0, b_0lt, b_0le, b_lt0]
          rw [q_Mo_ledgerLine_21]
          simp (disch := omega) only [hl1, h18, Nat.one_ne_zero, ↓bc_234, ↓br_234_6, ↓bc_236, ↓bx_236, bl_236, ↓br_234_8, ↓bc_238, ↓bx_238, bl_238, ↓b_t0, ↓b_t1, ↓b_t2, ↓b_t3, ↓b_t4, ↓b_t5, ↓b_t6, Nat.zero_add, Nat.le_refl, b_rs, b_rn, b_r2, b_ss, b_sn, b_bt, b_bf, b_b0, b_b1, b_bw, b_shl, b_or, b_iv, b_jv, b_sI, b_sJ, ↓z_hl, z_b0, z_b1, z_b2, b_and1c, b_and1z, if_true, if_false, nI_add, pk_mul, b_cl, b_lt, b_le, b_eq, b_eq0, b_le0, b_0lt, b_0le, b_lt0]
          rw [if_neg c]
        rw [pre, q_Mo_ledgerLine_45]
        by_cases c7 : w_ky b n q (w_nx b n q p) = 7
        · rw [if_pos c7]
          rw [decide_eq_true c7] at d7
          refine y_G_b f3 ?_
          have := s_Mo_lg79 (X := X) (tx := tx) (d := d) (m := m3) (j := j3) (w := w) (f := a_f1) (i3 := 1) X3 o3.1 ((w_ky_iff (by decide)).mp c7).1 S3 hi N3 hb (ln := ln) (by omega) u0 u2 (by decide) (by omega)
          simp (disch := omega) only [hm2, e3, d7, Nat.one_ne_zero, ↓bc_234, ↓br_234_6, ↓bc_236, ↓bx_236, bl_236, ↓br_234_8, ↓bc_238, ↓bx_238, bl_238, ↓b_t0, ↓b_t1, ↓b_t2, ↓b_t3, ↓b_t4, ↓b_t5, ↓b_t6, Nat.zero_add, Nat.le_refl, b_rs, b_rn, b_r2, b_ss, b_sn, b_bt, b_bf, b_b0, b_b1, b_bw, b_shl, b_or, b_iv, b_jv, b_sI, b_sJ, ↓z_hl, z_b0, z_b1, z_b2, b_and1c, b_and1z, if_true, if_false, nI_add, pk_mul, b_cl, b_lt, b_le, b_eq, b_eq0, b_le0, b_0lt, b_0le, b_lt0]
          exact this
        · rw [if_neg c7]
          rw [decide_eq_false c7] at d7
          by_cases c6 : w_ky b n q (w_nx b n q p) = 6
          · rw [if_pos c6]
            rw [decide_eq_true c6] at d6
            refine y_G_b f3 ?_
            have := s_Mo_lg79 (X := X) (tx := tx) (d := d) (m := m3) (j := j3) (w := w) (f := a_f1) (i3 := 0) X3 o3.1 ((w_ky_iff (by decide)).mp c6).1 S3 hi N3 hb (ln := ln) (by omega) u0 u2 (by decide) (by omega)
            simp (disch := omega) only [hm2, e3, d7, d6, Nat.one_ne_zero, ↓bc_234, ↓br_234_6, ↓bc_236, ↓bx_236, bl_236, ↓br_234_8, ↓bc_238, ↓bx_238, bl_238, ↓b_t0, ↓b_t1, ↓b_t2, ↓b_t3, ↓b_t4, ↓b_t5, ↓b_t6, Nat.zero_add, Nat.le_refl, b_rs, b_rn, b_r2, b_ss, b_sn, b_bt, b_bf, b_b0, b_b1, b_bw, b_shl, b_or, b_iv, b_jv, b_sI, b_sJ, ↓z_hl, z_b0, z_b1, z_b2, b_and1c, b_and1z, if_true, if_false, nI_add, pk_mul, b_cl, b_lt, b_le, b_eq, b_eq0, b_le0, b_0lt, b_0le, b_lt0]
            exact this
          · rw [if_neg c6]
            rw [decide_eq_false c6] at d6
            have sb := s_Mo_bad (X := X) (tx := tx) (D := d) (m := m3) (j := j3) (w := w) o3.1 (by omega) (k := 1)
            refine y_G_e rfl ?_ (z_lE_x f3 x_M_bad)
            simp (disch := omega) only [hm2, e3, d7, d6, sb, ↓bc_234, ↓br_234_6, ↓bc_236, ↓bx_236, bl_236, ↓br_234_8, ↓bc_238, ↓bx_238, bl_238, ↓b_t0, ↓b_t1, ↓b_t2, ↓b_t3, ↓b_t4, ↓b_t5, ↓b_t6, Nat.zero_add, Nat.le_refl, b_rs, b_rn, b_r2, b_ss, b_sn, b_bt, b_bf, b_b0, b_b1, b_bw, b_shl, b_or, b_iv, b_jv, b_sI, b_sJ, ↓z_hl, z_b0, z_b1, z_b2, b_and1c, b_and1z, if_true, if_false, nI_add, pk_mul, b_cl, b_lt, b_le, b_eq, b_eq0, b_le0, b_0lt, b_0le, b_lt0]
end LG
