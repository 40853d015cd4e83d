/-! LEDGERS: a line; the class's side, further -/
section LC
variable {X : Nat × (Nat → Int32)} {tx : List Int32} {D d : Nat} {m j : Nat → Nat → Nat} {w : (Nat × Nat) × Bool} {n q p : Nat} {S N : Nat → Nat} {ln a : Nat}
theorem s_Le_readDeed (hX : l_X m j n q) (h : l_C m j n q p) (hN : r_N (m 6) (m 7) (m 4 6) (j 5) N S) (hc : m 4 6 ≤ 30) (hS2 : S 2 ≤ 8) (h0 : m 156 0 = ln) (hln : ln < 40) (h158 : m 158 ln = a) (hD : 9 ≤ D) : x_G m j w n q ln (k_lgp (m 2) n q N S a p) (a_ex X tx a_T D 99 [.ref 156, .ref 1, .ref 4] (b_h m j w)) := by
  obtain ⟨d, rfl⟩ : ∃ d, D = d + 1 := ⟨D - 1, by omega⟩
  have s1 := s_Ta_word (X := X) (tx := tx) (D := d) (w := w) h (by omega)
  have h7 : w_ky (m 2) n q p < 4294967296 := by
    rcases w_ky_lt (b := m 2) (n := n) (q := q) (p := p) with y | y <;> omega
  rw [e_Le_readDeed, q_Le_readDeed_0]
  unfold k_lgp
  by_cases c7 : w_ky (m 2) n q p = 7
  · rw [if_pos c7]
    rw [c7] at s1
    have := s_Le_deed13 (X := X) (tx := tx) (d := d) (f := a_f1) (w := w) (i3 := 1) (wd := 7) hX h ((w_ky_iff (by decide)).mp c7).1 hN hc hS2 h0 hln h158 (by decide) rfl (by omega)
    simp (disch := omega) only [s1, ↓bc_1, ↓bc_156, ↓br_156_1, ↓bc_157, ↓bx_157, bl_157, ↓br_156_3, ↓bc_159, ↓bx_159, bl_159, ↓bc_4, ↓br_156_4, ↓bc_160, ↓bx_160, bl_160, ↓b_t0, ↓b_t1, ↓b_t2, ↓b_t3, ↓b_t4, ↓b_t5, ↓b_t6, Nat.zero_add, Nat.le_refl, b_rs, b_rn, b_r2, b_ss, b_sn, b_bt, b_bf, b_b0, b_b1, b_bw, b_shl, b_or, b_iv, b_jv, b_sI, b_sJ, ↓z_hl, z_b0, z_b1, z_b2, b_and1c, b_and1z, if_true, if_false, nI_add, pk_mul, b_cl, b_lt, b_le, b_eq, b_eq0, b_le0, b_0lt, b_0le, b_lt0]
    rw [if_neg (by decide)]
    exact this
  · rw [if_neg c7]
    by_cases c6 : w_ky (m 2) n q p = 6
    · rw [if_pos c6]
      rw [c6] at s1
      have := s_Le_deed13 (X := X) (tx := tx) (d := d) (f := a_f1) (w := w) (i3 := 0) (wd := 6) hX h ((w_ky_iff (by decide)).mp c6).1 hN hc hS2 h0 hln h158 (by decide) rfl (by omega)
      simp (disch := omega) only [s1, ↓bc_1, ↓bc_156, ↓br_156_1, ↓bc_157, ↓bx_157, bl_157, ↓br_156_3, ↓bc_159, ↓bx_159, bl_159, ↓bc_4, ↓br_156_4, ↓bc_160, ↓bx_160, bl_160, ↓b_t0, ↓b_t1, ↓b_t2, ↓b_t3, ↓b_t4, ↓b_t5, ↓b_t6, Nat.zero_add, Nat.le_refl, b_rs, b_rn, b_r2, b_ss, b_sn, b_bt, b_bf, b_b0, b_b1, b_bw, b_shl, b_or, b_iv, b_jv, b_sI, b_sJ, ↓z_hl, z_b0, z_b1, z_b2, b_and1c, b_and1z, if_true, if_false, nI_add, pk_mul, b_cl, b_lt, b_le, b_eq, b_eq0, b_le0, b_0lt, b_0le, b_lt0]
      exact this
    · rw [if_neg c6]
      have sb := s_Ta_fail (X := X) (tx := tx) (D := d) (m := m) (j := j) (w := w) h (by omega) (k := 1)
      refine x_G_e rfl ?_ (x_lE_x (ln := ln) x_lf_r x_C_fail)
      simp (disch := omega) only [s1, sb, ↓bc_1, ↓bc_156, ↓br_156_1, ↓bc_157, ↓bx_157, bl_157, ↓br_156_3, ↓bc_159, ↓bx_159, bl_159, ↓bc_4, ↓br_156_4, ↓bc_160, ↓bx_160, bl_160, ↓b_t0, ↓b_t1, ↓b_t2, ↓b_t3, ↓b_t4, ↓b_t5, ↓b_t6, Nat.zero_add, Nat.le_refl, b_rs, b_rn, b_r2, b_ss, b_sn, b_bt, b_bf, b_b0, b_b1, b_bw, b_shl, b_or, b_iv, b_jv, b_sI, b_sJ, ↓z_hl, z_b0, z_b1, z_b2, b_and1c, b_and1z, if_true, if_false, nI_add, pk_mul, b_cl, b_lt, b_le, b_eq, b_eq0, b_le0, b_0lt, b_0le, b_lt0]
      rw [if_neg c6, if_neg c7]
theorem s_Le_readFirst (hX : l_X m j n q) (h : l_C m j n q p) (hN : r_N (m 6) (m 7) (m 4 6) (j 5) N S) (hc : m 4 6 ≤ 30) (hS2 : S 2 ≤ 8) (h0 : m 156 0 = ln) (hln : ln ≤ 40) (hD : 10 ≤ D) {fu : Nat} (hfu : fu = if ln = 40 then 1 else 0) : x_G m j w n q ln (k_ll (m 2) n q N S ln p) (a_ex X tx a_T D 97 [.ref 156, .ref 1, .ref 4, .int (nI fu)] (b_h m j w)) := by
  obtain ⟨d, rfl⟩ : ∃ d, D = d + 1 := ⟨D - 1, by omega⟩
  have s1 := s_Ta_word (X := X) (tx := tx) (D := d) (w := w) h (by omega)
  have h7 : w_ky (m 2) n q p < 4294967296 := by
    rcases w_ky_lt (b := m 2) (n := n) (q := q) (p := p) with y | y <;> omega
  rw [e_Le_readFirst, q_Le_readFirst_0]
  unfold k_ll
  by_cases c8 : w_ky (m 2) n q p = 8
  · rw [if_pos c8]
    rw [c8] at s1
    have hk := ((w_ky_iff (by decide)).mp c8).1
    by_cases c : ln = 40
    · rw [if_pos c]
      rw [if_pos c] at hfu
      subst hfu
      have sb := s_Ta_fail (X := X) (tx := tx) (D := d) (m := m) (j := j) (w := w) h (by omega) (k := 4)
      refine x_G_e rfl ?_ (x_lE_x (ln := ln) x_lf_r x_C_fail)
      simp (disch := omega) only [s1, ↓bc_1, ↓bc_4, ↓bc_156, ↓br_156_2, ↓bc_158, ↓bx_158, bl_158, ↓b_t0, ↓b_t1, ↓b_t2, ↓b_t3, ↓b_t4, ↓b_t5, ↓b_t6, Nat.zero_add, Nat.le_refl, b_rs, b_rn, b_r2, b_ss, b_sn, b_bt, b_bf, b_b0, b_b1, b_bw, b_shl, b_or, b_iv, b_jv, b_sI, b_sJ, ↓z_hl, z_b0, z_b1, z_b2, b_and1c, b_and1z, if_true, if_false, nI_add, pk_mul, b_cl, b_lt, b_le, b_eq, b_eq0, b_le0, b_0lt, b_0le, b_lt0]
      rw [q_Le_readFirst_7]
      simp (disch := omega) only [Nat.one_ne_zero, ↓bc_1, ↓bc_4, ↓bc_156, ↓br_156_2, ↓bc_158, ↓bx_158, bl_158, ↓b_t0, ↓b_t1, ↓b_t2, ↓b_t3, ↓b_t4, ↓b_t5, ↓b_t6, Nat.zero_add, Nat.le_refl, b_rs, b_rn, b_r2, b_ss, b_sn, b_bt, b_bf, b_b0, b_b1, b_bw, b_shl, b_or, b_iv, b_jv, b_sI, b_sJ, ↓z_hl, z_b0, z_b1, z_b2, b_and1c, b_and1z, if_true, if_false, nI_add, pk_mul, b_cl, b_lt, b_le, b_eq, b_eq0, b_le0, b_0lt, b_0le, b_lt0]
      rw [q_Le_readFirst_24]
      simp (disch := omega) only [sb, Nat.one_ne_zero, ↓bc_1, ↓bc_4, ↓bc_156, ↓br_156_2, ↓bc_158, ↓bx_158, bl_158, ↓b_t0, ↓b_t1, ↓b_t2, ↓b_t3, ↓b_t4, ↓b_t5, ↓b_t6, Nat.zero_add, Nat.le_refl, b_rs, b_rn, b_r2, b_ss, b_sn, b_bt, b_bf, b_b0, b_b1, b_bw, b_shl, b_or, b_iv, b_jv, b_sI, b_sJ, ↓z_hl, z_b0, z_b1, z_b2, b_and1c, b_and1z, if_true, if_false, nI_add, pk_mul, b_cl, b_lt, b_le, b_eq, b_eq0, b_le0, b_0lt, b_0le, b_lt0]
    · rw [if_neg c]
      rw [if_neg c] at hfu
      subst hfu
      obtain ⟨m1, j1, e1, o1⟩ := s_Ta_stepT (X := X) (tx := tx) (D := d) (w := w) hX h (w_kd_in (by omega) (by omega)) (by omega)
      have h01 : m1 156 0 = ln := by rw [o1.2.1.1 156 (by decide)]; exact h0
      generalize hm2 : b_r m1 158 (b_s (m1 158) ln 4294967295) = m2
      have v2 : ∀ c, c ≠ 158 → m2 c = m1 c := fun c hc => by rw [← hm2, b_rn hc]
      have h02 : m2 156 0 = ln := by rw [v2 156 (by decide)]; exact h01
      have f2 : x_lf m m2 j j1 ln := by rw [← hm2]; exact x_lf_w (x_lf_o o1) (by decide) (by decide)
      have v22 : m2 2 = m 2 := (v2 2 (by decide)).trans (o1.2.1.1 2 (by decide))
      have s3 := s_Le_readDays (X := X) (tx := tx) (D := d) (m := m2) (j := j1) (w := w) (l_X_fr hX v22 (o1.2.1.2.1 3 (by decide))) (l_C_c o1.1 (v2 1 (by decide)) (v2 2 (by decide)) rfl) h02 (by omega) (by omega)
      rw [v22] at s3
      refine x_G_b f2 (x_G_t s3 fun g => ?_)
      simp (disch := omega) only [s1, ↓bc_1, ↓bc_4, ↓bc_156, ↓br_156_2, ↓bc_158, ↓bx_158, bl_158, ↓b_t0, ↓b_t1, ↓b_t2, ↓b_t3, ↓b_t4, ↓b_t5, ↓b_t6, Nat.zero_add, Nat.le_refl, b_rs, b_rn, b_r2, b_ss, b_sn, b_bt, b_bf, b_b0, b_b1, b_bw, b_shl, b_or, b_iv, b_jv, b_sI, b_sJ, ↓z_hl, z_b0, z_b1, z_b2, b_and1c, b_and1z, if_true, if_false, nI_add, pk_mul, b_cl, b_lt, b_le, b_eq, b_eq0, b_le0, b_0lt, b_0le, b_lt0]
      rw [q_Le_readFirst_7]
      simp (disch := omega) only [Nat.one_ne_zero, ↓bc_1, ↓bc_4, ↓bc_156, ↓br_156_2, ↓bc_158, ↓bx_158, bl_158, ↓b_t0, ↓b_t1, ↓b_t2, ↓b_t3, ↓b_t4, ↓b_t5, ↓b_t6, Nat.zero_add, Nat.le_refl, b_rs, b_rn, b_r2, b_ss, b_sn, b_bt, b_bf, b_b0, b_b1, b_bw, b_shl, b_or, b_iv, b_jv, b_sI, b_sJ, ↓z_hl, z_b0, z_b1, z_b2, b_and1c, b_and1z, if_true, if_false, nI_add, pk_mul, b_cl, b_lt, b_le, b_eq, b_eq0, b_le0, b_0lt, b_0le, b_lt0]
      rw [q_Le_readFirst_24]
      rcases g with ⟨m3, j3, e3⟩ | ⟨m3, j3, e3⟩
      · simp (disch := omega) only [e1, h01, hm2, e3, Nat.one_ne_zero, ↓bc_1, ↓bc_4, ↓bc_156, ↓br_156_2, ↓bc_158, ↓bx_158, bl_158, ↓b_t0, ↓b_t1, ↓b_t2, ↓b_t3, ↓b_t4, ↓b_t5, ↓b_t6, Nat.zero_add, Nat.le_refl, b_rs, b_rn, b_r2, b_ss, b_sn, b_bt, b_bf, b_b0, b_b1, b_bw, b_shl, b_or, b_iv, b_jv, b_sI, b_sJ, ↓z_hl, z_b0, z_b1, z_b2, b_and1c, b_and1z, if_true, if_false, nI_add, pk_mul, b_cl, b_lt, b_le, b_eq, b_eq0, b_le0, b_0lt, b_0le, b_lt0]
      · simp (disch := omega) only [e1, h01, hm2, e3, Nat.one_ne_zero, ↓bc_1, ↓bc_4, ↓bc_156, ↓br_156_2, ↓bc_158, ↓bx_158, bl_158, ↓b_t0, ↓b_t1, ↓b_t2, ↓b_t3, ↓b_t4, ↓b_t5, ↓b_t6, Nat.zero_add, Nat.le_refl, b_rs, b_rn, b_r2, b_ss, b_sn, b_bt, b_bf, b_b0, b_b1, b_bw, b_shl, b_or, b_iv, b_jv, b_sI, b_sJ, ↓z_hl, z_b0, z_b1, z_b2, b_and1c, b_and1z, if_true, if_false, nI_add, pk_mul, b_cl, b_lt, b_le, b_eq, b_eq0, b_le0, b_0lt, b_0le, b_lt0]
  · rw [if_neg c8]
    have s2 := s_Fa_lookUp4 (X := X) (tx := tx) (D := d) (m := m) (j := j) (w := w) (N := N) (s := S) hX h hN hc (by omega) (so := 1) (by decide)
    have s2 : match k_look (m 2) n q (fun k => N (6 + k)) (S 1) p with
      | .ok k => a_ex X tx a_T d 43 [.ref 4, .ref 1, .int (nI 1)] (b_h m j w) = some (b_h m j w, some (.int (nI k))) ∧ k < S 1 ∧ k < 30
      | .error e => ∃ m3, a_ex X tx a_T d 43 [.ref 4, .ref 1, .int (nI 1)] (b_h m j w) = some (b_h m3 j w, some (.int (nI 4294967295))) ∧ x_C m m3 j j e := s2
    cases q1 : k_look (m 2) n q (fun k => N (6 + k)) (S 1) p with
    | error e =>
      rw [q1] at s2
      obtain ⟨m3, e3, x3⟩ := s2
      refine x_G_e rfl (m2 := m3) (j2 := j) ?_ (x_lE_x (ln := ln) x_lf_r x3)
      simp (disch := omega) only [s1, ↓bc_1, ↓bc_4, ↓bc_156, ↓br_156_2, ↓bc_158, ↓bx_158, bl_158, ↓b_t0, ↓b_t1, ↓b_t2, ↓b_t3, ↓b_t4, ↓b_t5, ↓b_t6, Nat.zero_add, Nat.le_refl, b_rs, b_rn, b_r2, b_ss, b_sn, b_bt, b_bf, b_b0, b_b1, b_bw, b_shl, b_or, b_iv, b_jv, b_sI, b_sJ, ↓z_hl, z_b0, z_b1, z_b2, b_and1c, b_and1z, if_true, if_false, nI_add, pk_mul, b_cl, b_lt, b_le, b_eq, b_eq0, b_le0, b_0lt, b_0le, b_lt0]
      rw [if_neg c8, q_Le_readFirst_7]
      simp (disch := omega) only [e3, ↓bc_1, ↓bc_4, ↓bc_156, ↓br_156_2, ↓bc_158, ↓bx_158, bl_158, ↓b_t0, ↓b_t1, ↓b_t2, ↓b_t3, ↓b_t4, ↓b_t5, ↓b_t6, Nat.zero_add, Nat.le_refl, b_rs, b_rn, b_r2, b_ss, b_sn, b_bt, b_bf, b_b0, b_b1, b_bw, b_shl, b_or, b_iv, b_jv, b_sI, b_sJ, ↓z_hl, z_b0, z_b1, z_b2, b_and1c, b_and1z, if_true, if_false, nI_add, pk_mul, b_cl, b_lt, b_le, b_eq, b_eq0, b_le0, b_0lt, b_0le, b_lt0]
    | ok a =>
      rw [q1] at s2
      obtain ⟨e3, g3, g4⟩ := s2
      have hk : w_kd (m 2) n q p = 1 := k_am_lo q1
      show x_G m j w n q ln (if ln = 40 then .error (4, w_pl (m 2) n q p) else k_lgp (m 2) n q N S a (w_nx (m 2) n q p)) _
      by_cases c : ln = 40
      · rw [if_pos c]
        rw [if_pos c] at hfu
        subst hfu
        have sb := s_Ta_fail (X := X) (tx := tx) (D := d) (m := m) (j := j) (w := w) h (by omega) (k := 4)
        refine x_G_e rfl ?_ (x_lE_x (ln := ln) x_lf_r x_C_fail)
        simp (disch := omega) only [s1, ↓bc_1, ↓bc_4, ↓bc_156, ↓br_156_2, ↓bc_158, ↓bx_158, bl_158, ↓b_t0, ↓b_t1, ↓b_t2, ↓b_t3, ↓b_t4, ↓b_t5, ↓b_t6, Nat.zero_add, Nat.le_refl, b_rs, b_rn, b_r2, b_ss, b_sn, b_bt, b_bf, b_b0, b_b1, b_bw, b_shl, b_or, b_iv, b_jv, b_sI, b_sJ, ↓z_hl, z_b0, z_b1, z_b2, b_and1c, b_and1z, if_true, if_false, nI_add, pk_mul, b_cl, b_lt, b_le, b_eq, b_eq0, b_le0, b_0lt, b_0le, b_lt0]
        rw [if_neg c8, q_Le_readFirst_7]
        simp (disch := omega) only [e3, ↓bc_1, ↓bc_4, ↓bc_156, ↓br_156_2, ↓bc_158, ↓bx_158, bl_158, ↓b_t0, ↓b_t1, ↓b_t2, ↓b_t3, ↓b_t4, ↓b_t5, ↓b_t6, Nat.zero_add, Nat.le_refl, b_rs, b_rn, b_r2, b_ss, b_sn, b_bt, b_bf, b_b0, b_b1, b_bw, b_shl, b_or, b_iv, b_jv, b_sI, b_sJ, ↓z_hl, z_b0, z_b1, z_b2, b_and1c, b_and1z, if_true, if_false, nI_add, pk_mul, b_cl, b_lt, b_le, b_eq, b_eq0, b_le0, b_0lt, b_0le, b_lt0]
        rw [if_neg (by omega), q_Le_readFirst_24]
        simp (disch := omega) only [sb, Nat.one_ne_zero, ↓bc_1, ↓bc_4, ↓bc_156, ↓br_156_2, ↓bc_158, ↓bx_158, bl_158, ↓b_t0, ↓b_t1, ↓b_t2, ↓b_t3, ↓b_t4, ↓b_t5, ↓b_t6, Nat.zero_add, Nat.le_refl, b_rs, b_rn, b_r2, b_ss, b_sn, b_bt, b_bf, b_b0, b_b1, b_bw, b_shl, b_or, b_iv, b_jv, b_sI, b_sJ, ↓z_hl, z_b0, z_b1, z_b2, b_and1c, b_and1z, if_true, if_false, nI_add, pk_mul, b_cl, b_lt, b_le, b_eq, b_eq0, b_le0, b_0lt, b_0le, b_lt0]
      · rw [if_neg c]
        rw [if_neg c] at hfu
        subst hfu
        obtain ⟨m1, j1, e1, o1⟩ := s_Ta_stepT (X := X) (tx := tx) (D := d) (w := w) hX h (w_kd_in (by omega) (by omega)) (by omega)
        have h01 : m1 156 0 = ln := by rw [o1.2.1.1 156 (by decide)]; exact h0
        generalize hm2 : b_r m1 158 (b_s (m1 158) ln a) = m2
        have v2 : ∀ c, c ≠ 158 → m2 c = m1 c := fun c hc => by rw [← hm2, b_rn hc]
        have h02 : m2 156 0 = ln := by rw [v2 156 (by decide)]; exact h01
        have f2 : x_lf m m2 j j1 ln := by rw [← hm2]; exact x_lf_w (x_lf_o o1) (by decide) (by decide)
        have v2m : ∀ c, c ≠ 1 → c ≠ 158 → m2 c = m c := fun c c1 c2 => (v2 c c2).trans (o1.2.1.1 c c1)
        have s4 := s_Le_readDeed (X := X) (tx := tx) (D := d) (m := m2) (j := j1) (w := w) (a := a) (N := N) (S := S) (l_X_fr hX (v2m 2 (by decide) (by decide)) (o1.2.1.2.1 3 (by decide))) (l_C_c o1.1 (v2 1 (by decide)) (v2 2 (by decide)) rfl) (by rw [v2m 6 (by decide) (by decide), v2m 7 (by decide) (by decide), v2m 4 (by decide) (by decide), o1.2.1.2.1 5 (by decide)]; exact hN) (by rw [v2m 4 (by decide) (by decide)]; exact hc) hS2 h02 (by omega) (by rw [← hm2, b_rs, b_ss]) (by omega)
        rw [v2m 2 (by decide) (by decide)] at s4
        refine x_G_b f2 (x_G_t s4 fun g => ?_)
        simp (disch := omega) only [s1, ↓bc_1, ↓bc_4, ↓bc_156, ↓br_156_2, ↓bc_158, ↓bx_158, bl_158, ↓b_t0, ↓b_t1, ↓b_t2, ↓b_t3, ↓b_t4, ↓b_t5, ↓b_t6, Nat.zero_add, Nat.le_refl, b_rs, b_rn, b_r2, b_ss, b_sn, b_bt, b_bf, b_b0, b_b1, b_bw, b_shl, b_or, b_iv, b_jv, b_sI, b_sJ, ↓z_hl, z_b0, z_b1, z_b2, b_and1c, b_and1z, if_true, if_false, nI_add, pk_mul, b_cl, b_lt, b_le, b_eq, b_eq0, b_le0, b_0lt, b_0le, b_lt0]
        rw [if_neg c8, q_Le_readFirst_7]
        simp (disch := omega) only [e3, ↓bc_1, ↓bc_4, ↓bc_156, ↓br_156_2, ↓bc_158, ↓bx_158, bl_158, ↓b_t0, ↓b_t1, ↓b_t2, ↓b_t3, ↓b_t4, ↓b_t5, ↓b_t6, Nat.zero_add, Nat.le_refl, b_rs, b_rn, b_r2, b_ss, b_sn, b_bt, b_bf, b_b0, b_b1, b_bw, b_shl, b_or, b_iv, b_jv, b_sI, b_sJ, ↓z_hl, z_b0, z_b1, z_b2, b_and1c, b_and1z, if_true, if_false, nI_add, pk_mul, b_cl, b_lt, b_le, b_eq, b_eq0, b_le0, b_0lt, b_0le, b_lt0]
        rw [if_neg (by omega), q_Le_readFirst_24]
        rcases g with ⟨m3, j3, e4⟩ | ⟨m3, j3, e4⟩
        · simp (disch := omega) only [e1, h01, hm2, e4, Nat.one_ne_zero, ↓bc_1, ↓bc_4, ↓bc_156, ↓br_156_2, ↓bc_158, ↓bx_158, bl_158, ↓b_t0, ↓b_t1, ↓b_t2, ↓b_t3, ↓b_t4, ↓b_t5, ↓b_t6, Nat.zero_add, Nat.le_refl, b_rs, b_rn, b_r2, b_ss, b_sn, b_bt, b_bf, b_b0, b_b1, b_bw, b_shl, b_or, b_iv, b_jv, b_sI, b_sJ, ↓z_hl, z_b0, z_b1, z_b2, b_and1c, b_and1z, if_true, if_false, nI_add, pk_mul, b_cl, b_lt, b_le, b_eq, b_eq0, b_le0, b_0lt, b_0le, b_lt0]
        · simp (disch := omega) only [e1, h01, hm2, e4, Nat.one_ne_zero, ↓bc_1, ↓bc_4, ↓bc_156, ↓br_156_2, ↓bc_158, ↓bx_158, bl_158, ↓b_t0, ↓b_t1, ↓b_t2, ↓b_t3, ↓b_t4, ↓b_t5, ↓b_t6, Nat.zero_add, Nat.le_refl, b_rs, b_rn, b_r2, b_ss, b_sn, b_bt, b_bf, b_b0, b_b1, b_bw, b_shl, b_or, b_iv, b_jv, b_sI, b_sJ, ↓z_hl, z_b0, z_b1, z_b2, b_and1c, b_and1z, if_true, if_false, nI_add, pk_mul, b_cl, b_lt, b_le, b_eq, b_eq0, b_le0, b_0lt, b_0le, b_lt0]
end LC
