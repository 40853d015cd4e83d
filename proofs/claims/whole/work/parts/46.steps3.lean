/-! CALL BY CALL: days, undoing, draws, odds -/
section D3
variable {X : Nat × (Nat → Int32)} {tx : List Int32} {D : Nat} {m j : Nat → Nat → Nat} {w : (Nat × Nat) × Bool}
theorem s_Mo_days (hS : i_S (m 236)) (hI : i_D (m 236)) (hk : m 234 23 ≤ 8) (hD : 6 ≤ D) {n : Nat} (hn : n < 4294967296) : a_ex X tx a_T D 254 [.ref 234, .int (nI n)] (b_h m j w) = some ((b_h (if 1 ≤ n ∧ n ≤ 60 ∧ m 236 157 < 400 then b_r (w_km m) 236 (w_days (m 236) (min n (400 - m 236 157))) else b_r m 234 (b_s (m 234) 0 0)) j w), some (.int (nI (if 1 ≤ n ∧ n ≤ 60 then min n (400 - m 236 157) else 4294967295)))) := by
  obtain ⟨d, rfl⟩ : ∃ d, D = d + 1 := ⟨D - 1, by omega⟩
  rw [e_Mo_days, q_Mo_days_0]
  have hS2 : i_S ((b_r m 234 (b_s (m 234) 0 0)) 236) := by rw [b_rn (by decide)]; exact hS
  have hI2 : i_D ((b_r m 234 (b_s (m 234) 0 0)) 236) := by rw [b_rn (by decide)]; exact hI
  have qq : (b_r m 234 (b_s (m 234) 0 0)) 236 = m 236 := b_rn (by decide)
  have q0 : (b_r m 234 (b_s (m 234) 0 0)) 236 0 = m 236 0 := by rw [qq]
  have q1 : (b_r m 234 (b_s (m 234) 0 0)) 236 1 = m 236 1 := by rw [qq]
  have q2 : (b_r m 234 (b_s (m 234) 0 0)) 236 2 = m 236 2 := by rw [qq]
  have q3 : (b_r m 234 (b_s (m 234) 0 0)) 236 3 = m 236 3 := by rw [qq]
  have hK := i_S_K hS
  have hM := i_S_M hS
  have hT := i_S_T hS
  have hE := i_S_E hS
  have hda := i_D_da hI
  by_cases c1 : 1 ≤ n ∧ n ≤ 60
  · have e1 : decide (1 ≤ n ∧ n ≤ 60) = true := decide_eq_true c1
    by_cases c2 : m 236 157 < 400
    · rw [if_pos ⟨c1.1, c1.2, c2⟩, if_pos c1]
      have s1 := s_Mo_goesOn (X := X) (tx := tx) (D := d) (m := w_km m) (j := j) (w := w) (by rw [w_km_s]; exact hS) (by rw [w_km_s]; exact hI) (by omega) (q := n) (by omega)
      rw [w_km_s] at s1
      simp (disch := omega) only [s_Mo_isIn, e1, s_Mo_keepT hk, s1, ↓bc_234, ↓br_234_6, ↓bc_236, ↓bx_236, bl_236, ↓b_t0, ↓b_t1, ↓b_t2, ↓b_t3, ↓b_t4, ↓b_t5, ↓b_t6, Nat.zero_add, Nat.le_refl, b_rs, b_rn, b_r2, b_ss, b_sn, b_bt, b_bf, b_b0, b_b1, b_bw, b_shl, b_or, b_iv, b_jv, b_sI, b_sJ, ↓z_hl, z_b0, z_b1, z_b2, b_and1c, b_and1z, if_true, if_false, nI_add, pk_mul, b_cl, b_lt, b_le, b_eq, b_eq0, b_le0, b_0lt, b_0le, b_lt0]
      rw [if_neg (by decide), if_neg (by omega)]
    · rw [if_neg (fun h => c2 h.2.2), if_pos c1]
      have e2 : m 236 157 = 400 := by omega
      simp (disch := omega) only [s_Mo_isIn, e1, e2, ↓bc_234, ↓br_234_6, ↓bc_236, ↓bx_236, bl_236, ↓b_t0, ↓b_t1, ↓b_t2, ↓b_t3, ↓b_t4, ↓b_t5, ↓b_t6, Nat.zero_add, Nat.le_refl, b_rs, b_rn, b_r2, b_ss, b_sn, b_bt, b_bf, b_b0, b_b1, b_bw, b_shl, b_or, b_iv, b_jv, b_sI, b_sJ, ↓z_hl, z_b0, z_b1, z_b2, b_and1c, b_and1z, if_true, if_false, nI_add, pk_mul, b_cl, b_lt, b_le, b_eq, b_eq0, b_le0, b_0lt, b_0le, b_lt0]
      rw [if_neg (by decide), show min n (400 - 400) = 0 by omega]
  · have e1 : decide (1 ≤ n ∧ n ≤ 60) = false := decide_eq_false c1
    rw [if_neg (fun h => c1 ⟨h.1, h.2.1⟩), if_neg c1]
    simp (disch := omega) only [s_Mo_isIn, e1, ↓bc_234, ↓br_234_6, ↓bc_236, ↓bx_236, bl_236, ↓b_t0, ↓b_t1, ↓b_t2, ↓b_t3, ↓b_t4, ↓b_t5, ↓b_t6, Nat.zero_add, Nat.le_refl, b_rs, b_rn, b_r2, b_ss, b_sn, b_bt, b_bf, b_b0, b_b1, b_bw, b_shl, b_or, b_iv, b_jv, b_sI, b_sJ, ↓z_hl, z_b0, z_b1, z_b2, b_and1c, b_and1z, if_true, if_false, nI_add, pk_mul, b_cl, b_lt, b_le, b_eq, b_eq0, b_le0, b_0lt, b_0le, b_lt0]
theorem t_days (h : r_R m j) (hD : 10 ≤ D) {n : Nat} (hn : n < 4294967296) : w_step X tx D 164 254 [.int (nI n)] m j w := by
  have hS := r_R_st h
  have hI := r_R_dy h
  have hF := r_R_fa h
  have hA := r_R_af h
  have hda := i_D_da hI
  obtain ⟨p1, p2, p3, p4⟩ := r_R_pa h
  obtain ⟨d, rfl⟩ : ∃ d, D = d + 1 := ⟨D - 1, by omega⟩
  by_cases c1 : 1 ≤ n ∧ n ≤ 60
  · have s0 := s_Af_daysLeft26 (X := X) (tx := tx) (D := d) (j := j) (w := w) hA hI (by omega)
    by_cases c2 : m 236 157 < 400
    · have hF1 : c_F (w_pk m) 4 (m 236) := c_F_ext (fun c p1 p2 => w_pk_same p3 (by omega)) (fun _ _ => rfl) hS hF
      have hA1 : c_A (w_pk m) 26 (m 236) := c_A_ext (fun c p1 p2 => w_pk_same p3 (by omega)) hA
      obtain ⟨m2, k1, k2, k3⟩ := s_Af_passDays26 (X := X) (tx := tx) (D := d) (j := j) (w := w) hF1 hA1 hS hI (by omega) (q := min n (400 - m 236 157)) (by omega)
      have e236 : m2 236 = m 236 := by rw [k2 236 (by omega), w_pk_same p3 (by omega)]
      have e234 : m2 234 = m 234 := by rw [k2 234 (by omega), w_pk_same p3 (by omega)]
      obtain ⟨g1, g2, g3, g4⟩ := w_days_ok hS hI (min n (400 - m 236 157)) (by omega)
      refine ⟨m2, j, _, j, _, ?_, s_Mo_days (by rw [e236]; exact hS) (by rw [e236]; exact hI) (by rw [e234]; exact p1) (by omega) hn, ?_⟩
      · rw [e_EM_days, q_EM_days_0, e236, if_pos c1]
        simp (disch := omega) only [s0, b_min, s_Pa_keep p3 (by omega), k1, ↓bc_0, ↓br_0_3, ↓bc_26, ↓br_0_5, ↓bc_50, ↓b_t0, ↓b_t1, ↓b_t2, ↓b_t3, ↓b_t4, ↓b_t5, ↓b_t6, Nat.zero_add, Nat.le_refl, b_rs, b_rn, b_r2, b_ss, b_sn, b_bt, b_bf, b_b0, b_b1, b_bw, b_shl, b_or, b_iv, b_jv, b_sI, b_sJ, ↓z_hl, z_b0, z_b1, z_b2, b_and1c, b_and1z, if_true, if_false, nI_add, pk_mul, b_cl, b_lt, b_le, b_eq, b_eq0, b_le0, b_0lt, b_0le, b_lt0]
        rw [if_neg (by omega), if_pos c1.2, if_neg (by omega)]
      · rw [e236, if_pos ⟨c1.1, c1.2, c2⟩]
        exact r_R_deed2 h (fun c p1 p2 => k2 c (by omega)) k3 g2 (fun i hi => g4 i (by omega))
    · refine ⟨m, j, _, j, _, ?_, s_Mo_days hS hI p1 (by omega) hn, ?_⟩
      · rw [e_EM_days, q_EM_days_0, if_pos c1]
        have e2 : m 236 157 = 400 := by omega
        simp (disch := omega) only [s0, b_min, ↓bc_0, ↓br_0_3, ↓bc_26, ↓br_0_5, ↓bc_50, ↓b_t0, ↓b_t1, ↓b_t2, ↓b_t3, ↓b_t4, ↓b_t5, ↓b_t6, Nat.zero_add, Nat.le_refl, b_rs, b_rn, b_r2, b_ss, b_sn, b_bt, b_bf, b_b0, b_b1, b_bw, b_shl, b_or, b_iv, b_jv, b_sI, b_sJ, ↓z_hl, z_b0, z_b1, z_b2, b_and1c, b_and1z, if_true, if_false, nI_add, pk_mul, b_cl, b_lt, b_le, b_eq, b_eq0, b_le0, b_0lt, b_0le, b_lt0]
        rw [if_neg (by omega), if_pos c1.2, if_pos (by omega)]
      · rw [if_neg (fun h => c2 h.2.2)]
        exact r_R_thr h
  · refine ⟨m, j, _, j, _, ?_, s_Mo_days hS hI p1 (by omega) hn, ?_⟩
    · rw [e_EM_days, q_EM_days_0, if_neg c1]
      by_cases c3 : n < 2147483648
      · by_cases c4 : n < 1
        · rw [if_pos (by rw [b_lt c3 (by decide)]; exact c4)]
        · rw [if_neg (by rw [b_lt c3 (by decide)]; exact c4), if_neg (by rw [b_le c3 (by decide)]; omega)]
      · rw [if_pos (by rw [b_ltn (by omega) hn (by decide)]; trivial)]
    · rw [if_neg (fun h => c1 ⟨h.1, h.2.1⟩)]
      exact r_R_thr h
/-! undoing -/
theorem s_Mo_undo (hk : m 234 23 ≤ 8) (hD : 1 ≤ D) : a_ex X tx a_T D 256 [.ref 234] (b_h m j w) = some ((b_h (if m 234 23 = 0 then b_r m 234 (b_s (m 234) 0 0) else b_r (b_r m 234 (b_s (b_s (m 234) 0 0) 23 (m 234 23 - 1))) 236 (w_rowS (m 236) (m 241) (m 234 23 - 1))) j w), some (.int (nI (if m 234 23 = 0 then 4294967295 else m 234 23 - 1)))) := by
  obtain ⟨d, rfl⟩ : ∃ d, D = d + 1 := ⟨D - 1, by omega⟩
  rw [e_Mo_undo, q_Mo_undo_0]
  by_cases c : m 234 23 = 0
  · rw [if_pos c, if_pos c]
    simp (disch := omega) only [c, ↓bc_234, ↓br_234_6, ↓bc_236, ↓bx_236, bl_236, ↓br_234_21, ↓bc_241, ↓bx_241, bl_241, ↓b_t0, ↓b_t1, ↓b_t2, ↓b_t3, ↓b_t4, ↓b_t5, ↓b_t6, Nat.zero_add, Nat.le_refl, b_rs, b_rn, b_r2, b_ss, b_sn, b_bt, b_bf, b_b0, b_b1, b_bw, b_shl, b_or, b_iv, b_jv, b_sI, b_sJ, ↓z_hl, z_b0, z_b1, z_b2, b_and1c, b_and1z, if_true, if_false, nI_add, pk_mul, b_cl, b_lt, b_le, b_eq, b_eq0, b_le0, b_0lt, b_0le, b_lt0]
  · rw [if_neg c, if_neg c]
    simp (disch := omega) only [b_sub, ↓bc_234, ↓br_234_6, ↓bc_236, ↓bx_236, bl_236, ↓br_234_21, ↓bc_241, ↓bx_241, bl_241, ↓b_t0, ↓b_t1, ↓b_t2, ↓b_t3, ↓b_t4, ↓b_t5, ↓b_t6, Nat.zero_add, Nat.le_refl, b_rs, b_rn, b_r2, b_ss, b_sn, b_bt, b_bf, b_b0, b_b1, b_bw, b_shl, b_or, b_iv, b_jv, b_sI, b_sJ, ↓z_hl, z_b0, z_b1, z_b2, b_and1c, b_and1z, if_true, if_false, nI_add, pk_mul, b_cl, b_lt, b_le, b_eq, b_eq0, b_le0, b_0lt, b_0le, b_lt0]
    rw [if_neg c, ← l_Mo_undo_16]
    refine z_lp (fun n => [.ref 234, .int (nI n)]) (fun n => b_h (b_r (b_r m 234 (b_s (b_s (m 234) 0 0) 23 (m 234 23 - 1))) 236 (b_rg (m 236) 157 n fun q => m 241 (195 * (m 234 23 - 1) + q))) j w) 195 0 rfl (by rw [b_rg0, b_ri (b_rn (by decide))]) ?_ ?_ _ (z_fu (by omega))
    · intro n hn f _
      rw [l_Mo_undo_16, q_Mo_undo_16]
      simp (disch := omega) only [↓bc_234, ↓br_234_6, ↓bc_236, ↓bx_236, bl_236, ↓br_234_21, ↓bc_241, ↓bx_241, bl_241, ↓b_t0, ↓b_t1, ↓b_t2, ↓b_t3, ↓b_t4, ↓b_t5, ↓b_t6, Nat.zero_add, Nat.le_refl, b_rs, b_rn, b_r2, b_ss, b_sn, b_bt, b_bf, b_b0, b_b1, b_bw, b_shl, b_or, b_iv, b_jv, b_sI, b_sJ, ↓z_hl, z_b0, z_b1, z_b2, b_and1c, b_and1z, if_true, if_false, nI_add, pk_mul, b_cl, b_lt, b_le, b_eq, b_eq0, b_le0, b_0lt, b_0le, b_lt0]
      rw [if_neg (by omega), b_rg1]
    · intro f _
      rw [l_Mo_undo_16, q_Mo_undo_16]
      simp (disch := omega) only [↓bc_234, ↓br_234_6, ↓bc_236, ↓bx_236, bl_236, ↓br_234_21, ↓bc_241, ↓bx_241, bl_241, ↓b_t0, ↓b_t1, ↓b_t2, ↓b_t3, ↓b_t4, ↓b_t5, ↓b_t6, Nat.zero_add, Nat.le_refl, b_rs, b_rn, b_r2, b_ss, b_sn, b_bt, b_bf, b_b0, b_b1, b_bw, b_shl, b_or, b_iv, b_jv, b_sI, b_sJ, ↓z_hl, z_b0, z_b1, z_b2, b_and1c, b_and1z, if_true, if_false, nI_add, pk_mul, b_cl, b_lt, b_le, b_eq, b_eq0, b_le0, b_0lt, b_0le, b_lt0]
      rfl
theorem t_undo (h : r_R m j) (hD : 10 ≤ D) : w_step X tx D 165 256 [] m j w := by
  have hS := r_R_st h
  obtain ⟨p1, p2, p3, p4⟩ := r_R_pa h
  obtain ⟨d, rfl⟩ : ∃ d, D = d + 1 := ⟨D - 1, by omega⟩
  by_cases c : m 234 23 = 0
  · refine ⟨m, j, _, j, _, ?_, s_Mo_undo p1 (by omega), ?_⟩
    · rw [e_EM_undo, q_EM_undo_0, if_pos c]
      simp (disch := omega) only [s_Pa_takeBack0 (show m 50 1 = 0 by omega), ↓bc_0, ↓br_0_5, ↓bc_50, ↓br_0_3, ↓bc_26, ↓b_t0, ↓b_t1, ↓b_t2, ↓b_t3, ↓b_t4, ↓b_t5, ↓b_t6, Nat.zero_add, Nat.le_refl, b_rs, b_rn, b_r2, b_ss, b_sn, b_bt, b_bf, b_b0, b_b1, b_bw, b_shl, b_or, b_iv, b_jv, b_sI, b_sJ, ↓z_hl, z_b0, z_b1, z_b2, b_and1c, b_and1z, if_true, if_false, nI_add, pk_mul, b_cl, b_lt, b_le, b_eq, b_eq0, b_le0, b_0lt, b_0le, b_lt0]
    · rw [if_pos c]; exact r_R_thr h
  · have e50 : ∀ c, (c < 26 ∨ 37 < c) → c ≠ 50 → w_pb m c = m c := fun c h1 h2 => by
      unfold w_pb
      rw [b_rn h2]
      exact w_cpA_fr c h1
    refine ⟨w_pb m, j, _, j, _, ?_, s_Mo_undo (by rw [e50 234 (by omega) (by omega)]; exact p1) (by omega), ?_⟩
    · rw [e_EM_undo, q_EM_undo_0, e50 234 (by omega) (by omega), if_neg c]
      have s1 := s_Pa_takeBack (X := X) (tx := tx) (D := d) (m := m) (j := j) (w := w) p3 (by omega) (by omega) (by omega)
      simp (disch := omega) only [s1, ↓bc_0, ↓br_0_5, ↓bc_50, ↓br_0_3, ↓bc_26, ↓b_t0, ↓b_t1, ↓b_t2, ↓b_t3, ↓b_t4, ↓b_t5, ↓b_t6, Nat.zero_add, Nat.le_refl, b_rs, b_rn, b_r2, b_ss, b_sn, b_bt, b_bf, b_b0, b_b1, b_bw, b_shl, b_or, b_iv, b_jv, b_sI, b_sJ, ↓z_hl, z_b0, z_b1, z_b2, b_and1c, b_and1z, if_true, if_false, nI_add, pk_mul, b_cl, b_lt, b_le, b_eq, b_eq0, b_le0, b_0lt, b_0le, b_lt0]
      rw [p2]
    · rw [e50 234 (by omega) (by omega), if_neg c, e50 236 (by omega) (by omega), e50 241 (by omega) (by omega)]
      obtain ⟨g1, g2⟩ := p4 (m 234 23 - 1) (by omega)
      rw [show (m 50 2 + 8 - m 234 23 + (m 234 23 - 1)) % 8 = (m 50 2 + 7) % 8 by omega] at g1
      have hrow : ∀ i, i < 157 ∨ 352 ≤ i → w_rowS (m 236) (m 241) (m 234 23 - 1) i = m 236 i := fun i hi => b_rgo (by omega)
      have hS2 : i_S (w_rowS (m 236) (m 241) (m 234 23 - 1)) := i_S_ext (fun i hi => hrow i (by omega)) hS
      have hsame : w_same m (w_pb m) := ⟨fun c hc => e50 c (by omega) (by omega), fun k _ => by rw [e50 0 (by omega) (by omega)], by rw [e50 1 (by omega) (by omega)], fun k _ => by rw [e50 156 (by omega) (by omega)], by rw [e50 162 (by omega) (by omega)], by rw [e50 167 (by omega) (by omega)], fun k _ => by rw [e50 234 (by omega) (by omega)]⟩
      have k236 : (b_r (b_r (w_pb m) 234 (b_s (b_s (m 234) 0 0) 23 (m 234 23 - 1))) 236 (w_rowS (m 236) (m 241) (m 234 23 - 1))) 236 = w_rowS (m 236) (m 241) (m 234 23 - 1) := b_rs
      refine r_R_upd h ?_ (by rw [k236]; exact g2) ?_ (by rw [k236]; exact hrow) ?_
      · refine ⟨fun c hc => by rw [b_rn (by omega), b_rn (by omega)]; exact hsame.1 c hc, fun k hk => by rw [b_rn (by omega), b_rn (by omega)]; exact hsame.2.1 k hk, by rw [b_rn (by omega), b_rn (by omega)]; exact hsame.2.2.1, fun k hk => by rw [b_rn (by omega), b_rn (by omega)]; exact hsame.2.2.2.1 k hk, by rw [b_rn (by omega), b_rn (by omega)]; exact hsame.2.2.2.2.1, by rw [b_rn (by omega), b_rn (by omega)]; exact hsame.2.2.2.2.2.1, fun k hk => by rw [b_rn (by omega), b_rs, b_sn (by omega), b_sn (by omega)]⟩
      · rw [k236]
        refine c_A_ext (m := w_cpA m 26 (52 + 12 * ((m 50 2 + 7) % 8))) (fun c q1 q2 => ?_) (c_A_cp (by omega) hS2 g1)
        rw [b_rn (by omega), b_rn (by omega)]
        unfold w_pb
        exact b_rn (by omega)
      · rw [k236, b_rn (by decide), b_rn (by decide), e50 241 (by omega) (by omega), b_rn (by decide), b_rs, b_ss]
        have e5 : w_pb m 50 = b_s (b_s (m 50) 2 ((m 50 2 + 7) % 8)) 1 (m 50 1 - 1) := by unfold w_pb; rw [b_rs]
        have e6 : (b_r (b_r (w_pb m) 234 (b_s (b_s (m 234) 0 0) 23 (m 234 23 - 1))) 236 (w_rowS (m 236) (m 241) (m 234 23 - 1))) 50 = w_pb m 50 := by rw [b_rn (by decide), b_rn (by decide)]
        refine ⟨by omega, by rw [e6, e5, b_ss, p2], by rw [e6, e5, b_sn (by decide), b_ss]; omega, fun r hr => ?_⟩
        obtain ⟨q1, q2⟩ := p4 r (by omega)
        rw [e6, e5, b_sn (by decide), b_ss, w_rowS_ext hrow]
        rw [show ((m 50 2 + 7) % 8 + 8 - (m 234 23 - 1) + r) % 8 = (m 50 2 + 8 - m 234 23 + r) % 8 by omega]
        refine ⟨c_A_ext (fun c z1 z2 => ?_) q1, q2⟩
        have : (m 50 2 + 8 - m 234 23 + r) % 8 < 8 := Nat.mod_lt _ (by decide)
        rw [b_rn (by omega), b_rn (by omega), e50 c (by omega) (by omega)]
/-! days by draws -/
theorem w_dm_km {x : Nat} {s : Nat → Nat} : w_dm (w_km m) (x, s) = b_r (b_r (b_r m 234 (b_s (b_s (b_s (m 234) 0 0) 23 (w_keepN (m 234 23))) 40 x)) 236 s) 241 (w_keepU (m 241) (m 236) (m 234 23)) := by
  unfold w_dm w_km
  simp (disch := omega) only [b_rs, b_rn, b_r2, b_rx (c2 := 234) (c := 241) (by decide), b_rx (c2 := 236) (c := 241) (by decide)]
theorem s_Mo_drawn (hS : i_S (m 236)) (hI : i_D (m 236)) (hk : m 234 23 ≤ 8) (hD : 8 ≤ D) {n x : Nat} (hn : n < 4294967296) (h2 : 0 < m 236 2) (h3 : 0 < m 236 3) (c1 : 1 ≤ n ∧ n ≤ 60) : a_ex X tx a_T D 296 [.ref 234, .int (nI n), .int (nI x)] (b_h m j w) = some ((b_h (w_dm (if m 236 157 < 400 then w_km m else b_r m 234 (b_s (m 234) 0 0)) (w_ddays x (m 236) (min n (400 - m 236 157)))) j w), some (.int (nI (min n (400 - m 236 157))))) := by
  obtain ⟨d, rfl⟩ : ∃ d, D = d + 1 := ⟨D - 1, by omega⟩
  rw [e_Mo_drawn, q_Mo_drawn_0]
  have hS2 : i_S ((b_r m 234 (b_s (m 234) 0 0)) 236) := by rw [b_rn (by decide)]; exact hS
  have hI2 : i_D ((b_r m 234 (b_s (m 234) 0 0)) 236) := by rw [b_rn (by decide)]; exact hI
  have qq : (b_r m 234 (b_s (m 234) 0 0)) 236 = m 236 := b_rn (by decide)
  have q0 : (b_r m 234 (b_s (m 234) 0 0)) 236 0 = m 236 0 := by rw [qq]
  have q1 : (b_r m 234 (b_s (m 234) 0 0)) 236 1 = m 236 1 := by rw [qq]
  have q2 : (b_r m 234 (b_s (m 234) 0 0)) 236 2 = m 236 2 := by rw [qq]
  have q3 : (b_r m 234 (b_s (m 234) 0 0)) 236 3 = m 236 3 := by rw [qq]
  have hK := i_S_K hS
  have hM := i_S_M hS
  have hT := i_S_T hS
  have hE := i_S_E hS
  have hda := i_D_da hI
  have e1 : decide (1 ≤ n ∧ n ≤ 60) = true := decide_eq_true c1
  by_cases c2 : m 236 157 < 400
  · rw [if_pos c2]
    have s1 := s_Mo_draws (X := X) (tx := tx) (D := d) (m := w_km m) (j := j) (w := w) (by rw [w_km_s]; exact hS) (by rw [w_km_s]; exact hI) (by rw [w_km_s]; exact h2) (by rw [w_km_s]; exact h3) (by omega) (q := n) (x := x) (by omega)
    rw [w_km_s] at s1
    simp (disch := omega) only [s_Mo_isIn, e1, s_Mo_keepT hk, s1, ↓bc_234, ↓br_234_6, ↓bc_236, ↓bx_236, bl_236, ↓b_t0, ↓b_t1, ↓b_t2, ↓b_t3, ↓b_t4, ↓b_t5, ↓b_t6, Nat.zero_add, Nat.le_refl, b_rs, b_rn, b_r2, b_ss, b_sn, b_bt, b_bf, b_b0, b_b1, b_bw, b_shl, b_or, b_iv, b_jv, b_sI, b_sJ, ↓z_hl, z_b0, z_b1, z_b2, b_and1c, b_and1z, if_true, if_false, nI_add, pk_mul, b_cl, b_lt, b_le, b_eq, b_eq0, b_le0, b_0lt, b_0le, b_lt0]
    rw [if_neg (by decide), if_neg (by omega), if_neg (by omega), if_neg (by omega)]
  · rw [if_neg c2]
    have s1 := s_Mo_draws (X := X) (tx := tx) (D := d) (m := b_r m 234 (b_s (m 234) 0 0)) (j := j) (w := w) hS2 hI2 (by rw [qq]; exact h2) (by rw [qq]; exact h3) (by omega) (q := n) (x := x) (by omega)
    rw [qq] at s1
    simp (disch := omega) only [s_Mo_isIn, e1, s1, ↓bc_234, ↓br_234_6, ↓bc_236, ↓bx_236, bl_236, ↓b_t0, ↓b_t1, ↓b_t2, ↓b_t3, ↓b_t4, ↓b_t5, ↓b_t6, Nat.zero_add, Nat.le_refl, b_rs, b_rn, b_r2, b_ss, b_sn, b_bt, b_bf, b_b0, b_b1, b_bw, b_shl, b_or, b_iv, b_jv, b_sI, b_sJ, ↓z_hl, z_b0, z_b1, z_b2, b_and1c, b_and1z, if_true, if_false, nI_add, pk_mul, b_cl, b_lt, b_le, b_eq, b_eq0, b_le0, b_0lt, b_0le, b_lt0]
    rw [if_neg (by decide), if_neg (by omega), if_neg (by omega), if_pos (by omega)]
theorem s_Mo_drawnN (hS : i_S (m 236)) (hI : i_D (m 236)) (hD : 3 ≤ D) {n x : Nat} (hn : n < 4294967296) (hc : ¬ (0 < m 236 2 ∧ 0 < m 236 3 ∧ 1 ≤ n ∧ n ≤ 60)) : a_ex X tx a_T D 296 [.ref 234, .int (nI n), .int (nI x)] (b_h m j w) = some ((b_h (b_r m 234 (b_s (m 234) 0 0)) j w), some (.int (nI (4294967295)))) := by
  obtain ⟨d, rfl⟩ : ∃ d, D = d + 1 := ⟨D - 1, by omega⟩
  rw [e_Mo_drawn, q_Mo_drawn_0]
  have hS2 : i_S ((b_r m 234 (b_s (m 234) 0 0)) 236) := by rw [b_rn (by decide)]; exact hS
  have hI2 : i_D ((b_r m 234 (b_s (m 234) 0 0)) 236) := by rw [b_rn (by decide)]; exact hI
  have qq : (b_r m 234 (b_s (m 234) 0 0)) 236 = m 236 := b_rn (by decide)
  have q0 : (b_r m 234 (b_s (m 234) 0 0)) 236 0 = m 236 0 := by rw [qq]
  have q1 : (b_r m 234 (b_s (m 234) 0 0)) 236 1 = m 236 1 := by rw [qq]
  have q2 : (b_r m 234 (b_s (m 234) 0 0)) 236 2 = m 236 2 := by rw [qq]
  have q3 : (b_r m 234 (b_s (m 234) 0 0)) 236 3 = m 236 3 := by rw [qq]
  have hK := i_S_K hS
  have hM := i_S_M hS
  have hT := i_S_T hS
  have hE := i_S_E hS
  by_cases c1 : 1 ≤ n ∧ n ≤ 60
  · have e1 : decide (1 ≤ n ∧ n ≤ 60) = true := decide_eq_true c1
    simp (disch := omega) only [s_Mo_isIn, e1, ↓bc_234, ↓br_234_6, ↓bc_236, ↓bx_236, bl_236, ↓b_t0, ↓b_t1, ↓b_t2, ↓b_t3, ↓b_t4, ↓b_t5, ↓b_t6, Nat.zero_add, Nat.le_refl, b_rs, b_rn, b_r2, b_ss, b_sn, b_bt, b_bf, b_b0, b_b1, b_bw, b_shl, b_or, b_iv, b_jv, b_sI, b_sJ, ↓z_hl, z_b0, z_b1, z_b2, b_and1c, b_and1z, if_true, if_false, nI_add, pk_mul, b_cl, b_lt, b_le, b_eq, b_eq0, b_le0, b_0lt, b_0le, b_lt0]
    rw [if_neg (by decide)]
    by_cases c2 : m 236 3 = 0
    · rw [if_pos c2]
    · rw [if_neg c2, if_pos (by omega)]
  · have e1 : decide (1 ≤ n ∧ n ≤ 60) = false := decide_eq_false c1
    simp (disch := omega) only [s_Mo_isIn, e1, ↓bc_234, ↓br_234_6, ↓bc_236, ↓bx_236, bl_236, ↓b_t0, ↓b_t1, ↓b_t2, ↓b_t3, ↓b_t4, ↓b_t5, ↓b_t6, Nat.zero_add, Nat.le_refl, b_rs, b_rn, b_r2, b_ss, b_sn, b_bt, b_bf, b_b0, b_b1, b_bw, b_shl, b_or, b_iv, b_jv, b_sI, b_sJ, ↓z_hl, z_b0, z_b1, z_b2, b_and1c, b_and1z, if_true, if_false, nI_add, pk_mul, b_cl, b_lt, b_le, b_eq, b_eq0, b_le0, b_0lt, b_0le, b_lt0]
theorem t_drawn (h : r_R m j) (hD : 12 ≤ D) {n x : Nat} (hn : n < 4294967296) : w_step X tx D 184 296 [.int (nI n), .int (nI x)] m j w := by
  have hS := r_R_st h
  have hI := r_R_dy h
  have hF := r_R_fa h
  have hA := r_R_af h
  have hda := i_D_da hI
  have hT := i_S_T hS
  have hE := i_S_E hS
  have fT := c_F4_T hF
  have fE := c_F4_E hF
  obtain ⟨p1, p2, p3, p4⟩ := r_R_pa h
  obtain ⟨d, rfl⟩ : ∃ d, D = d + 1 := ⟨D - 1, by omega⟩
  by_cases c : 0 < m 236 2 ∧ 0 < m 236 3 ∧ 1 ≤ n ∧ n ≤ 60
  · obtain ⟨c2, c3, c1⟩ := c
    have s0 := s_Af_daysLeft26 (X := X) (tx := tx) (D := d) (j := j) (w := w) hA hI (by omega)
    by_cases c4 : m 236 157 < 400
    · have hF1 : c_F (w_pk m) 4 (m 236) := c_F_ext (fun c p1 p2 => w_pk_same p3 (by omega)) (fun _ _ => rfl) hS hF
      have hA1 : c_A (w_pk m) 26 (m 236) := c_A_ext (fun c p1 p2 => w_pk_same p3 (by omega)) hA
      obtain ⟨m2, k1, k2, k3⟩ := s_Dr_live26 (X := X) (tx := tx) (D := d) (m := w_pk m) (j := j) (w := w) hF1 hA1 hS hI c2 c3 (by omega) (N := min n (400 - m 236 157)) (x := x) (by omega)
      have e236 : m2 236 = m 236 := by rw [k2 236 (by omega) (by omega), w_pk_same p3 (by omega)]
      have e234 : m2 234 = m 234 := by rw [k2 234 (by omega) (by omega), w_pk_same p3 (by omega)]
      have e241 : m2 241 = m 241 := by rw [k2 241 (by omega) (by omega), w_pk_same p3 (by omega)]
      obtain ⟨g1, g2, g3, g4⟩ := w_ddays_ok (x := x) hS hI c2 c3 (min n (400 - m 236 157)) (by omega)
      refine ⟨m2, j, _, j, _, ?_, s_Mo_drawn (by rw [e236]; exact hS) (by rw [e236]; exact hI) (by rw [e234]; exact p1) (by omega) hn (by rw [e236]; exact c2) (by rw [e236]; exact c3) c1, ?_⟩
      · rw [e_EM_drawn, q_EM_drawn_0, e236]
        simp (disch := omega) only [s0, fT, fE, b_min, s_Pa_keep p3 (by omega), k1, ↓bc_0, ↓br_0_1, ↓bc_4, ↓br_0_3, ↓bc_26, ↓br_0_5, ↓bc_50, ↓br_0_12, ↓bc_176, ↓b_t0, ↓b_t1, ↓b_t2, ↓b_t3, ↓b_t4, ↓b_t5, ↓b_t6, Nat.zero_add, Nat.le_refl, b_rs, b_rn, b_r2, b_ss, b_sn, b_bt, b_bf, b_b0, b_b1, b_bw, b_shl, b_or, b_iv, b_jv, b_sI, b_sJ, ↓z_hl, z_b0, z_b1, z_b2, b_and1c, b_and1z, if_true, if_false, nI_add, pk_mul, b_cl, b_lt, b_le, b_eq, b_eq0, b_le0, b_0lt, b_0le, b_lt0]
        rw [if_neg (by omega), if_neg (by omega), if_neg (by omega), if_neg (by omega), if_neg (by omega)]
      · rw [e236, if_pos c4]
        have := w_dm_km (m := m2) (x := (w_ddays x (m 236) (min n (400 - m 236 157))).1) (s := (w_ddays x (m 236) (min n (400 - m 236 157))).2)
        show r_R (w_dm (w_km m2) ((w_ddays x (m 236) (min n (400 - m 236 157))).1, (w_ddays x (m 236) (min n (400 - m 236 157))).2)) j
        rw [this, e234, e241, e236]
        exact r_R_deed h (fun c p1 p2 => k2 c (by omega) p2) k3 g2 g3 (by rw [b_sn (by decide), b_ss]) (fun k hk => by rw [b_sn (by omega), b_sn (by omega), b_sn (by omega)])
    · refine ⟨m, j, _, j, _, ?_, s_Mo_drawn hS hI p1 (by omega) hn c2 c3 c1, ?_⟩
      · rw [e_EM_drawn, q_EM_drawn_0]
        have e2 : m 236 157 = 400 := by omega
        simp (disch := omega) only [s0, fT, fE, b_min, ↓bc_0, ↓br_0_1, ↓bc_4, ↓br_0_3, ↓bc_26, ↓br_0_5, ↓bc_50, ↓br_0_12, ↓bc_176, ↓b_t0, ↓b_t1, ↓b_t2, ↓b_t3, ↓b_t4, ↓b_t5, ↓b_t6, Nat.zero_add, Nat.le_refl, b_rs, b_rn, b_r2, b_ss, b_sn, b_bt, b_bf, b_b0, b_b1, b_bw, b_shl, b_or, b_iv, b_jv, b_sI, b_sJ, ↓z_hl, z_b0, z_b1, z_b2, b_and1c, b_and1z, if_true, if_false, nI_add, pk_mul, b_cl, b_lt, b_le, b_eq, b_eq0, b_le0, b_0lt, b_0le, b_lt0]
        rw [if_neg (by omega), if_neg (by omega), if_neg (by omega), if_neg (by omega), if_pos (by omega)]
      · rw [if_neg c4, show min n (400 - m 236 157) = 0 by omega]
        have h2 := r_R_thr (v := 0) h
        have e3 : w_dm (b_r m 234 (b_s (m 234) 0 0)) (w_ddays x (m 236) 0) = b_r (b_r m 234 (b_s (m 234) 0 0)) 234 (b_s ((b_r m 234 (b_s (m 234) 0 0)) 234) 40 x) := by
          unfold w_dm
          show b_r (b_r _ 234 (b_s _ 40 x)) 236 (m 236) = _
          rw [b_ri]
          rw [b_rn (by decide), b_rn (by decide)]
        rw [e3]
        exact r_R_idle h2 (w_same_s (by omega)) (b_rn (by decide)) (fun c hc => b_rn (by omega)) (b_rn (by decide)) (by rw [b_rs, b_sn (by decide)])
  · refine ⟨m, j, _, j, _, ?_, s_Mo_drawnN hS hI (by omega) hn c, r_R_thr h⟩
    rw [e_EM_drawn, q_EM_drawn_0]
    by_cases c3 : n < 2147483648
    · by_cases c4 : n < 1
      · rw [if_pos (by rw [b_lt c3 (by decide)]; exact c4)]
      · rw [if_neg (by rw [b_lt c3 (by decide)]; exact c4)]
        by_cases c5 : 60 < n
        · rw [if_pos (by rw [b_lt (by decide) c3]; exact c5)]
        · rw [if_neg (by rw [b_lt (by decide) c3]; exact c5)]
          simp (disch := omega) only [fT, fE, ↓bc_0, ↓br_0_1, ↓bc_4, ↓br_0_3, ↓bc_26, ↓br_0_5, ↓bc_50, ↓br_0_12, ↓bc_176, ↓b_t0, ↓b_t1, ↓b_t2, ↓b_t3, ↓b_t4, ↓b_t5, ↓b_t6, Nat.zero_add, Nat.le_refl, b_rs, b_rn, b_r2, b_ss, b_sn, b_bt, b_bf, b_b0, b_b1, b_bw, b_shl, b_or, b_iv, b_jv, b_sI, b_sJ, ↓z_hl, z_b0, z_b1, z_b2, b_and1c, b_and1z, if_true, if_false, nI_add, pk_mul, b_cl, b_lt, b_le, b_eq, b_eq0, b_le0, b_0lt, b_0le, b_lt0]
          by_cases c6 : m 236 3 = 0
          · rw [if_pos c6]
          · rw [if_neg c6, if_pos (by omega)]
    · rw [if_pos (by rw [b_ltn (by omega) hn (by decide)]; trivial)]
end D3
