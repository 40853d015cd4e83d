/-! IMAGES -/
theorem i_D_ext {s r : Nat → Nat} (h : ∀ i, i < 352 → r i = s i) (hS : i_S s) (hI : i_D s) : i_D r := by
  have e0 := h 0 (by decide)
  have e1 := h 1 (by decide)
  have e2 := h 2 (by decide)
  have e3 := h 3 (by decide)
  have hT := i_S_T hS
  have hE := i_S_E hS
  unfold i_D
  rw [e0, e1, e2, e3, h 157 (by decide), h 281 (by decide), h 158 (by decide)]
  refine ⟨i_D_da hI, ?_, ?_, ?_, ?_, ?_, ?_, ?_, ?_, ?_, ?_, i_D_we hI, ?_, ?_, ?_, ?_, ?_, ?_, i_D_dk hI⟩
  · rw [z_sum_congr _ (fun i hi => h (159 + i) (by omega))]; exact i_D_co hI
  · intro i hi h6; rw [h _ (by omega)]; exact i_D_coz hI i hi h6
  · intro t ht k hk; rw [h _ (by omega)]; exact i_D_op hI t ht k hk
  · intro t ht k h4 hk; rw [h _ (by omega)]; exact i_D_opk hI t ht k h4 hk
  · intro t h4 ht k hk; rw [h _ (by omega)]; exact i_D_opt hI t h4 ht k hk
  · intro i hi; rw [h _ (by omega)]; exact i_D_ha hI i hi
  · intro i hi; rw [h _ (by omega)]; exact i_D_pr hI i hi
  · intro i hi; rw [h _ (by omega)]; exact i_D_pu hI i hi
  · intro i hi; rw [h _ (by omega), h _ (by omega)]; exact i_D_pz hI i hi
  · intro i hi; rw [h _ (by omega), h _ (by omega)]; exact i_D_po hI i hi
  · intro i h4
    obtain ⟨g1, g2, g3⟩ := i_D_wp hI i h4
    rw [h _ (by omega), h _ (by omega)]
    exact ⟨g1, g2, g3⟩
  · intro i hi; rw [h (241 + i) (by omega), h (147 + i) (by omega), h (271 + i) (by omega)]; exact i_D_wa hI i hi
  · intro i hi k hk; rw [h _ (by omega)]; exact i_D_sh hI i hi k hk
  · intro i hi k h4 hk; rw [h _ (by omega)]; exact i_D_shk hI i hi k h4 hk
  · intro t ht
    rw [h _ (by omega), i_D_pg hI t ht]
    exact z_sum_congr _ (fun i hi => by rw [h _ (by omega)])
  · intro t ht
    rw [h _ (by omega), i_D_wo hI t ht]
    exact z_sum_congr _ (fun i hi => by rw [h _ (by omega)])
theorem c_A_exts {m : Nat → Nat → Nat} {a : Nat} {s r : Nat → Nat} (h : ∀ i, i < 352 → r i = s i) (hS : i_S s) (hA : c_A m a s) : c_A m a r := by
  have hT := i_S_T hS
  have hE := i_S_E hS
  have hM := i_S_M hS
  have hK := i_S_K hS
  unfold c_A at hA ⊢
  rw [h 0 (by decide), h 1 (by decide), h 3 (by decide), h 157 (by decide), h 281 (by decide)]
  obtain ⟨h1, h2, h3, h4, h5, h6, h7, h8, h9, h10, h11, h12⟩ := hA
  refine ⟨h1, ?_, ?_, ?_, ?_, ?_, ?_, ?_, ?_, h10, ?_, ?_⟩
  · intro i hi; rw [h _ (by omega)]; exact h2 i hi
  · intro i hi; rw [h _ (by omega)]; exact h3 i hi
  · intro i hi; rw [h _ (by omega)]; exact h4 i hi
  · intro t ht k hk; rw [h _ (by omega)]; exact h5 t ht k hk
  · intro i hi; rw [h _ (by omega)]; exact h6 i hi
  · intro i hi; rw [h _ (by omega)]; exact h7 i hi
  · intro i hi; rw [h (241 + i) (by omega), h (261 + i) (by omega)]; exact h8 i hi
  · intro i hi; rw [h (241 + i) (by omega), h (271 + i) (by omega)]; exact h9 i hi
  · intro i hi; rw [h _ (by omega)]; exact h11 i hi
  · intro i hi hp k hk; rw [h _ (by omega)] at hp; rw [h _ (by omega)]; exact h12 i hi hp k hk
theorem r_N_N {so nu : Nat → Nat} {c : Nat} {L N M s : Nat → Nat} (hS : i_S s) (h : ∀ i, i < 30 → M i = N i) (hN : r_N so nu c L N s) : r_N so nu c L M s := by
  obtain ⟨h1, h2, h3, h4⟩ := hN
  have hT := i_S_T hS
  have hE := i_S_E hS
  have hM := i_S_M hS
  have hK := i_S_K hS
  refine ⟨h1, fun i hi => ?_, h3, h4⟩
  obtain ⟨g1, g2, g3⟩ := h2 i hi
  refine ⟨g1, g2, ?_⟩
  rw [h _ ?_]
  · exact g3
  · unfold w_base
    obtain q | q | q | q : so i = 0 ∨ so i = 1 ∨ so i = 2 ∨ so i = 3 := by omega
    all_goals rw [q] at g2 ⊢; simp; omega
section IM
variable {X : Nat × (Nat → Int32)} {tx : List Int32} {D : Nat} {m j : Nat → Nat → Nat} {w : (Nat × Nat) × Bool} {r : A_R}
theorem b_k177 : (a_kd (b_h m j w) 177 = 104 ∨ a_kd (b_h m j w) 177 = 105) = True := eq_true (Or.inr rfl)
theorem b_img0 {f : Nat → A_R} : a_fo (a_rf (b_h m j w) 177 0) f = f 178 := z_id rfl
def w_imC0 (m : Nat → Nat → Nat) : Nat → Nat → Nat := b_r (w_cpS (w_cpA (w_cpF m 179 4) 190 26) 202 148) 178 (b_s (m 178) 3 1)
theorem s_Im_keep0 (hD : 2 ≤ D) : a_ex X tx a_T D 150 [.ref 178, .ref 4, .ref 26, .ref 148] (b_h m j w) = some (b_h (w_imC0 m) (w_cpN j 179 4) w, none) := by
  obtain ⟨d, rfl⟩ : ∃ d, D = d + 1 := ⟨D - 1, by omega⟩
  rw [e_Im_keep, q_Im_keep_0]
  have s1 := s_Fa_copy (X := X) (tx := tx) (D := d) (m := m) (j := j) (w := w) (a := 179) (b := 4) (by unfold b_isfa; omega) (by unfold b_isfa; omega) (by omega) (by omega)
  have s2 := s_Af_copy (X := X) (tx := tx) (D := d) (m := w_cpF m 179 4) (j := w_cpN j 179 4) (w := w) (a := 190) (b := 26) (by unfold b_isaf; omega) (by unfold b_isaf; omega) (by omega) (by omega)
  have s3 := s_Se_copy (X := X) (tx := tx) (D := d) (m := w_cpA (w_cpF m 179 4) 190 26) (j := w_cpN j 179 4) (w := w) (a := 202) (b := 148) (by unfold b_isse; omega) (by unfold b_isse; omega) (by omega) (by omega)
  have e1 : w_cpS (w_cpA (w_cpF m 179 4) 190 26) 202 148 178 = m 178 := (w_cpS_fr 178 (by omega)).trans ((w_cpA_fr 178 (by omega)).trans (w_cpF_fr 178 (by omega)))
  simp (disch := omega) only [s1, s2, s3, e1, ↓bc_178, ↓br_178_0, ↓bc_179, ↓bc_4, ↓br_178_1, ↓bc_190, ↓bc_26, ↓br_178_2, ↓bc_202, ↓bc_148, ↓b_t0, ↓b_t1, ↓b_t2, ↓b_t3, ↓b_t4, ↓b_t5, ↓b_t6, Nat.zero_add, Nat.le_refl, b_rs, b_rn, b_r2, b_ss, b_sn, b_bt, b_bf, b_b0, b_b1, b_bw, b_shl, b_or, b_iv, b_jv, b_sI, b_sJ, ↓z_hl, z_b0, z_b1, z_b2, b_and1c, b_and1z, if_true, if_false, nI_add, pk_mul, b_cl, b_lt, b_le, b_eq, b_eq0, b_le0, b_0lt, b_0le, b_lt0]
  rfl
theorem s_EM_image0 (hD : 3 ≤ D) : a_ex X tx a_T D 190 [.ref 0, .int (nI 0)] (b_h m j w) = some ((b_h (w_imC0 m) (w_cpN j 179 4) w), some (.int (nI (1)))) := by
  obtain ⟨d, rfl⟩ : ∃ d, D = d + 1 := ⟨D - 1, by omega⟩
  rw [e_EM_image, q_EM_image_0]
  have e0 : (nI 0 < 0) = False := b_lt0 (by decide)
  have e1 : (nI 0 < nI 2) = True := by rw [b_lt (by decide) (by decide)]; exact eq_true (by decide)
  simp (disch := omega) only [e0, e1, b_k177, ↓bx_177, b_img0, s_Im_keep0, ↓bc_0, ↓br_0_13, ↓bc_177, ↓bx_177, bl_177, ↓br_0_1, ↓bc_4, ↓br_0_3, ↓bc_26, ↓br_0_6, ↓bc_148, ↓bc_178, ↓b_t0, ↓b_t1, ↓b_t2, ↓b_t3, ↓b_t4, ↓b_t5, ↓b_t6, Nat.zero_add, Nat.le_refl, b_rs, b_rn, b_r2, b_ss, b_sn, b_bt, b_bf, b_b0, b_b1, b_bw, b_shl, b_or, b_iv, b_jv, b_sI, b_sJ, ↓z_hl, z_b0, z_b1, z_b2, b_and1c, b_and1z, if_true, if_false, nI_add, pk_mul, b_cl, b_lt, b_le, b_eq, b_eq0, b_le0, b_0lt, b_0le, b_lt0]
theorem s_EM_restore0 (hk : m 178 3 ≠ 0) (hk2 : m 178 3 < 2) (hD : 3 ≤ D) : a_ex X tx a_T D 191 [.ref 0, .int (nI 0)] (b_h m j w) = some ((b_h (b_r (w_cpS (w_cpA (w_cpF m 4 179) 26 190) 148 202) 50 (b_s (b_s (m 50) 1 0) 2 0)) (w_cpN j 4 179) w), some (.int (nI (1)))) := by
  obtain ⟨d, rfl⟩ : ∃ d, D = d + 1 := ⟨D - 1, by omega⟩
  rw [e_EM_restore, q_EM_restore_0]
  have s1 := s_Fa_copy (X := X) (tx := tx) (D := d) (m := m) (j := j) (w := w) (a := 4) (b := 179) (by unfold b_isfa; omega) (by unfold b_isfa; omega) (by omega) (by omega)
  have s2 := s_Af_copy (X := X) (tx := tx) (D := d) (m := w_cpF m 4 179) (j := w_cpN j 4 179) (w := w) (a := 26) (b := 190) (by unfold b_isaf; omega) (by unfold b_isaf; omega) (by omega) (by omega)
  have s3 := s_Se_copy (X := X) (tx := tx) (D := d) (m := w_cpA (w_cpF m 4 179) 26 190) (j := w_cpN j 4 179) (w := w) (a := 148) (b := 202) (by unfold b_isse; omega) (by unfold b_isse; omega) (by omega) (by omega)
  have e1 : w_cpS (w_cpA (w_cpF m 4 179) 26 190) 148 202 50 = m 50 := (w_cpS_fr 50 (by omega)).trans ((w_cpA_fr 50 (by omega)).trans (w_cpF_fr 50 (by omega)))
  have e0 : (nI 0 < 0) = False := b_lt0 (by decide)
  have e2 : (nI 2 ≤ nI 0) = False := by rw [b_le (by decide) (by decide)]; exact eq_false (by decide)
  simp (disch := omega) only [e0, e2, b_k177, ↓bx_177, b_img0, s1, s2, s3, s_Pa_clear, e1, ↓bc_0, ↓br_0_13, ↓bc_177, ↓bx_177, bl_177, ↓bc_178, ↓br_0_1, ↓bc_4, ↓br_178_0, ↓bc_179, ↓br_0_3, ↓bc_26, ↓br_178_1, ↓bc_190, ↓br_0_6, ↓bc_148, ↓br_178_2, ↓bc_202, ↓br_0_5, ↓bc_50, ↓b_t0, ↓b_t1, ↓b_t2, ↓b_t3, ↓b_t4, ↓b_t5, ↓b_t6, Nat.zero_add, Nat.le_refl, b_rs, b_rn, b_r2, b_ss, b_sn, b_bt, b_bf, b_b0, b_b1, b_bw, b_shl, b_or, b_iv, b_jv, b_sI, b_sJ, ↓z_hl, z_b0, z_b1, z_b2, b_and1c, b_and1z, if_true, if_false, nI_add, pk_mul, b_cl, b_lt, b_le, b_eq, b_eq0, b_le0, b_0lt, b_0le, b_lt0]
  rw [if_neg hk]
theorem s_EM_restoreN0 (hk : m 178 3 = 0) (hD : 3 ≤ D) : a_ex X tx a_T D 191 [.ref 0, .int (nI 0)] (b_h m j w) = some ((b_h m j w), some (.int (nI (0)))) := by
  obtain ⟨d, rfl⟩ : ∃ d, D = d + 1 := ⟨D - 1, by omega⟩
  rw [e_EM_restore, q_EM_restore_0]
  have e0 : (nI 0 < 0) = False := b_lt0 (by decide)
  have e2 : (nI 2 ≤ nI 0) = False := by rw [b_le (by decide) (by decide)]; exact eq_false (by decide)
  simp (disch := omega) only [e0, e2, b_k177, ↓bx_177, b_img0, hk, ↓bc_0, ↓br_0_13, ↓bc_177, ↓bx_177, bl_177, ↓bc_178, ↓br_0_1, ↓bc_4, ↓br_178_0, ↓bc_179, ↓br_0_3, ↓bc_26, ↓br_178_1, ↓bc_190, ↓br_0_6, ↓bc_148, ↓br_178_2, ↓bc_202, ↓br_0_5, ↓bc_50, ↓b_t0, ↓b_t1, ↓b_t2, ↓b_t3, ↓b_t4, ↓b_t5, ↓b_t6, Nat.zero_add, Nat.le_refl, b_rs, b_rn, b_r2, b_ss, b_sn, b_bt, b_bf, b_b0, b_b1, b_bw, b_shl, b_or, b_iv, b_jv, b_sI, b_sJ, ↓z_hl, z_b0, z_b1, z_b2, b_and1c, b_and1z, if_true, if_false, nI_add, pk_mul, b_cl, b_lt, b_le, b_eq, b_eq0, b_le0, b_0lt, b_0le, b_lt0]
theorem b_img1 {f : Nat → A_R} : a_fo (a_rf (b_h m j w) 177 1) f = f 206 := z_id rfl
def w_imC1 (m : Nat → Nat → Nat) : Nat → Nat → Nat := b_r (w_cpS (w_cpA (w_cpF m 207 4) 218 26) 230 148) 206 (b_s (m 206) 3 1)
theorem s_Im_keep1 (hD : 2 ≤ D) : a_ex X tx a_T D 150 [.ref 206, .ref 4, .ref 26, .ref 148] (b_h m j w) = some (b_h (w_imC1 m) (w_cpN j 207 4) w, none) := by
  obtain ⟨d, rfl⟩ : ∃ d, D = d + 1 := ⟨D - 1, by omega⟩
  rw [e_Im_keep, q_Im_keep_0]
  have s1 := s_Fa_copy (X := X) (tx := tx) (D := d) (m := m) (j := j) (w := w) (a := 207) (b := 4) (by unfold b_isfa; omega) (by unfold b_isfa; omega) (by omega) (by omega)
  have s2 := s_Af_copy (X := X) (tx := tx) (D := d) (m := w_cpF m 207 4) (j := w_cpN j 207 4) (w := w) (a := 218) (b := 26) (by unfold b_isaf; omega) (by unfold b_isaf; omega) (by omega) (by omega)
  have s3 := s_Se_copy (X := X) (tx := tx) (D := d) (m := w_cpA (w_cpF m 207 4) 218 26) (j := w_cpN j 207 4) (w := w) (a := 230) (b := 148) (by unfold b_isse; omega) (by unfold b_isse; omega) (by omega) (by omega)
  have e1 : w_cpS (w_cpA (w_cpF m 207 4) 218 26) 230 148 206 = m 206 := (w_cpS_fr 206 (by omega)).trans ((w_cpA_fr 206 (by omega)).trans (w_cpF_fr 206 (by omega)))
  simp (disch := omega) only [s1, s2, s3, e1, ↓bc_206, ↓br_206_0, ↓bc_207, ↓bc_4, ↓br_206_1, ↓bc_218, ↓bc_26, ↓br_206_2, ↓bc_230, ↓bc_148, ↓b_t0, ↓b_t1, ↓b_t2, ↓b_t3, ↓b_t4, ↓b_t5, ↓b_t6, Nat.zero_add, Nat.le_refl, b_rs, b_rn, b_r2, b_ss, b_sn, b_bt, b_bf, b_b0, b_b1, b_bw, b_shl, b_or, b_iv, b_jv, b_sI, b_sJ, ↓z_hl, z_b0, z_b1, z_b2, b_and1c, b_and1z, if_true, if_false, nI_add, pk_mul, b_cl, b_lt, b_le, b_eq, b_eq0, b_le0, b_0lt, b_0le, b_lt0]
  rfl
theorem s_EM_image1 (hD : 3 ≤ D) : a_ex X tx a_T D 190 [.ref 0, .int (nI 1)] (b_h m j w) = some ((b_h (w_imC1 m) (w_cpN j 207 4) w), some (.int (nI (1)))) := by
  obtain ⟨d, rfl⟩ : ∃ d, D = d + 1 := ⟨D - 1, by omega⟩
  rw [e_EM_image, q_EM_image_0]
  have e0 : (nI 1 < 0) = False := b_lt0 (by decide)
  have e1 : (nI 1 < nI 2) = True := by rw [b_lt (by decide) (by decide)]; exact eq_true (by decide)
  simp (disch := omega) only [e0, e1, b_k177, ↓bx_177, b_img1, s_Im_keep1, ↓bc_0, ↓br_0_13, ↓bc_177, ↓bx_177, bl_177, ↓br_0_1, ↓bc_4, ↓br_0_3, ↓bc_26, ↓br_0_6, ↓bc_148, ↓bc_206, ↓b_t0, ↓b_t1, ↓b_t2, ↓b_t3, ↓b_t4, ↓b_t5, ↓b_t6, Nat.zero_add, Nat.le_refl, b_rs, b_rn, b_r2, b_ss, b_sn, b_bt, b_bf, b_b0, b_b1, b_bw, b_shl, b_or, b_iv, b_jv, b_sI, b_sJ, ↓z_hl, z_b0, z_b1, z_b2, b_and1c, b_and1z, if_true, if_false, nI_add, pk_mul, b_cl, b_lt, b_le, b_eq, b_eq0, b_le0, b_0lt, b_0le, b_lt0]
theorem s_EM_restore1 (hk : m 206 3 ≠ 0) (hk2 : m 206 3 < 2) (hD : 3 ≤ D) : a_ex X tx a_T D 191 [.ref 0, .int (nI 1)] (b_h m j w) = some ((b_h (b_r (w_cpS (w_cpA (w_cpF m 4 207) 26 218) 148 230) 50 (b_s (b_s (m 50) 1 0) 2 0)) (w_cpN j 4 207) w), some (.int (nI (1)))) := by
  obtain ⟨d, rfl⟩ : ∃ d, D = d + 1 := ⟨D - 1, by omega⟩
  rw [e_EM_restore, q_EM_restore_0]
  have s1 := s_Fa_copy (X := X) (tx := tx) (D := d) (m := m) (j := j) (w := w) (a := 4) (b := 207) (by unfold b_isfa; omega) (by unfold b_isfa; omega) (by omega) (by omega)
  have s2 := s_Af_copy (X := X) (tx := tx) (D := d) (m := w_cpF m 4 207) (j := w_cpN j 4 207) (w := w) (a := 26) (b := 218) (by unfold b_isaf; omega) (by unfold b_isaf; omega) (by omega) (by omega)
  have s3 := s_Se_copy (X := X) (tx := tx) (D := d) (m := w_cpA (w_cpF m 4 207) 26 218) (j := w_cpN j 4 207) (w := w) (a := 148) (b := 230) (by unfold b_isse; omega) (by unfold b_isse; omega) (by omega) (by omega)
  have e1 : w_cpS (w_cpA (w_cpF m 4 207) 26 218) 148 230 50 = m 50 := (w_cpS_fr 50 (by omega)).trans ((w_cpA_fr 50 (by omega)).trans (w_cpF_fr 50 (by omega)))
  have e0 : (nI 1 < 0) = False := b_lt0 (by decide)
  have e2 : (nI 2 ≤ nI 1) = False := by rw [b_le (by decide) (by decide)]; exact eq_false (by decide)
  simp (disch := omega) only [e0, e2, b_k177, ↓bx_177, b_img1, s1, s2, s3, s_Pa_clear, e1, ↓bc_0, ↓br_0_13, ↓bc_177, ↓bx_177, bl_177, ↓bc_206, ↓br_0_1, ↓bc_4, ↓br_206_0, ↓bc_207, ↓br_0_3, ↓bc_26, ↓br_206_1, ↓bc_218, ↓br_0_6, ↓bc_148, ↓br_206_2, ↓bc_230, ↓br_0_5, ↓bc_50, ↓b_t0, ↓b_t1, ↓b_t2, ↓b_t3, ↓b_t4, ↓b_t5, ↓b_t6, Nat.zero_add, Nat.le_refl, b_rs, b_rn, b_r2, b_ss, b_sn, b_bt, b_bf, b_b0, b_b1, b_bw, b_shl, b_or, b_iv, b_jv, b_sI, b_sJ, ↓z_hl, z_b0, z_b1, z_b2, b_and1c, b_and1z, if_true, if_false, nI_add, pk_mul, b_cl, b_lt, b_le, b_eq, b_eq0, b_le0, b_0lt, b_0le, b_lt0]
  rw [if_neg hk]
theorem s_EM_restoreN1 (hk : m 206 3 = 0) (hD : 3 ≤ D) : a_ex X tx a_T D 191 [.ref 0, .int (nI 1)] (b_h m j w) = some ((b_h m j w), some (.int (nI (0)))) := by
  obtain ⟨d, rfl⟩ : ∃ d, D = d + 1 := ⟨D - 1, by omega⟩
  rw [e_EM_restore, q_EM_restore_0]
  have e0 : (nI 1 < 0) = False := b_lt0 (by decide)
  have e2 : (nI 2 ≤ nI 1) = False := by rw [b_le (by decide) (by decide)]; exact eq_false (by decide)
  simp (disch := omega) only [e0, e2, b_k177, ↓bx_177, b_img1, hk, ↓bc_0, ↓br_0_13, ↓bc_177, ↓bx_177, bl_177, ↓bc_206, ↓br_0_1, ↓bc_4, ↓br_206_0, ↓bc_207, ↓br_0_3, ↓bc_26, ↓br_206_1, ↓bc_218, ↓br_0_6, ↓bc_148, ↓br_206_2, ↓bc_230, ↓br_0_5, ↓bc_50, ↓b_t0, ↓b_t1, ↓b_t2, ↓b_t3, ↓b_t4, ↓b_t5, ↓b_t6, Nat.zero_add, Nat.le_refl, b_rs, b_rn, b_r2, b_ss, b_sn, b_bt, b_bf, b_b0, b_b1, b_bw, b_shl, b_or, b_iv, b_jv, b_sI, b_sJ, ↓z_hl, z_b0, z_b1, z_b2, b_and1c, b_and1z, if_true, if_false, nI_add, pk_mul, b_cl, b_lt, b_le, b_eq, b_eq0, b_le0, b_0lt, b_0le, b_lt0]
theorem s_EM_imageN (hD : 1 ≤ D) {k : Nat} (hk : k < 4294967296) (h2 : 2 ≤ k) : a_ex X tx a_T D 190 [.ref 0, .int (nI k)] (b_h m j w) = some ((b_h m j w), some (.int (nI (0)))) := by
  obtain ⟨d, rfl⟩ : ∃ d, D = d + 1 := ⟨D - 1, by omega⟩
  rw [e_EM_image, q_EM_image_0]
  by_cases c : k < 2147483648
  · have e1 : (nI k < nI 2) = False := by rw [b_lt c (by decide)]; exact eq_false (by omega)
    simp (disch := omega) only [e1, ↓bc_0, ↓br_0_13, ↓bc_177, ↓bx_177, bl_177, ↓br_0_1, ↓bc_4, ↓br_0_3, ↓bc_26, ↓br_0_6, ↓bc_148, ↓bc_178, ↓bc_206, ↓b_t0, ↓b_t1, ↓b_t2, ↓b_t3, ↓b_t4, ↓b_t5, ↓b_t6, Nat.zero_add, Nat.le_refl, b_rs, b_rn, b_r2, b_ss, b_sn, b_bt, b_bf, b_b0, b_b1, b_bw, b_shl, b_or, b_iv, b_jv, b_sI, b_sJ, ↓z_hl, z_b0, z_b1, z_b2, b_and1c, b_and1z, if_true, if_false, nI_add, pk_mul, b_cl, b_lt, b_le, b_eq, b_eq0, b_le0, b_0lt, b_0le, b_lt0]
  · have e1 : (nI k < 0) = True := b_lt0n (by omega) hk
    simp (disch := omega) only [e1, ↓bc_0, ↓br_0_13, ↓bc_177, ↓bx_177, bl_177, ↓br_0_1, ↓bc_4, ↓br_0_3, ↓bc_26, ↓br_0_6, ↓bc_148, ↓bc_178, ↓bc_206, ↓b_t0, ↓b_t1, ↓b_t2, ↓b_t3, ↓b_t4, ↓b_t5, ↓b_t6, Nat.zero_add, Nat.le_refl, b_rs, b_rn, b_r2, b_ss, b_sn, b_bt, b_bf, b_b0, b_b1, b_bw, b_shl, b_or, b_iv, b_jv, b_sI, b_sJ, ↓z_hl, z_b0, z_b1, z_b2, b_and1c, b_and1z, if_true, if_false, nI_add, pk_mul, b_cl, b_lt, b_le, b_eq, b_eq0, b_le0, b_0lt, b_0le, b_lt0]
theorem s_EM_restoreX (hD : 1 ≤ D) {k : Nat} (hk : k < 4294967296) (h2 : 2 ≤ k) : a_ex X tx a_T D 191 [.ref 0, .int (nI k)] (b_h m j w) = some ((b_h m j w), some (.int (nI (0)))) := by
  obtain ⟨d, rfl⟩ : ∃ d, D = d + 1 := ⟨D - 1, by omega⟩
  rw [e_EM_restore, q_EM_restore_0]
  by_cases c : k < 2147483648
  · have e1 : (nI 2 ≤ nI k) = True := by rw [b_le (by decide) c]; exact eq_true h2
    simp (disch := omega) only [e1, ↓bc_0, ↓br_0_13, ↓bc_177, ↓bx_177, bl_177, ↓bc_178, ↓bc_206, ↓br_0_1, ↓bc_4, ↓br_178_0, ↓bc_179, ↓br_206_0, ↓bc_207, ↓br_0_3, ↓bc_26, ↓br_178_1, ↓bc_190, ↓br_206_1, ↓bc_218, ↓br_0_6, ↓bc_148, ↓br_178_2, ↓bc_202, ↓br_206_2, ↓bc_230, ↓br_0_5, ↓bc_50, ↓b_t0, ↓b_t1, ↓b_t2, ↓b_t3, ↓b_t4, ↓b_t5, ↓b_t6, Nat.zero_add, Nat.le_refl, b_rs, b_rn, b_r2, b_ss, b_sn, b_bt, b_bf, b_b0, b_b1, b_bw, b_shl, b_or, b_iv, b_jv, b_sI, b_sJ, ↓z_hl, z_b0, z_b1, z_b2, b_and1c, b_and1z, if_true, if_false, nI_add, pk_mul, b_cl, b_lt, b_le, b_eq, b_eq0, b_le0, b_0lt, b_0le, b_lt0]
  · have e1 : (nI k < 0) = True := b_lt0n (by omega) hk
    simp (disch := omega) only [e1, ↓bc_0, ↓br_0_13, ↓bc_177, ↓bx_177, bl_177, ↓bc_178, ↓bc_206, ↓br_0_1, ↓bc_4, ↓br_178_0, ↓bc_179, ↓br_206_0, ↓bc_207, ↓br_0_3, ↓bc_26, ↓br_178_1, ↓bc_190, ↓br_206_1, ↓bc_218, ↓br_0_6, ↓bc_148, ↓br_178_2, ↓bc_202, ↓br_206_2, ↓bc_230, ↓br_0_5, ↓bc_50, ↓b_t0, ↓b_t1, ↓b_t2, ↓b_t3, ↓b_t4, ↓b_t5, ↓b_t6, Nat.zero_add, Nat.le_refl, b_rs, b_rn, b_r2, b_ss, b_sn, b_bt, b_bf, b_b0, b_b1, b_bw, b_shl, b_or, b_iv, b_jv, b_sI, b_sJ, ↓z_hl, z_b0, z_b1, z_b2, b_and1c, b_and1z, if_true, if_false, nI_add, pk_mul, b_cl, b_lt, b_le, b_eq, b_eq0, b_le0, b_0lt, b_0le, b_lt0]
/-! the reference -/
theorem b_bz256 {i : Nat} {g : A_H → A_R} (hi : i < 2) : a_bz (b_h m j w) 256 (nI i) (nI 1) g = g (b_h (b_r m 256 (b_s (m 256) i 1)) j w) := by
  unfold a_bz
  have e1 : a_kd (b_h m j w) 256 = 102 := bk_256
  rw [e1, if_pos rfl, bx_256 hi, z_hl, b_cl (by omega), show nI 1 &&& 1 = nI 1 by decide +kernel, b_sI]
def w_imM (m : Nat → Nat → Nat) (k : Nat) : Nat → Nat → Nat := b_r (b_r (b_r m 234 (b_s (m 234) 0 0)) 254 (b_rg (m 254) (533 * k) 533 fun i => m 236 i)) 256 (b_s (m 256) k 1)
def w_imJ (j : Nat → Nat → Nat) (k : Nat) : Nat → Nat → Nat := b_r j 255 (b_rg (j 255) (30 * k) 30 fun i => j 239 i)
theorem s_Mo_image (hD : 2 ≤ D) {k : Nat} (hk : k < 2) : a_ex X tx a_T D 312 [.ref 234, .int (nI k)] (b_h m j w) = some ((b_h (w_imM m k) (w_imJ j k) w), some (.int (nI (1)))) := by
  obtain ⟨d, rfl⟩ : ∃ d, D = d + 1 := ⟨D - 1, by omega⟩
  rw [e_Mo_image, q_Mo_image_0]
  have e1 : decide (0 ≤ k ∧ k ≤ 1) = true := decide_eq_true (by omega)
  simp (disch := omega) only [s_Mo_isIn, e1, ↓bc_234, ↓br_234_51, ↓bc_254, ↓bx_254, bl_254, ↓br_234_6, ↓bc_236, ↓bx_236, bl_236, ↓br_234_52, ↓bc_255, ↓bx_255, bl_255, ↓br_234_9, ↓bc_239, ↓bx_239, bl_239, ↓br_234_53, ↓bc_256, ↓bx_256, bl_256, bk_256, ↓b_t0, ↓b_t1, ↓b_t2, ↓b_t3, ↓b_t4, ↓b_t5, ↓b_t6, Nat.zero_add, Nat.le_refl, b_rs, b_rn, b_r2, b_ss, b_sn, b_bt, b_bf, b_b0, b_b1, b_bw, b_shl, b_or, b_iv, b_jv, b_sI, b_sJ, ↓z_hl, z_b0, z_b1, z_b2, b_and1c, b_and1z, if_true, if_false, nI_add, pk_mul, b_cl, b_lt, b_le, b_eq, b_eq0, b_le0, b_0lt, b_0le, b_lt0]
  rw [if_neg (by decide), ← l_Mo_image_12]
  refine z_lp (fun n => [.ref 234, .int (nI k), .int (nI n)]) (fun n => b_h (b_r (b_r m 234 (b_s (m 234) 0 0)) 254 (b_rg (m 254) (533 * k) n fun i => m 236 i)) j w) 533 50 rfl (by rw [b_rg0, b_ri (b_rn (by decide))]) ?_ ?_ _ (z_fu (by omega))
  · intro n hn f _
    rw [l_Mo_image_12, q_Mo_image_12]
    simp (disch := omega) only [↓bc_234, ↓br_234_51, ↓bc_254, ↓bx_254, bl_254, ↓br_234_6, ↓bc_236, ↓bx_236, bl_236, ↓br_234_52, ↓bc_255, ↓bx_255, bl_255, ↓br_234_9, ↓bc_239, ↓bx_239, bl_239, ↓br_234_53, ↓bc_256, ↓bx_256, bl_256, bk_256, ↓b_t0, ↓b_t1, ↓b_t2, ↓b_t3, ↓b_t4, ↓b_t5, ↓b_t6, Nat.zero_add, Nat.le_refl, b_rs, b_rn, b_r2, b_ss, b_sn, b_bt, b_bf, b_b0, b_b1, b_bw, b_shl, b_or, b_iv, b_jv, b_sI, b_sJ, ↓z_hl, z_b0, z_b1, z_b2, b_and1c, b_and1z, if_true, if_false, nI_add, pk_mul, b_cl, b_lt, b_le, b_eq, b_eq0, b_le0, b_0lt, b_0le, b_lt0]
    rw [if_neg (by omega), b_rg1]
  · intro f hf
    rw [l_Mo_image_12, q_Mo_image_12]
    simp (disch := omega) only [↓bc_234, ↓br_234_51, ↓bc_254, ↓bx_254, bl_254, ↓br_234_6, ↓bc_236, ↓bx_236, bl_236, ↓br_234_52, ↓bc_255, ↓bx_255, bl_255, ↓br_234_9, ↓bc_239, ↓bx_239, bl_239, ↓br_234_53, ↓bc_256, ↓bx_256, bl_256, bk_256, ↓b_t0, ↓b_t1, ↓b_t2, ↓b_t3, ↓b_t4, ↓b_t5, ↓b_t6, Nat.zero_add, Nat.le_refl, b_rs, b_rn, b_r2, b_ss, b_sn, b_bt, b_bf, b_b0, b_b1, b_bw, b_shl, b_or, b_iv, b_jv, b_sI, b_sJ, ↓z_hl, z_b0, z_b1, z_b2, b_and1c, b_and1z, if_true, if_false, nI_add, pk_mul, b_cl, b_lt, b_le, b_eq, b_eq0, b_le0, b_0lt, b_0le, b_lt0]
    rw [← l_Mo_image_31]
    refine z_lp (fun n => [.ref 234, .int (nI k), .int (nI n)]) (fun n => b_h (b_r (b_r m 234 (b_s (m 234) 0 0)) 254 (b_rg (m 254) (533 * k) 533 fun i => m 236 i)) (b_r j 255 (b_rg (j 255) (30 * k) n fun i => j 239 i)) w) 30 0 rfl (by rw [b_rg0, b_ri rfl]) ?_ ?_ _ (by omega)
    · intro n hn f _
      rw [l_Mo_image_31, q_Mo_image_31]
      simp (disch := omega) only [↓bc_234, ↓br_234_51, ↓bc_254, ↓bx_254, bl_254, ↓br_234_6, ↓bc_236, ↓bx_236, bl_236, ↓br_234_52, ↓bc_255, ↓bx_255, bl_255, ↓br_234_9, ↓bc_239, ↓bx_239, bl_239, ↓br_234_53, ↓bc_256, ↓bx_256, bl_256, bk_256, ↓b_t0, ↓b_t1, ↓b_t2, ↓b_t3, ↓b_t4, ↓b_t5, ↓b_t6, Nat.zero_add, Nat.le_refl, b_rs, b_rn, b_r2, b_ss, b_sn, b_bt, b_bf, b_b0, b_b1, b_bw, b_shl, b_or, b_iv, b_jv, b_sI, b_sJ, ↓z_hl, z_b0, z_b1, z_b2, b_and1c, b_and1z, if_true, if_false, nI_add, pk_mul, b_cl, b_lt, b_le, b_eq, b_eq0, b_le0, b_0lt, b_0le, b_lt0]
      rw [if_neg (by omega), b_rg1]
    · intro f _
      rw [l_Mo_image_31, q_Mo_image_31]
      simp (disch := omega) only [b_bz256, ↓bc_234, ↓br_234_51, ↓bc_254, ↓bx_254, bl_254, ↓br_234_6, ↓bc_236, ↓bx_236, bl_236, ↓br_234_52, ↓bc_255, ↓bx_255, bl_255, ↓br_234_9, ↓bc_239, ↓bx_239, bl_239, ↓br_234_53, ↓bc_256, ↓bx_256, bl_256, bk_256, ↓b_t0, ↓b_t1, ↓b_t2, ↓b_t3, ↓b_t4, ↓b_t5, ↓b_t6, Nat.zero_add, Nat.le_refl, b_rs, b_rn, b_r2, b_ss, b_sn, b_bt, b_bf, b_b0, b_b1, b_bw, b_shl, b_or, b_iv, b_jv, b_sI, b_sJ, ↓z_hl, z_b0, z_b1, z_b2, b_and1c, b_and1z, if_true, if_false, nI_add, pk_mul, b_cl, b_lt, b_le, b_eq, b_eq0, b_le0, b_0lt, b_0le, b_lt0]
      rfl
theorem s_Mo_imageN (hD : 2 ≤ D) {k : Nat} (hk : k < 4294967296) (h2 : 2 ≤ k) : a_ex X tx a_T D 312 [.ref 234, .int (nI k)] (b_h m j w) = some ((b_h (b_r m 234 (b_s (m 234) 0 0)) j w), some (.int (nI (0)))) := by
  obtain ⟨d, rfl⟩ : ∃ d, D = d + 1 := ⟨D - 1, by omega⟩
  rw [e_Mo_image, q_Mo_image_0]
  have e1 : decide (0 ≤ k ∧ k ≤ 1) = false := decide_eq_false (by omega)
  simp (disch := omega) only [s_Mo_isIn, e1, ↓bc_234, ↓br_234_51, ↓bc_254, ↓bx_254, bl_254, ↓br_234_6, ↓bc_236, ↓bx_236, bl_236, ↓br_234_52, ↓bc_255, ↓bx_255, bl_255, ↓br_234_9, ↓bc_239, ↓bx_239, bl_239, ↓br_234_53, ↓bc_256, ↓bx_256, bl_256, bk_256, ↓b_t0, ↓b_t1, ↓b_t2, ↓b_t3, ↓b_t4, ↓b_t5, ↓b_t6, Nat.zero_add, Nat.le_refl, b_rs, b_rn, b_r2, b_ss, b_sn, b_bt, b_bf, b_b0, b_b1, b_bw, b_shl, b_or, b_iv, b_jv, b_sI, b_sJ, ↓z_hl, z_b0, z_b1, z_b2, b_and1c, b_and1z, if_true, if_false, nI_add, pk_mul, b_cl, b_lt, b_le, b_eq, b_eq0, b_le0, b_0lt, b_0le, b_lt0]
def w_reM (m : Nat → Nat → Nat) (k : Nat) : Nat → Nat → Nat := b_r (b_r m 234 (b_s (b_s (m 234) 0 0) 23 0)) 236 (b_rg (m 236) 0 533 fun i => m 254 (533 * k + i))
def w_reJ (j : Nat → Nat → Nat) (k : Nat) : Nat → Nat → Nat := b_r j 239 (b_rg (j 239) 0 30 fun i => j 255 (30 * k + i))
theorem b_k256 : (a_kd (b_h m j w) 256 = 102 ∨ a_kd (b_h m j w) 256 = 103) = True := eq_true (Or.inl rfl)
theorem s_Mo_restore (hD : 2 ≤ D) {k : Nat} (hk : k < 2) (h0 : m 256 k ≠ 0) (h02 : m 256 k < 2) : a_ex X tx a_T D 313 [.ref 234, .int (nI k)] (b_h m j w) = some ((b_h (w_reM m k) (w_reJ j k) w), some (.int (nI (1)))) := by
  obtain ⟨d, rfl⟩ : ∃ d, D = d + 1 := ⟨D - 1, by omega⟩
  rw [e_Mo_restore, q_Mo_restore_0]
  have e1 : decide (0 ≤ k ∧ k ≤ 1) = true := decide_eq_true (by omega)
  simp (disch := omega) only [s_Mo_isIn, e1, true_or, ↓bc_234, ↓br_234_53, ↓bc_256, ↓bx_256, bl_256, bk_256, ↓br_234_6, ↓bc_236, ↓bx_236, bl_236, ↓br_234_51, ↓bc_254, ↓bx_254, bl_254, ↓br_234_9, ↓bc_239, ↓bx_239, bl_239, ↓br_234_52, ↓bc_255, ↓bx_255, bl_255, ↓b_t0, ↓b_t1, ↓b_t2, ↓b_t3, ↓b_t4, ↓b_t5, ↓b_t6, Nat.zero_add, Nat.le_refl, b_rs, b_rn, b_r2, b_ss, b_sn, b_bt, b_bf, b_b0, b_b1, b_bw, b_shl, b_or, b_iv, b_jv, b_sI, b_sJ, ↓z_hl, z_b0, z_b1, z_b2, b_and1c, b_and1z, if_true, if_false, nI_add, pk_mul, b_cl, b_lt, b_le, b_eq, b_eq0, b_le0, b_0lt, b_0le, b_lt0]
  rw [if_neg (by decide), if_neg h0, ← l_Mo_restore_17]
  refine z_lp (fun n => [.ref 234, .int (nI k), .int (nI n)]) (fun n => b_h (b_r (b_r m 234 (b_s (m 234) 0 0)) 236 (b_rg (m 236) 0 n fun i => m 254 (533 * k + i))) j w) 533 50 rfl (by rw [b_rg0, b_ri (b_rn (by decide))]) ?_ ?_ _ (z_fu (by omega))
  · intro n hn f _
    rw [l_Mo_restore_17, q_Mo_restore_17]
    simp (disch := omega) only [↓bc_234, ↓br_234_53, ↓bc_256, ↓bx_256, bl_256, bk_256, ↓br_234_6, ↓bc_236, ↓bx_236, bl_236, ↓br_234_51, ↓bc_254, ↓bx_254, bl_254, ↓br_234_9, ↓bc_239, ↓bx_239, bl_239, ↓br_234_52, ↓bc_255, ↓bx_255, bl_255, ↓b_t0, ↓b_t1, ↓b_t2, ↓b_t3, ↓b_t4, ↓b_t5, ↓b_t6, Nat.zero_add, Nat.le_refl, b_rs, b_rn, b_r2, b_ss, b_sn, b_bt, b_bf, b_b0, b_b1, b_bw, b_shl, b_or, b_iv, b_jv, b_sI, b_sJ, ↓z_hl, z_b0, z_b1, z_b2, b_and1c, b_and1z, if_true, if_false, nI_add, pk_mul, b_cl, b_lt, b_le, b_eq, b_eq0, b_le0, b_0lt, b_0le, b_lt0]
    rw [if_neg (by omega), b_rg1' (by omega) rfl]
  · intro f hf
    rw [l_Mo_restore_17, q_Mo_restore_17]
    simp (disch := omega) only [↓bc_234, ↓br_234_53, ↓bc_256, ↓bx_256, bl_256, bk_256, ↓br_234_6, ↓bc_236, ↓bx_236, bl_236, ↓br_234_51, ↓bc_254, ↓bx_254, bl_254, ↓br_234_9, ↓bc_239, ↓bx_239, bl_239, ↓br_234_52, ↓bc_255, ↓bx_255, bl_255, ↓b_t0, ↓b_t1, ↓b_t2, ↓b_t3, ↓b_t4, ↓b_t5, ↓b_t6, Nat.zero_add, Nat.le_refl, b_rs, b_rn, b_r2, b_ss, b_sn, b_bt, b_bf, b_b0, b_b1, b_bw, b_shl, b_or, b_iv, b_jv, b_sI, b_sJ, ↓z_hl, z_b0, z_b1, z_b2, b_and1c, b_and1z, if_true, if_false, nI_add, pk_mul, b_cl, b_lt, b_le, b_eq, b_eq0, b_le0, b_0lt, b_0le, b_lt0]
    rw [← l_Mo_restore_36]
    refine z_lp (fun n => [.ref 234, .int (nI k), .int (nI n)]) (fun n => b_h (b_r (b_r m 234 (b_s (m 234) 0 0)) 236 (b_rg (m 236) 0 533 fun i => m 254 (533 * k + i))) (b_r j 239 (b_rg (j 239) 0 n fun i => j 255 (30 * k + i))) w) 30 0 rfl (by rw [b_rg0, b_ri rfl]) ?_ ?_ _ (by omega)
    · intro n hn f _
      rw [l_Mo_restore_36, q_Mo_restore_36]
      simp (disch := omega) only [↓bc_234, ↓br_234_53, ↓bc_256, ↓bx_256, bl_256, bk_256, ↓br_234_6, ↓bc_236, ↓bx_236, bl_236, ↓br_234_51, ↓bc_254, ↓bx_254, bl_254, ↓br_234_9, ↓bc_239, ↓bx_239, bl_239, ↓br_234_52, ↓bc_255, ↓bx_255, bl_255, ↓b_t0, ↓b_t1, ↓b_t2, ↓b_t3, ↓b_t4, ↓b_t5, ↓b_t6, Nat.zero_add, Nat.le_refl, b_rs, b_rn, b_r2, b_ss, b_sn, b_bt, b_bf, b_b0, b_b1, b_bw, b_shl, b_or, b_iv, b_jv, b_sI, b_sJ, ↓z_hl, z_b0, z_b1, z_b2, b_and1c, b_and1z, if_true, if_false, nI_add, pk_mul, b_cl, b_lt, b_le, b_eq, b_eq0, b_le0, b_0lt, b_0le, b_lt0]
      rw [if_neg (by omega), b_rg1' (by omega) rfl]
    · intro f _
      rw [l_Mo_restore_36, q_Mo_restore_36]
      simp (disch := omega) only [b_rx (c2 := 234) (c := 236) (by decide), ↓bc_234, ↓br_234_53, ↓bc_256, ↓bx_256, bl_256, bk_256, ↓br_234_6, ↓bc_236, ↓bx_236, bl_236, ↓br_234_51, ↓bc_254, ↓bx_254, bl_254, ↓br_234_9, ↓bc_239, ↓bx_239, bl_239, ↓br_234_52, ↓bc_255, ↓bx_255, bl_255, ↓b_t0, ↓b_t1, ↓b_t2, ↓b_t3, ↓b_t4, ↓b_t5, ↓b_t6, Nat.zero_add, Nat.le_refl, b_rs, b_rn, b_r2, b_ss, b_sn, b_bt, b_bf, b_b0, b_b1, b_bw, b_shl, b_or, b_iv, b_jv, b_sI, b_sJ, ↓z_hl, z_b0, z_b1, z_b2, b_and1c, b_and1z, if_true, if_false, nI_add, pk_mul, b_cl, b_lt, b_le, b_eq, b_eq0, b_le0, b_0lt, b_0le, b_lt0]
      rfl
theorem s_Mo_restoreN (hD : 2 ≤ D) {k : Nat} (hk : k < 4294967296) (h0 : 2 ≤ k ∨ m 256 k = 0) : a_ex X tx a_T D 313 [.ref 234, .int (nI k)] (b_h m j w) = some ((b_h (b_r m 234 (b_s (m 234) 0 0)) j w), some (.int (nI (0)))) := by
  obtain ⟨d, rfl⟩ : ∃ d, D = d + 1 := ⟨D - 1, by omega⟩
  rw [e_Mo_restore, q_Mo_restore_0]
  by_cases c : 2 ≤ k
  · have e1 : decide (0 ≤ k ∧ k ≤ 1) = false := decide_eq_false (by omega)
    simp (disch := omega) only [s_Mo_isIn, e1, ↓bc_234, ↓br_234_53, ↓bc_256, ↓bx_256, bl_256, bk_256, ↓br_234_6, ↓bc_236, ↓bx_236, bl_236, ↓br_234_51, ↓bc_254, ↓bx_254, bl_254, ↓br_234_9, ↓bc_239, ↓bx_239, bl_239, ↓br_234_52, ↓bc_255, ↓bx_255, bl_255, ↓b_t0, ↓b_t1, ↓b_t2, ↓b_t3, ↓b_t4, ↓b_t5, ↓b_t6, Nat.zero_add, Nat.le_refl, b_rs, b_rn, b_r2, b_ss, b_sn, b_bt, b_bf, b_b0, b_b1, b_bw, b_shl, b_or, b_iv, b_jv, b_sI, b_sJ, ↓z_hl, z_b0, z_b1, z_b2, b_and1c, b_and1z, if_true, if_false, nI_add, pk_mul, b_cl, b_lt, b_le, b_eq, b_eq0, b_le0, b_0lt, b_0le, b_lt0]
  · have e1 : decide (0 ≤ k ∧ k ≤ 1) = true := decide_eq_true (by omega)
    have e2 : m 256 k = 0 := by omega
    simp (disch := omega) only [s_Mo_isIn, e1, true_or, e2, ↓bc_234, ↓br_234_53, ↓bc_256, ↓bx_256, bl_256, bk_256, ↓br_234_6, ↓bc_236, ↓bx_236, bl_236, ↓br_234_51, ↓bc_254, ↓bx_254, bl_254, ↓br_234_9, ↓bc_239, ↓bx_239, bl_239, ↓br_234_52, ↓bc_255, ↓bx_255, bl_255, ↓b_t0, ↓b_t1, ↓b_t2, ↓b_t3, ↓b_t4, ↓b_t5, ↓b_t6, Nat.zero_add, Nat.le_refl, b_rs, b_rn, b_r2, b_ss, b_sn, b_bt, b_bf, b_b0, b_b1, b_bw, b_shl, b_or, b_iv, b_jv, b_sI, b_sJ, ↓z_hl, z_b0, z_b1, z_b2, b_and1c, b_and1z, if_true, if_false, nI_add, pk_mul, b_cl, b_lt, b_le, b_eq, b_eq0, b_le0, b_0lt, b_0le, b_lt0]
    rw [if_neg (by decide)]
end IM
