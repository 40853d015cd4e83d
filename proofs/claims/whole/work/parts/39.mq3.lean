/-! QUERIES: what other calls told last; haggling -/
def w_round (s : Nat → Nat) (e : Nat) : Nat := (s (251 + e) + 2) / 3
def w_hagok (s : Nat → Nat) (q e : Nat) : Prop := q < s 1 ∧ e < s 3 ∧ s (241 + e) ≠ 4294967295 ∧ s (241 + e) ≠ q ∧ s (251 + e) - w_round s e ≤ s (159 + q)
section MQ3
variable {X : Nat × (Nat → Int32)} {tx : List Int32} {D : Nat} {m j : Nat → Nat → Nat} {w : (Nat × Nat) × Bool}
theorem s_Mo_isInN (hD : 1 ≤ D) {n h : Nat} (hn : n < 4294967296) (h1 : 2147483648 ≤ h) (h2 : h < 4294967296) : a_ex X tx a_T D 201 [.int (nI n), .int (nI 0), .int (nI h)] (b_h m j w) = some ((b_h m j w), some (.int (nI (b_b (false))))) := by
  obtain ⟨d, rfl⟩ : ∃ d, D = d + 1 := ⟨D - 1, by omega⟩
  rw [e_Mo_isIn, q_Mo_isIn_0]
  by_cases c : n < 2147483648
  · rw [if_neg (by rw [b_lt c (by decide)]; omega), if_pos (by rw [b_ltn h1 h2 c]; trivial)]
    rfl
  · rw [if_pos (by rw [b_ltn (by omega) hn (by decide)]; trivial)]
    rfl
theorem s_Mo_fault (hD : 1 ≤ D) : a_ex X tx a_T D 226 [.ref 234] (b_h m j w) = some ((b_h (b_r m 234 (b_s (m 234) 0 0)) j w), some (.int (nI (m 234 15)))) := by
  obtain ⟨d, rfl⟩ : ∃ d, D = d + 1 := ⟨D - 1, by omega⟩
  rw [e_Mo_fault, q_Mo_fault_0]
  simp (disch := omega) only [↓bc_234, ↓b_t0, ↓b_t1, ↓b_t2, ↓b_t3, ↓b_t4, ↓b_t5, ↓b_t6, Nat.zero_add, Nat.le_refl, b_rs, b_rn, b_r2, b_ss, b_sn, b_bt, b_bf, b_b0, b_b1, b_bw, b_shl, b_or, b_iv, b_jv, b_sI, b_sJ, ↓z_hl, z_b0, z_b1, z_b2, b_and1c, b_and1z, if_true, if_false, nI_add, pk_mul, b_cl, b_lt, b_le, b_eq, b_eq0, b_le0, b_0lt, b_0le, b_lt0]
theorem s_Mo_tray (hD : 1 ≤ D) (hf : m 234 32 < 2) : a_ex X tx a_T D 275 [.ref 234] (b_h m j w) = some ((b_h (b_r m 234 (b_s (m 234) 0 0)) j w), some (.int (nI (if m 234 32 = 0 then 4294967295 else m 234 31)))) := by
  obtain ⟨d, rfl⟩ : ∃ d, D = d + 1 := ⟨D - 1, by omega⟩
  rw [e_Mo_tray, q_Mo_tray_0]
  simp (disch := omega) only [↓bc_234, ↓b_t0, ↓b_t1, ↓b_t2, ↓b_t3, ↓b_t4, ↓b_t5, ↓b_t6, Nat.zero_add, Nat.le_refl, b_rs, b_rn, b_r2, b_ss, b_sn, b_bt, b_bf, b_b0, b_b1, b_bw, b_shl, b_or, b_iv, b_jv, b_sI, b_sJ, ↓z_hl, z_b0, z_b1, z_b2, b_and1c, b_and1z, if_true, if_false, nI_add, pk_mul, b_cl, b_lt, b_le, b_eq, b_eq0, b_le0, b_0lt, b_0le, b_lt0]
  by_cases c : m 234 32 = 0
  · rw [if_pos c, if_pos c]
  · rw [if_neg c, if_neg c]
theorem s_Mo_ask (hD : 1 ≤ D) (hf : m 234 34 < 2) : a_ex X tx a_T D 279 [.ref 234] (b_h m j w) = some ((b_h (b_r m 234 (b_s (m 234) 0 0)) j w), some (.int (nI (if m 234 34 = 0 then 4294967295 else m 234 33)))) := by
  obtain ⟨d, rfl⟩ : ∃ d, D = d + 1 := ⟨D - 1, by omega⟩
  rw [e_Mo_ask, q_Mo_ask_0]
  simp (disch := omega) only [↓bc_234, ↓b_t0, ↓b_t1, ↓b_t2, ↓b_t3, ↓b_t4, ↓b_t5, ↓b_t6, Nat.zero_add, Nat.le_refl, b_rs, b_rn, b_r2, b_ss, b_sn, b_bt, b_bf, b_b0, b_b1, b_bw, b_shl, b_or, b_iv, b_jv, b_sI, b_sJ, ↓z_hl, z_b0, z_b1, z_b2, b_and1c, b_and1z, if_true, if_false, nI_add, pk_mul, b_cl, b_lt, b_le, b_eq, b_eq0, b_le0, b_0lt, b_0le, b_lt0]
  by_cases c : m 234 34 = 0
  · rw [if_pos c, if_pos c]
  · rw [if_neg c, if_neg c]
theorem s_Mo_rounds (hD : 1 ≤ D) (hf : m 234 36 < 2) : a_ex X tx a_T D 281 [.ref 234] (b_h m j w) = some ((b_h (b_r m 234 (b_s (m 234) 0 0)) j w), some (.int (nI (if m 234 36 = 0 then 4294967295 else m 234 35)))) := by
  obtain ⟨d, rfl⟩ : ∃ d, D = d + 1 := ⟨D - 1, by omega⟩
  rw [e_Mo_rounds, q_Mo_rounds_0]
  simp (disch := omega) only [↓bc_234, ↓b_t0, ↓b_t1, ↓b_t2, ↓b_t3, ↓b_t4, ↓b_t5, ↓b_t6, Nat.zero_add, Nat.le_refl, b_rs, b_rn, b_r2, b_ss, b_sn, b_bt, b_bf, b_b0, b_b1, b_bw, b_shl, b_or, b_iv, b_jv, b_sI, b_sJ, ↓z_hl, z_b0, z_b1, z_b2, b_and1c, b_and1z, if_true, if_false, nI_add, pk_mul, b_cl, b_lt, b_le, b_eq, b_eq0, b_le0, b_0lt, b_0le, b_lt0]
  by_cases c : m 234 36 = 0
  · rw [if_pos c, if_pos c]
  · rw [if_neg c, if_neg c]
theorem s_Mo_row (hD : 2 ≤ D) (hf : m 234 26 = 4294967295 ∨ m 234 26 ≤ 10) {k : Nat} (hk : k < 4294967296) : a_ex X tx a_T D 267 [.ref 234, .int (nI k)] (b_h m j w) = some ((b_h (b_r m 234 (b_s (m 234) 0 0)) j w), some (.int (nI (if m 234 26 ≠ 4294967295 ∧ k < m 234 26 then m 244 k else 4294967295)))) := by
  obtain ⟨d, rfl⟩ : ∃ d, D = d + 1 := ⟨D - 1, by omega⟩
  rw [e_Mo_row, q_Mo_row_0]
  rcases hf with hf | hf
  · have e1 : nI 4294967295 - nI 1 = nI 4294967294 := b_sub (by decide)
    simp (disch := omega) only [hf, e1, s_Mo_isInN, ↓bc_234, ↓br_234_25, ↓bc_244, ↓bx_244, bl_244, ↓b_t0, ↓b_t1, ↓b_t2, ↓b_t3, ↓b_t4, ↓b_t5, ↓b_t6, Nat.zero_add, Nat.le_refl, b_rs, b_rn, b_r2, b_ss, b_sn, b_bt, b_bf, b_b0, b_b1, b_bw, b_shl, b_or, b_iv, b_jv, b_sI, b_sJ, ↓z_hl, z_b0, z_b1, z_b2, b_and1c, b_and1z, if_true, if_false, nI_add, pk_mul, b_cl, b_lt, b_le, b_eq, b_eq0, b_le0, b_0lt, b_0le, b_lt0]
    rw [if_neg (fun h => h.1 rfl)]
  · by_cases c : k < m 234 26
    · have e2 : decide (k < m 234 26) = true := decide_eq_true c
      simp (disch := omega) only [s_Mo_isIn1, e2, ↓bc_234, ↓br_234_25, ↓bc_244, ↓bx_244, bl_244, ↓b_t0, ↓b_t1, ↓b_t2, ↓b_t3, ↓b_t4, ↓b_t5, ↓b_t6, Nat.zero_add, Nat.le_refl, b_rs, b_rn, b_r2, b_ss, b_sn, b_bt, b_bf, b_b0, b_b1, b_bw, b_shl, b_or, b_iv, b_jv, b_sI, b_sJ, ↓z_hl, z_b0, z_b1, z_b2, b_and1c, b_and1z, if_true, if_false, nI_add, pk_mul, b_cl, b_lt, b_le, b_eq, b_eq0, b_le0, b_0lt, b_0le, b_lt0]
      rw [if_neg (by decide), if_pos ⟨by omega, c⟩]
    · have e2 : decide (k < m 234 26) = false := decide_eq_false c
      simp (disch := omega) only [s_Mo_isIn1, e2, ↓bc_234, ↓br_234_25, ↓bc_244, ↓bx_244, bl_244, ↓b_t0, ↓b_t1, ↓b_t2, ↓b_t3, ↓b_t4, ↓b_t5, ↓b_t6, Nat.zero_add, Nat.le_refl, b_rs, b_rn, b_r2, b_ss, b_sn, b_bt, b_bf, b_b0, b_b1, b_bw, b_shl, b_or, b_iv, b_jv, b_sI, b_sJ, ↓z_hl, z_b0, z_b1, z_b2, b_and1c, b_and1z, if_true, if_false, nI_add, pk_mul, b_cl, b_lt, b_le, b_eq, b_eq0, b_le0, b_0lt, b_0le, b_lt0]
      rw [if_neg (fun h => c h.2)]
theorem s_Mo_has (hD : 2 ≤ D) (hf : m 234 30 = 4294967295 ∨ m 234 30 ≤ 8) {k : Nat} (hk : k < 4294967296) : a_ex X tx a_T D 272 [.ref 234, .int (nI k)] (b_h m j w) = some ((b_h (b_r m 234 (b_s (m 234) 0 0)) j w), some (.int (nI (if m 234 30 ≠ 4294967295 ∧ k < m 234 30 then m 247 k else 4294967295)))) := by
  obtain ⟨d, rfl⟩ : ∃ d, D = d + 1 := ⟨D - 1, by omega⟩
  rw [e_Mo_has, q_Mo_has_0]
  rcases hf with hf | hf
  · have e1 : nI 4294967295 - nI 1 = nI 4294967294 := b_sub (by decide)
    simp (disch := omega) only [hf, e1, s_Mo_isInN, ↓bc_234, ↓br_234_29, ↓bc_247, ↓bx_247, bl_247, ↓b_t0, ↓b_t1, ↓b_t2, ↓b_t3, ↓b_t4, ↓b_t5, ↓b_t6, Nat.zero_add, Nat.le_refl, b_rs, b_rn, b_r2, b_ss, b_sn, b_bt, b_bf, b_b0, b_b1, b_bw, b_shl, b_or, b_iv, b_jv, b_sI, b_sJ, ↓z_hl, z_b0, z_b1, z_b2, b_and1c, b_and1z, if_true, if_false, nI_add, pk_mul, b_cl, b_lt, b_le, b_eq, b_eq0, b_le0, b_0lt, b_0le, b_lt0]
    rw [if_neg (fun h => h.1 rfl)]
  · by_cases c : k < m 234 30
    · have e2 : decide (k < m 234 30) = true := decide_eq_true c
      simp (disch := omega) only [s_Mo_isIn1, e2, ↓bc_234, ↓br_234_29, ↓bc_247, ↓bx_247, bl_247, ↓b_t0, ↓b_t1, ↓b_t2, ↓b_t3, ↓b_t4, ↓b_t5, ↓b_t6, Nat.zero_add, Nat.le_refl, b_rs, b_rn, b_r2, b_ss, b_sn, b_bt, b_bf, b_b0, b_b1, b_bw, b_shl, b_or, b_iv, b_jv, b_sI, b_sJ, ↓z_hl, z_b0, z_b1, z_b2, b_and1c, b_and1z, if_true, if_false, nI_add, pk_mul, b_cl, b_lt, b_le, b_eq, b_eq0, b_le0, b_0lt, b_0le, b_lt0]
      rw [if_neg (by decide), if_pos ⟨by omega, c⟩]
    · have e2 : decide (k < m 234 30) = false := decide_eq_false c
      simp (disch := omega) only [s_Mo_isIn1, e2, ↓bc_234, ↓br_234_29, ↓bc_247, ↓bx_247, bl_247, ↓b_t0, ↓b_t1, ↓b_t2, ↓b_t3, ↓b_t4, ↓b_t5, ↓b_t6, Nat.zero_add, Nat.le_refl, b_rs, b_rn, b_r2, b_ss, b_sn, b_bt, b_bf, b_b0, b_b1, b_bw, b_shl, b_or, b_iv, b_jv, b_sI, b_sJ, ↓z_hl, z_b0, z_b1, z_b2, b_and1c, b_and1z, if_true, if_false, nI_add, pk_mul, b_cl, b_lt, b_le, b_eq, b_eq0, b_le0, b_0lt, b_0le, b_lt0]
      rw [if_neg (fun h => c h.2)]
theorem s_Mo_told (hD : 2 ≤ D) (hf : m 234 43 < 2) {k : Nat} (hk : k < 4294967296) : a_ex X tx a_T D 301 [.ref 234, .int (nI k)] (b_h m j w) = some ((b_h (b_r m 234 (b_s (m 234) 0 0)) j w), some (.int (nI (if m 234 43 ≠ 0 ∧ k < 4 then m 251 k else 4294967295)))) := by
  obtain ⟨d, rfl⟩ : ∃ d, D = d + 1 := ⟨D - 1, by omega⟩
  rw [e_Mo_told, q_Mo_told_0]
  by_cases c1 : m 234 43 = 0
  · simp (disch := omega) only [c1, ↓bc_234, ↓br_234_42, ↓bc_251, ↓bx_251, bl_251, ↓b_t0, ↓b_t1, ↓b_t2, ↓b_t3, ↓b_t4, ↓b_t5, ↓b_t6, Nat.zero_add, Nat.le_refl, b_rs, b_rn, b_r2, b_ss, b_sn, b_bt, b_bf, b_b0, b_b1, b_bw, b_shl, b_or, b_iv, b_jv, b_sI, b_sJ, ↓z_hl, z_b0, z_b1, z_b2, b_and1c, b_and1z, if_true, if_false, nI_add, pk_mul, b_cl, b_lt, b_le, b_eq, b_eq0, b_le0, b_0lt, b_0le, b_lt0]
    rw [if_neg (fun h => h.1 rfl)]
  · by_cases c : k < 4
    · have e2 : decide (0 ≤ k ∧ k ≤ 3) = true := decide_eq_true (by omega)
      simp (disch := omega) only [s_Mo_isIn, e2, ↓bc_234, ↓br_234_42, ↓bc_251, ↓bx_251, bl_251, ↓b_t0, ↓b_t1, ↓b_t2, ↓b_t3, ↓b_t4, ↓b_t5, ↓b_t6, Nat.zero_add, Nat.le_refl, b_rs, b_rn, b_r2, b_ss, b_sn, b_bt, b_bf, b_b0, b_b1, b_bw, b_shl, b_or, b_iv, b_jv, b_sI, b_sJ, ↓z_hl, z_b0, z_b1, z_b2, b_and1c, b_and1z, if_true, if_false, nI_add, pk_mul, b_cl, b_lt, b_le, b_eq, b_eq0, b_le0, b_0lt, b_0le, b_lt0]
      rw [if_neg c1, if_neg (by decide), if_pos ⟨c1, c⟩]
    · have e2 : decide (0 ≤ k ∧ k ≤ 3) = false := decide_eq_false (by omega)
      simp (disch := omega) only [s_Mo_isIn, e2, ↓bc_234, ↓br_234_42, ↓bc_251, ↓bx_251, bl_251, ↓b_t0, ↓b_t1, ↓b_t2, ↓b_t3, ↓b_t4, ↓b_t5, ↓b_t6, Nat.zero_add, Nat.le_refl, b_rs, b_rn, b_r2, b_ss, b_sn, b_bt, b_bf, b_b0, b_b1, b_bw, b_shl, b_or, b_iv, b_jv, b_sI, b_sJ, ↓z_hl, z_b0, z_b1, z_b2, b_and1c, b_and1z, if_true, if_false, nI_add, pk_mul, b_cl, b_lt, b_le, b_eq, b_eq0, b_le0, b_0lt, b_0le, b_lt0]
      rw [if_neg c1, if_neg (fun h => c h.2)]
theorem s_Mo_haggle (hS : i_S (m 236)) (hI : i_D (m 236)) (hD : 3 ≤ D) {q e : Nat} (hq : q < 4294967296) (he : e < 4294967296) :
    (w_hagok (m 236) q e → a_ex X tx a_T D 280 [.ref 234, .int (nI q), .int (nI e)] (b_h m j w) = some ((b_h (b_r m 234 (b_s (b_s (b_s (m 234) 0 0) 36 1) 35 (w_round (m 236) e))) j w), some (.int (nI (m 236 (251 + e) - w_round (m 236) e))))) ∧ (¬ w_hagok (m 236) q e → a_ex X tx a_T D 280 [.ref 234, .int (nI q), .int (nI e)] (b_h m j w) = some ((b_h (b_r m 234 (b_s (m 234) 0 0)) j w), some (.int (nI (4294967295))))) := by
  obtain ⟨d, rfl⟩ : ∃ d, D = d + 1 := ⟨D - 1, by omega⟩
  rw [e_Mo_haggle, q_Mo_haggle_0]
  have hS2 : i_S ((b_r m 234 (b_s (m 234) 0 0)) 236) := by rw [b_rn (by decide)]; exact hS
  have hI2 : i_D ((b_r m 234 (b_s (m 234) 0 0)) 236) := by rw [b_rn (by decide)]; exact hI
  have qq : (b_r m 234 (b_s (m 234) 0 0)) 236 = m 236 := b_rn (by decide)
  have q0 : (b_r m 234 (b_s (m 234) 0 0)) 236 0 = m 236 0 := by rw [qq]
  have q1 : (b_r m 234 (b_s (m 234) 0 0)) 236 1 = m 236 1 := by rw [qq]
  have q2 : (b_r m 234 (b_s (m 234) 0 0)) 236 2 = m 236 2 := by rw [qq]
  have q3 : (b_r m 234 (b_s (m 234) 0 0)) 236 3 = m 236 3 := by rw [qq]
  have hK := i_S_K hS
  have hM := i_S_M hS
  have hT := i_S_T hS
  have hE := i_S_E hS
  have mainp : q < m 236 1 → e < m 236 3 → ∀ P : Prop, ∀ m2 v, (¬ (m 236 (251 + e) - w_round (m 236) e ≤ m 236 (159 + q)) → m2 = b_r m 234 (b_s (m 234) 0 0) ∧ v = 4294967295) → (m 236 (251 + e) - w_round (m 236) e ≤ m 236 (159 + q) → m2 = b_r m 234 (b_s (b_s (b_s (m 234) 0 0) 36 1) 35 (w_round (m 236) e)) ∧ v = m 236 (251 + e) - w_round (m 236) e) → a_go X tx (a_ex X tx a_T d) k_Mo_haggle_0 (a_f1 + 1) 27 [.ref 234, .int (nI q), .int (nI e), .int (nI 0), .retAddr 0] (b_h (b_r m 234 (b_s (m 234) 0 0)) j w) = some (b_h m2 j w, some (.int (nI v))) := by
    intro hq2 he2 _ m2 v hv1 hv2
    have h1 := i_D_pr hI e (by omega)
    have h2 := i_coin hI (i := q) (by omega)
    refine z_loop (fun n => [.ref 234, .int (nI q), .int (nI e), .int (nI n), .retAddr 0]) (fun n => b_h (b_r m 234 (b_s (m 234) 0 0)) j w) (w_round (m 236) e) 0 ?_ ?_ _ (z_fu (by unfold w_round; omega))
    · intro n hn f _
      rw [l_Mo_haggle_27, q_Mo_haggle_27]
      unfold w_round at hn
      simp (disch := omega) only [b_sub, ↓bc_234, ↓br_234_6, ↓bc_236, ↓bx_236, bl_236, ↓b_t0, ↓b_t1, ↓b_t2, ↓b_t3, ↓b_t4, ↓b_t5, ↓b_t6, Nat.zero_add, Nat.le_refl, b_rs, b_rn, b_r2, b_ss, b_sn, b_bt, b_bf, b_b0, b_b1, b_bw, b_shl, b_or, b_iv, b_jv, b_sI, b_sJ, ↓z_hl, z_b0, z_b1, z_b2, b_and1c, b_and1z, if_true, if_false, nI_add, pk_mul, b_cl, b_lt, b_le, b_eq, b_eq0, b_le0, b_0lt, b_0le, b_lt0]
      rw [if_neg (by omega)]
    · intro f _
      rw [l_Mo_haggle_27, q_Mo_haggle_27]
      have h3 : w_round (m 236) e ≤ 34 := by unfold w_round; omega
      have h4 : w_round (m 236) e ≤ m 236 (251 + e) := by unfold w_round; omega
      have h5 : m 236 (251 + e) - w_round (m 236) e ≤ 2 * w_round (m 236) e := by unfold w_round; omega
      simp (disch := omega) only [b_sub, ↓bc_234, ↓br_234_6, ↓bc_236, ↓bx_236, bl_236, ↓b_t0, ↓b_t1, ↓b_t2, ↓b_t3, ↓b_t4, ↓b_t5, ↓b_t6, Nat.zero_add, Nat.le_refl, b_rs, b_rn, b_r2, b_ss, b_sn, b_bt, b_bf, b_b0, b_b1, b_bw, b_shl, b_or, b_iv, b_jv, b_sI, b_sJ, ↓z_hl, z_b0, z_b1, z_b2, b_and1c, b_and1z, if_true, if_false, nI_add, pk_mul, b_cl, b_lt, b_le, b_eq, b_eq0, b_le0, b_0lt, b_0le, b_lt0]
      rw [if_pos h5]
      by_cases c : m 236 (251 + e) - w_round (m 236) e ≤ m 236 (159 + q)
      · obtain ⟨e1, e2⟩ := hv2 c
        subst e1; subst e2
        rw [if_pos c]
      · obtain ⟨e1, e2⟩ := hv1 c
        subst e1; subst e2
        rw [if_neg c]
  by_cases c1 : q < m 236 1
  · by_cases c2 : e < m 236 3
    · have h3 := i_hlt hS hI c2
      by_cases c3 : m 236 (241 + e) = 4294967295
      · refine ⟨fun h => absurd c3 h.2.2.1, fun _ => ?_⟩
        simp (disch := omega) only [s_Mo_isMan hS2, s_Mo_isEnding hS2, s_Mo_isPut hS2 hI2, decide_eq_false_iff_not, ↓bc_234, ↓br_234_6, ↓bc_236, ↓bx_236, bl_236, ↓b_t0, ↓b_t1, ↓b_t2, ↓b_t3, ↓b_t4, ↓b_t5, ↓b_t6, Nat.zero_add, Nat.le_refl, b_rs, b_rn, b_r2, b_ss, b_sn, b_bt, b_bf, b_b0, b_b1, b_bw, b_shl, b_or, b_iv, b_jv, b_sI, b_sJ, ↓z_hl, z_b0, z_b1, z_b2, b_and1c, b_and1z, if_true, if_false, nI_add, pk_mul, b_cl, b_lt, b_le, b_eq, b_eq0, b_le0, b_0lt, b_0le, b_lt0]
        rw [if_neg (fun h => h c1), if_neg (fun h => h c2), if_neg (fun h => h c3)]
      · by_cases c4 : m 236 (241 + e) = q
        · refine ⟨fun h => absurd c4 h.2.2.2.1, fun _ => ?_⟩
          simp (disch := omega) only [s_Mo_isMan hS2, s_Mo_isEnding hS2, s_Mo_isPut hS2 hI2, decide_eq_false_iff_not, ↓bc_234, ↓br_234_6, ↓bc_236, ↓bx_236, bl_236, ↓b_t0, ↓b_t1, ↓b_t2, ↓b_t3, ↓b_t4, ↓b_t5, ↓b_t6, Nat.zero_add, Nat.le_refl, b_rs, b_rn, b_r2, b_ss, b_sn, b_bt, b_bf, b_b0, b_b1, b_bw, b_shl, b_or, b_iv, b_jv, b_sI, b_sJ, ↓z_hl, z_b0, z_b1, z_b2, b_and1c, b_and1z, if_true, if_false, nI_add, pk_mul, b_cl, b_lt, b_le, b_eq, b_eq0, b_le0, b_0lt, b_0le, b_lt0]
          rw [if_neg (fun h => h c1), if_neg (fun h => h c2), if_pos c3, if_pos c4]
        · simp (disch := omega) only [s_Mo_isMan hS2, s_Mo_isEnding hS2, s_Mo_isPut hS2 hI2, decide_eq_false_iff_not, ↓bc_234, ↓br_234_6, ↓bc_236, ↓bx_236, bl_236, ↓b_t0, ↓b_t1, ↓b_t2, ↓b_t3, ↓b_t4, ↓b_t5, ↓b_t6, Nat.zero_add, Nat.le_refl, b_rs, b_rn, b_r2, b_ss, b_sn, b_bt, b_bf, b_b0, b_b1, b_bw, b_shl, b_or, b_iv, b_jv, b_sI, b_sJ, ↓z_hl, z_b0, z_b1, z_b2, b_and1c, b_and1z, if_true, if_false, nI_add, pk_mul, b_cl, b_lt, b_le, b_eq, b_eq0, b_le0, b_0lt, b_0le, b_lt0]
          rw [if_neg (fun h => h c1), if_neg (fun h => h c2), if_pos c3, if_neg c4, ← l_Mo_haggle_27]
          refine ⟨fun h => ?_, fun h => ?_⟩
          · exact mainp c1 c2 True _ _ (fun hn => absurd h.2.2.2.2 hn) (fun _ => ⟨rfl, rfl⟩)
          · exact mainp c1 c2 True _ _ (fun _ => ⟨rfl, rfl⟩) (fun hy => absurd ⟨c1, c2, c3, c4, hy⟩ h)
    · refine ⟨fun h => absurd h.2.1 c2, fun _ => ?_⟩
      simp (disch := omega) only [s_Mo_isMan hS2, s_Mo_isEnding hS2, decide_eq_false_iff_not, ↓bc_234, ↓br_234_6, ↓bc_236, ↓bx_236, bl_236, ↓b_t0, ↓b_t1, ↓b_t2, ↓b_t3, ↓b_t4, ↓b_t5, ↓b_t6, Nat.zero_add, Nat.le_refl, b_rs, b_rn, b_r2, b_ss, b_sn, b_bt, b_bf, b_b0, b_b1, b_bw, b_shl, b_or, b_iv, b_jv, b_sI, b_sJ, ↓z_hl, z_b0, z_b1, z_b2, b_and1c, b_and1z, if_true, if_false, nI_add, pk_mul, b_cl, b_lt, b_le, b_eq, b_eq0, b_le0, b_0lt, b_0le, b_lt0]
      rw [if_neg (fun h => h c1), if_pos c2]
  · refine ⟨fun h => absurd h.1 c1, fun _ => ?_⟩
    simp (disch := omega) only [s_Mo_isMan hS2, decide_eq_false_iff_not, ↓bc_234, ↓br_234_6, ↓bc_236, ↓bx_236, bl_236, ↓b_t0, ↓b_t1, ↓b_t2, ↓b_t3, ↓b_t4, ↓b_t5, ↓b_t6, Nat.zero_add, Nat.le_refl, b_rs, b_rn, b_r2, b_ss, b_sn, b_bt, b_bf, b_b0, b_b1, b_bw, b_shl, b_or, b_iv, b_jv, b_sI, b_sJ, ↓z_hl, z_b0, z_b1, z_b2, b_and1c, b_and1z, if_true, if_false, nI_add, pk_mul, b_cl, b_lt, b_le, b_eq, b_eq0, b_le0, b_0lt, b_0le, b_lt0]
    rw [if_pos c1]
end MQ3
