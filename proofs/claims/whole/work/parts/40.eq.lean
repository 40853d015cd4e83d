/-! QUERIES of the class -/
section EQ
variable {X : Nat × (Nat → Int32)} {tx : List Int32} {D : Nat} {m j : Nat → Nat → Nat} {w : (Nat × Nat) × Bool} {s : Nat → Nat}
theorem s_EM_open (hF : c_F m 4 s) (hA : c_A m 26 s) (hS : i_S s) (hI : i_D s) (hD : 2 ≤ D) {t k : Nat} (ht : t < 4294967296) (hk : k < 4294967296) : a_ex X tx a_T D 157 [.ref 0, .int (nI t), .int (nI k)] (b_h m j w) = some ((b_h m j w), some (.int (nI (w_qopen s t k)))) := by
  obtain ⟨d, rfl⟩ : ∃ d, D = d + 1 := ⟨D - 1, by omega⟩
  rw [e_EM_open, q_EM_open_0]
  have hK := i_S_K hS
  have hT := i_S_T hS
  unfold w_qopen
  by_cases c1 : t < s 2
  · by_cases c2 : k < s 0
    · rw [if_pos ⟨c1, c2⟩]
      simp (disch := omega) only [s_Fa_isThing hF hS, s_Fa_isKind hF hS, s_Af_amount26 hA, decide_eq_false_iff_not, ↓bc_0, ↓br_0_1, ↓bc_4, ↓br_0_3, ↓bc_26, ↓b_t0, ↓b_t1, ↓b_t2, ↓b_t3, ↓b_t4, ↓b_t5, ↓b_t6, Nat.zero_add, Nat.le_refl, b_rs, b_rn, b_r2, b_ss, b_sn, b_bt, b_bf, b_b0, b_b1, b_bw, b_shl, b_or, b_iv, b_jv, b_sI, b_sJ, ↓z_hl, z_b0, z_b1, z_b2, b_and1c, b_and1z, if_true, if_false, nI_add, pk_mul, b_cl, b_lt, b_le, b_eq, b_eq0, b_le0, b_0lt, b_0le, b_lt0]
      rw [if_neg (fun h => h c1), if_neg (fun h => h c2)]
    · rw [if_neg (fun h => c2 h.2)]
      simp (disch := omega) only [s_Fa_isThing hF hS, s_Fa_isKind hF hS, decide_eq_false_iff_not, ↓bc_0, ↓br_0_1, ↓bc_4, ↓br_0_3, ↓bc_26, ↓b_t0, ↓b_t1, ↓b_t2, ↓b_t3, ↓b_t4, ↓b_t5, ↓b_t6, Nat.zero_add, Nat.le_refl, b_rs, b_rn, b_r2, b_ss, b_sn, b_bt, b_bf, b_b0, b_b1, b_bw, b_shl, b_or, b_iv, b_jv, b_sI, b_sJ, ↓z_hl, z_b0, z_b1, z_b2, b_and1c, b_and1z, if_true, if_false, nI_add, pk_mul, b_cl, b_lt, b_le, b_eq, b_eq0, b_le0, b_0lt, b_0le, b_lt0]
      rw [if_neg (fun h => h c1), if_pos c2]
  · rw [if_neg (fun h => c1 h.1)]
    simp (disch := omega) only [s_Fa_isThing hF hS, decide_eq_false_iff_not, ↓bc_0, ↓br_0_1, ↓bc_4, ↓br_0_3, ↓bc_26, ↓b_t0, ↓b_t1, ↓b_t2, ↓b_t3, ↓b_t4, ↓b_t5, ↓b_t6, Nat.zero_add, Nat.le_refl, b_rs, b_rn, b_r2, b_ss, b_sn, b_bt, b_bf, b_b0, b_b1, b_bw, b_shl, b_or, b_iv, b_jv, b_sI, b_sJ, ↓z_hl, z_b0, z_b1, z_b2, b_and1c, b_and1z, if_true, if_false, nI_add, pk_mul, b_cl, b_lt, b_le, b_eq, b_eq0, b_le0, b_0lt, b_0le, b_lt0]
    rw [if_pos c1]
theorem s_EM_closes (hF : c_F m 4 s) (hS : i_S s) (hD : 2 ≤ D) {e k : Nat} (he : e < 4294967296) (hk : k < 4294967296) : a_ex X tx a_T D 159 [.ref 0, .int (nI e), .int (nI k)] (b_h m j w) = some ((b_h m j w), some (.int (nI (w_qcloses s e k)))) := by
  obtain ⟨d, rfl⟩ : ∃ d, D = d + 1 := ⟨D - 1, by omega⟩
  rw [e_EM_closes, q_EM_closes_0]
  have hK := i_S_K hS
  have hE := i_S_E hS
  unfold w_qcloses
  by_cases c1 : e < s 3
  · by_cases c2 : k < s 0
    · rw [if_pos ⟨c1, c2⟩]
      simp (disch := omega) only [s_Fa_isEnding hF hS, s_Fa_isKind hF hS, s_Fa_closed hF, decide_eq_false_iff_not, ↓bc_0, ↓br_0_1, ↓bc_4, ↓b_t0, ↓b_t1, ↓b_t2, ↓b_t3, ↓b_t4, ↓b_t5, ↓b_t6, Nat.zero_add, Nat.le_refl, b_rs, b_rn, b_r2, b_ss, b_sn, b_bt, b_bf, b_b0, b_b1, b_bw, b_shl, b_or, b_iv, b_jv, b_sI, b_sJ, ↓z_hl, z_b0, z_b1, z_b2, b_and1c, b_and1z, if_true, if_false, nI_add, pk_mul, b_cl, b_lt, b_le, b_eq, b_eq0, b_le0, b_0lt, b_0le, b_lt0]
      rw [if_neg (fun h => h c1), if_neg (fun h => h c2)]
    · rw [if_neg (fun h => c2 h.2)]
      simp (disch := omega) only [s_Fa_isEnding hF hS, s_Fa_isKind hF hS, decide_eq_false_iff_not, ↓bc_0, ↓br_0_1, ↓bc_4, ↓b_t0, ↓b_t1, ↓b_t2, ↓b_t3, ↓b_t4, ↓b_t5, ↓b_t6, Nat.zero_add, Nat.le_refl, b_rs, b_rn, b_r2, b_ss, b_sn, b_bt, b_bf, b_b0, b_b1, b_bw, b_shl, b_or, b_iv, b_jv, b_sI, b_sJ, ↓z_hl, z_b0, z_b1, z_b2, b_and1c, b_and1z, if_true, if_false, nI_add, pk_mul, b_cl, b_lt, b_le, b_eq, b_eq0, b_le0, b_0lt, b_0le, b_lt0]
      rw [if_neg (fun h => h c1), if_pos c2]
  · rw [if_neg (fun h => c1 h.1)]
    simp (disch := omega) only [s_Fa_isEnding hF hS, decide_eq_false_iff_not, ↓bc_0, ↓br_0_1, ↓bc_4, ↓b_t0, ↓b_t1, ↓b_t2, ↓b_t3, ↓b_t4, ↓b_t5, ↓b_t6, Nat.zero_add, Nat.le_refl, b_rs, b_rn, b_r2, b_ss, b_sn, b_bt, b_bf, b_b0, b_b1, b_bw, b_shl, b_or, b_iv, b_jv, b_sI, b_sJ, ↓z_hl, z_b0, z_b1, z_b2, b_and1c, b_and1z, if_true, if_false, nI_add, pk_mul, b_cl, b_lt, b_le, b_eq, b_eq0, b_le0, b_0lt, b_0le, b_lt0]
    rw [if_pos c1]
theorem s_EM_fits (hF : c_F m 4 s) (hA : c_A m 26 s) (hS : i_S s) (hI : i_D s) (hD : 3 ≤ D) {e t : Nat} (he : e < 4294967296) (ht : t < 4294967296) : a_ex X tx a_T D 166 [.ref 0, .int (nI e), .int (nI t)] (b_h m j w) = some ((b_h m j w), some (.int (nI (w_qfits s e t)))) := by
  obtain ⟨d, rfl⟩ : ∃ d, D = d + 1 := ⟨D - 1, by omega⟩
  rw [e_EM_fits, q_EM_fits_0]
  have hT := i_S_T hS
  have hE := i_S_E hS
  unfold w_qfits
  by_cases c1 : e < s 3
  · by_cases c2 : t < s 2
    · by_cases c3 : s (241 + e) = 4294967295
      · rw [if_neg (fun h => h.2.2 c3)]
        simp (disch := omega) only [s_Fa_isEnding hF hS, s_Fa_isThing hF hS, s_Af_isPut26 hA hS hI, decide_eq_false_iff_not, ↓bc_0, ↓br_0_1, ↓bc_4, ↓br_0_3, ↓bc_26, ↓b_t0, ↓b_t1, ↓b_t2, ↓b_t3, ↓b_t4, ↓b_t5, ↓b_t6, Nat.zero_add, Nat.le_refl, b_rs, b_rn, b_r2, b_ss, b_sn, b_bt, b_bf, b_b0, b_b1, b_bw, b_shl, b_or, b_iv, b_jv, b_sI, b_sJ, ↓z_hl, z_b0, z_b1, z_b2, b_and1c, b_and1z, if_true, if_false, nI_add, pk_mul, b_cl, b_lt, b_le, b_eq, b_eq0, b_le0, b_0lt, b_0le, b_lt0]
        rw [if_neg (fun h => h c1), if_neg (fun h => h c2), if_neg (fun h => h c3)]
      · rw [if_pos ⟨c1, c2, c3⟩]
        simp (disch := omega) only [s_Fa_isEnding hF hS, s_Fa_isThing hF hS, s_Af_isPut26 hA hS hI, s_Af_suits26 hF hA hS hI, decide_eq_false_iff_not, ↓bc_0, ↓br_0_1, ↓bc_4, ↓br_0_3, ↓bc_26, ↓b_t0, ↓b_t1, ↓b_t2, ↓b_t3, ↓b_t4, ↓b_t5, ↓b_t6, Nat.zero_add, Nat.le_refl, b_rs, b_rn, b_r2, b_ss, b_sn, b_bt, b_bf, b_b0, b_b1, b_bw, b_shl, b_or, b_iv, b_jv, b_sI, b_sJ, ↓z_hl, z_b0, z_b1, z_b2, b_and1c, b_and1z, if_true, if_false, nI_add, pk_mul, b_cl, b_lt, b_le, b_eq, b_eq0, b_le0, b_0lt, b_0le, b_lt0]
        rw [if_neg (fun h => h c1), if_neg (fun h => h c2), if_pos c3]
        unfold w_fit
        rw [decide_eq_true c3, Bool.true_and]
        cases w_fitsRow s e (177 + 6 * t) <;> rfl
    · rw [if_neg (fun h => c2 h.2.1)]
      simp (disch := omega) only [s_Fa_isEnding hF hS, s_Fa_isThing hF hS, decide_eq_false_iff_not, ↓bc_0, ↓br_0_1, ↓bc_4, ↓br_0_3, ↓bc_26, ↓b_t0, ↓b_t1, ↓b_t2, ↓b_t3, ↓b_t4, ↓b_t5, ↓b_t6, Nat.zero_add, Nat.le_refl, b_rs, b_rn, b_r2, b_ss, b_sn, b_bt, b_bf, b_b0, b_b1, b_bw, b_shl, b_or, b_iv, b_jv, b_sI, b_sJ, ↓z_hl, z_b0, z_b1, z_b2, b_and1c, b_and1z, if_true, if_false, nI_add, pk_mul, b_cl, b_lt, b_le, b_eq, b_eq0, b_le0, b_0lt, b_0le, b_lt0]
      rw [if_neg (fun h => h c1), if_pos c2]
  · rw [if_neg (fun h => c1 h.1)]
    simp (disch := omega) only [s_Fa_isEnding hF hS, decide_eq_false_iff_not, ↓bc_0, ↓br_0_1, ↓bc_4, ↓br_0_3, ↓bc_26, ↓b_t0, ↓b_t1, ↓b_t2, ↓b_t3, ↓b_t4, ↓b_t5, ↓b_t6, Nat.zero_add, Nat.le_refl, b_rs, b_rn, b_r2, b_ss, b_sn, b_bt, b_bf, b_b0, b_b1, b_bw, b_shl, b_or, b_iv, b_jv, b_sI, b_sJ, ↓z_hl, z_b0, z_b1, z_b2, b_and1c, b_and1z, if_true, if_false, nI_add, pk_mul, b_cl, b_lt, b_le, b_eq, b_eq0, b_le0, b_0lt, b_0le, b_lt0]
    rw [if_pos c1]
theorem s_EM_likes (hF : c_F m 4 s) (hA : c_A m 26 s) (hS : i_S s) (hI : i_D s) (hD : 4 ≤ D) {q e : Nat} (hq : q < 4294967296) (he : e < 4294967296) : a_ex X tx a_T D 177 [.ref 0, .int (nI q), .int (nI e)] (b_h m j w) = some ((b_h m j w), some (.int (nI (w_qlikes s q e)))) := by
  obtain ⟨d, rfl⟩ : ∃ d, D = d + 1 := ⟨D - 1, by omega⟩
  rw [e_EM_likes, q_EM_likes_0]
  have hE := i_S_E hS
  unfold w_qlikes
  by_cases c1 : q < s 1
  · by_cases c2 : e < s 3
    · by_cases c3 : s (241 + e) = 4294967295
      · rw [if_neg (fun h => h.2.2 c3)]
        simp (disch := omega) only [s_Fa_isEnding hF hS, s_Fa_isMan hF hS, s_Af_isPut26 hA hS hI, decide_eq_false_iff_not, ↓bc_0, ↓br_0_1, ↓bc_4, ↓br_0_3, ↓bc_26, ↓b_t0, ↓b_t1, ↓b_t2, ↓b_t3, ↓b_t4, ↓b_t5, ↓b_t6, Nat.zero_add, Nat.le_refl, b_rs, b_rn, b_r2, b_ss, b_sn, b_bt, b_bf, b_b0, b_b1, b_bw, b_shl, b_or, b_iv, b_jv, b_sI, b_sJ, ↓z_hl, z_b0, z_b1, z_b2, b_and1c, b_and1z, if_true, if_false, nI_add, pk_mul, b_cl, b_lt, b_le, b_eq, b_eq0, b_le0, b_0lt, b_0le, b_lt0]
        rw [if_neg (fun h => h c1), if_neg (fun h => h c2), if_neg (fun h => h c3)]
      · rw [if_pos ⟨c1, c2, c3⟩]
        simp (disch := omega) only [s_Fa_isEnding hF hS, s_Fa_isMan hF hS, s_Af_isPut26 hA hS hI, s_Af_liking hF hA hS hI _ _ _ c3, decide_eq_false_iff_not, ↓bc_0, ↓br_0_1, ↓bc_4, ↓br_0_3, ↓bc_26, ↓b_t0, ↓b_t1, ↓b_t2, ↓b_t3, ↓b_t4, ↓b_t5, ↓b_t6, Nat.zero_add, Nat.le_refl, b_rs, b_rn, b_r2, b_ss, b_sn, b_bt, b_bf, b_b0, b_b1, b_bw, b_shl, b_or, b_iv, b_jv, b_sI, b_sJ, ↓z_hl, z_b0, z_b1, z_b2, b_and1c, b_and1z, if_true, if_false, nI_add, pk_mul, b_cl, b_lt, b_le, b_eq, b_eq0, b_le0, b_0lt, b_0le, b_lt0]
        rw [if_neg (fun h => h c1), if_neg (fun h => h c2), if_pos c3]
    · rw [if_neg (fun h => c2 h.2.1)]
      simp (disch := omega) only [s_Fa_isEnding hF hS, s_Fa_isMan hF hS, decide_eq_false_iff_not, ↓bc_0, ↓br_0_1, ↓bc_4, ↓br_0_3, ↓bc_26, ↓b_t0, ↓b_t1, ↓b_t2, ↓b_t3, ↓b_t4, ↓b_t5, ↓b_t6, Nat.zero_add, Nat.le_refl, b_rs, b_rn, b_r2, b_ss, b_sn, b_bt, b_bf, b_b0, b_b1, b_bw, b_shl, b_or, b_iv, b_jv, b_sI, b_sJ, ↓z_hl, z_b0, z_b1, z_b2, b_and1c, b_and1z, if_true, if_false, nI_add, pk_mul, b_cl, b_lt, b_le, b_eq, b_eq0, b_le0, b_0lt, b_0le, b_lt0]
      rw [if_neg (fun h => h c1), if_pos c2]
  · rw [if_neg (fun h => c1 h.1)]
    simp (disch := omega) only [s_Fa_isMan hF hS, decide_eq_false_iff_not, ↓bc_0, ↓br_0_1, ↓bc_4, ↓br_0_3, ↓bc_26, ↓b_t0, ↓b_t1, ↓b_t2, ↓b_t3, ↓b_t4, ↓b_t5, ↓b_t6, Nat.zero_add, Nat.le_refl, b_rs, b_rn, b_r2, b_ss, b_sn, b_bt, b_bf, b_b0, b_b1, b_bw, b_shl, b_or, b_iv, b_jv, b_sI, b_sJ, ↓z_hl, z_b0, z_b1, z_b2, b_and1c, b_and1z, if_true, if_false, nI_add, pk_mul, b_cl, b_lt, b_le, b_eq, b_eq0, b_le0, b_0lt, b_0le, b_lt0]
    rw [if_pos c1]
theorem s_EM_dark (hF : c_F m 4 s) (hA : c_A m 26 s) (hS : i_S s) (hI : i_D s) (hD : 4 ≤ D) : a_ex X tx a_T D 182 [.ref 0] (b_h m j w) = some ((b_h m j w), some (.int (nI (w_waits s)))) := by
  obtain ⟨d, rfl⟩ : ∃ d, D = d + 1 := ⟨D - 1, by omega⟩
  rw [e_EM_dark, q_EM_dark_0]
  simp (disch := omega) only [s_Af_waiting hF hA hS hI, ↓bc_0, ↓br_0_3, ↓bc_26, ↓b_t0, ↓b_t1, ↓b_t2, ↓b_t3, ↓b_t4, ↓b_t5, ↓b_t6, Nat.zero_add, Nat.le_refl, b_rs, b_rn, b_r2, b_ss, b_sn, b_bt, b_bf, b_b0, b_b1, b_bw, b_shl, b_or, b_iv, b_jv, b_sI, b_sJ, ↓z_hl, z_b0, z_b1, z_b2, b_and1c, b_and1z, if_true, if_false, nI_add, pk_mul, b_cl, b_lt, b_le, b_eq, b_eq0, b_le0, b_0lt, b_0le, b_lt0]
theorem s_EM_cheapest (hF : c_F m 4 s) (hA : c_A m 26 s) (hS : i_S s) (hI : i_D s) (hD : 5 ≤ D) {t : Nat} (ht : t < 4294967296) : a_ex X tx a_T D 183 [.ref 0, .int (nI t)] (b_h m j w) = some ((b_h m j w), some (.int (nI (w_qcheap s t)))) := by
  obtain ⟨d, rfl⟩ : ∃ d, D = d + 1 := ⟨D - 1, by omega⟩
  rw [e_EM_cheapest, q_EM_cheapest_0]
  unfold w_qcheap
  by_cases c1 : t < s 2
  · rw [if_pos c1]
    simp (disch := omega) only [s_Fa_isThing hF hS, s_Af_cheapestOfOthers hF hA hS hI, decide_eq_false_iff_not, ↓bc_0, ↓br_0_1, ↓bc_4, ↓br_0_3, ↓bc_26, ↓b_t0, ↓b_t1, ↓b_t2, ↓b_t3, ↓b_t4, ↓b_t5, ↓b_t6, Nat.zero_add, Nat.le_refl, b_rs, b_rn, b_r2, b_ss, b_sn, b_bt, b_bf, b_b0, b_b1, b_bw, b_shl, b_or, b_iv, b_jv, b_sI, b_sJ, ↓z_hl, z_b0, z_b1, z_b2, b_and1c, b_and1z, if_true, if_false, nI_add, pk_mul, b_cl, b_lt, b_le, b_eq, b_eq0, b_le0, b_0lt, b_0le, b_lt0]
    rw [if_neg (fun h => h c1)]
  · rw [if_neg c1]
    simp (disch := omega) only [s_Fa_isThing hF hS, decide_eq_false_iff_not, ↓bc_0, ↓br_0_1, ↓bc_4, ↓br_0_3, ↓bc_26, ↓b_t0, ↓b_t1, ↓b_t2, ↓b_t3, ↓b_t4, ↓b_t5, ↓b_t6, Nat.zero_add, Nat.le_refl, b_rs, b_rn, b_r2, b_ss, b_sn, b_bt, b_bf, b_b0, b_b1, b_bw, b_shl, b_or, b_iv, b_jv, b_sI, b_sJ, ↓z_hl, z_b0, z_b1, z_b2, b_and1c, b_and1z, if_true, if_false, nI_add, pk_mul, b_cl, b_lt, b_le, b_eq, b_eq0, b_le0, b_0lt, b_0le, b_lt0]
    rw [if_pos c1]
theorem s_EM_man (hF : c_F m 4 s) (hA : c_A m 26 s) (hS : i_S s) (hI : i_D s) (hD : 2 ≤ D) {q what : Nat} (hq : q < 4294967296) (hw : what < 4294967296) : a_ex X tx a_T D 160 [.ref 0, .int (nI q), .int (nI what)] (b_h m j w) = some ((b_h m j w), some (.int (nI (w_qman s q what)))) := by
  obtain ⟨d, rfl⟩ : ∃ d, D = d + 1 := ⟨D - 1, by omega⟩
  rw [e_EM_man, q_EM_man_0]
  have hM := i_S_M hS
  unfold w_qman
  by_cases c1 : q < s 1
  · rw [if_pos c1]
    have h1 := c_A26_co hA q c1
    have h2 := c_A26_bo hA q c1
    have h3 := c_A26_pp hA q c1
    obtain h | h | h | h | h | h : what = 0 ∨ what = 1 ∨ what = 2 ∨ what = 3 ∨ what = 4 ∨ 5 ≤ what := by omega
    · subst h; simp (disch := omega) only [s_Fa_isMan hF hS, h1, decide_eq_false_iff_not, ↓bc_0, ↓br_0_1, ↓bc_4, ↓br_0_3, ↓bc_26, ↓br_26_2, ↓bc_27, ↓bx_27, bl_27, ↓br_26_3, ↓bc_28, ↓bx_28, bl_28, ↓br_26_4, ↓bc_29, ↓bx_29, bl_29, ↓b_t0, ↓b_t1, ↓b_t2, ↓b_t3, ↓b_t4, ↓b_t5, ↓b_t6, Nat.zero_add, Nat.le_refl, b_rs, b_rn, b_r2, b_ss, b_sn, b_bt, b_bf, b_b0, b_b1, b_bw, b_shl, b_or, b_iv, b_jv, b_sI, b_sJ, ↓z_hl, z_b0, z_b1, z_b2, b_and1c, b_and1z, if_true, if_false, nI_add, pk_mul, b_cl, b_lt, b_le, b_eq, b_eq0, b_le0, b_0lt, b_0le, b_lt0]; rw [if_neg (fun h => h c1)]
    · subst h; simp (disch := omega) only [s_Fa_isMan hF hS, s_Fa_thingsOf hF hS, Nat.one_ne_zero, decide_eq_false_iff_not, ↓bc_0, ↓br_0_1, ↓bc_4, ↓br_0_3, ↓bc_26, ↓br_26_2, ↓bc_27, ↓bx_27, bl_27, ↓br_26_3, ↓bc_28, ↓bx_28, bl_28, ↓br_26_4, ↓bc_29, ↓bx_29, bl_29, ↓b_t0, ↓b_t1, ↓b_t2, ↓b_t3, ↓b_t4, ↓b_t5, ↓b_t6, Nat.zero_add, Nat.le_refl, b_rs, b_rn, b_r2, b_ss, b_sn, b_bt, b_bf, b_b0, b_b1, b_bw, b_shl, b_or, b_iv, b_jv, b_sI, b_sJ, ↓z_hl, z_b0, z_b1, z_b2, b_and1c, b_and1z, if_true, if_false, nI_add, pk_mul, b_cl, b_lt, b_le, b_eq, b_eq0, b_le0, b_0lt, b_0le, b_lt0]; rw [if_neg (fun h => h c1)]
    · subst h; simp (disch := omega) only [s_Fa_isMan hF hS, s_Af_endingsOf hF hA hS hI, decide_eq_false_iff_not, ↓bc_0, ↓br_0_1, ↓bc_4, ↓br_0_3, ↓bc_26, ↓br_26_2, ↓bc_27, ↓bx_27, bl_27, ↓br_26_3, ↓bc_28, ↓bx_28, bl_28, ↓br_26_4, ↓bc_29, ↓bx_29, bl_29, ↓b_t0, ↓b_t1, ↓b_t2, ↓b_t3, ↓b_t4, ↓b_t5, ↓b_t6, Nat.zero_add, Nat.le_refl, b_rs, b_rn, b_r2, b_ss, b_sn, b_bt, b_bf, b_b0, b_b1, b_bw, b_shl, b_or, b_iv, b_jv, b_sI, b_sJ, ↓z_hl, z_b0, z_b1, z_b2, b_and1c, b_and1z, if_true, if_false, nI_add, pk_mul, b_cl, b_lt, b_le, b_eq, b_eq0, b_le0, b_0lt, b_0le, b_lt0]; rw [if_neg (fun h => h c1)]; rfl
    · subst h; simp (disch := omega) only [s_Fa_isMan hF hS, h2, decide_eq_false_iff_not, ↓bc_0, ↓br_0_1, ↓bc_4, ↓br_0_3, ↓bc_26, ↓br_26_2, ↓bc_27, ↓bx_27, bl_27, ↓br_26_3, ↓bc_28, ↓bx_28, bl_28, ↓br_26_4, ↓bc_29, ↓bx_29, bl_29, ↓b_t0, ↓b_t1, ↓b_t2, ↓b_t3, ↓b_t4, ↓b_t5, ↓b_t6, Nat.zero_add, Nat.le_refl, b_rs, b_rn, b_r2, b_ss, b_sn, b_bt, b_bf, b_b0, b_b1, b_bw, b_shl, b_or, b_iv, b_jv, b_sI, b_sJ, ↓z_hl, z_b0, z_b1, z_b2, b_and1c, b_and1z, if_true, if_false, nI_add, pk_mul, b_cl, b_lt, b_le, b_eq, b_eq0, b_le0, b_0lt, b_0le, b_lt0]; rw [if_neg (fun h => h c1)]; rfl
    · subst h; simp (disch := omega) only [s_Fa_isMan hF hS, h3, decide_eq_false_iff_not, ↓bc_0, ↓br_0_1, ↓bc_4, ↓br_0_3, ↓bc_26, ↓br_26_2, ↓bc_27, ↓bx_27, bl_27, ↓br_26_3, ↓bc_28, ↓bx_28, bl_28, ↓br_26_4, ↓bc_29, ↓bx_29, bl_29, ↓b_t0, ↓b_t1, ↓b_t2, ↓b_t3, ↓b_t4, ↓b_t5, ↓b_t6, Nat.zero_add, Nat.le_refl, b_rs, b_rn, b_r2, b_ss, b_sn, b_bt, b_bf, b_b0, b_b1, b_bw, b_shl, b_or, b_iv, b_jv, b_sI, b_sJ, ↓z_hl, z_b0, z_b1, z_b2, b_and1c, b_and1z, if_true, if_false, nI_add, pk_mul, b_cl, b_lt, b_le, b_eq, b_eq0, b_le0, b_0lt, b_0le, b_lt0]; rw [if_neg (fun h => h c1)]; rfl
    · rw [if_neg (show ¬ what = 0 by omega), if_neg (show ¬ what = 1 by omega), if_neg (show ¬ what = 2 by omega), if_neg (show ¬ what = 3 by omega), if_neg (show ¬ what = 4 by omega)]
      simp (disch := omega) only [s_Fa_isMan hF hS, decide_eq_false_iff_not, ↓bc_0, ↓br_0_1, ↓bc_4, ↓br_0_3, ↓bc_26, ↓br_26_2, ↓bc_27, ↓bx_27, bl_27, ↓br_26_3, ↓bc_28, ↓bx_28, bl_28, ↓br_26_4, ↓bc_29, ↓bx_29, bl_29, ↓b_t0, ↓b_t1, ↓b_t2, ↓b_t3, ↓b_t4, ↓b_t5, ↓b_t6, Nat.zero_add, Nat.le_refl, b_rs, b_rn, b_r2, b_ss, b_sn, b_bt, b_bf, b_b0, b_b1, b_bw, b_shl, b_or, b_iv, b_jv, b_sI, b_sJ, ↓z_hl, z_b0, z_b1, z_b2, b_and1c, b_and1z, if_true, if_false, nI_add, pk_mul, b_cl, b_lt, b_le, b_eq, b_eq0, b_le0, b_0lt, b_0le, b_lt0]
      rw [if_neg (fun h => h c1), b_tsd (by simpa using h) hw]
  · rw [if_neg c1]
    simp (disch := omega) only [s_Fa_isMan hF hS, decide_eq_false_iff_not, ↓bc_0, ↓br_0_1, ↓bc_4, ↓br_0_3, ↓bc_26, ↓br_26_2, ↓bc_27, ↓bx_27, bl_27, ↓br_26_3, ↓bc_28, ↓bx_28, bl_28, ↓br_26_4, ↓bc_29, ↓bx_29, bl_29, ↓b_t0, ↓b_t1, ↓b_t2, ↓b_t3, ↓b_t4, ↓b_t5, ↓b_t6, Nat.zero_add, Nat.le_refl, b_rs, b_rn, b_r2, b_ss, b_sn, b_bt, b_bf, b_b0, b_b1, b_bw, b_shl, b_or, b_iv, b_jv, b_sI, b_sJ, ↓z_hl, z_b0, z_b1, z_b2, b_and1c, b_and1z, if_true, if_false, nI_add, pk_mul, b_cl, b_lt, b_le, b_eq, b_eq0, b_le0, b_0lt, b_0le, b_lt0]
    rw [if_pos c1]
theorem s_EM_now (hF : c_F m 4 s) (hA : c_A m 26 s) (hS : i_S s) (hI : i_D s) (hD : 4 ≤ D) {what : Nat} (hw : what < 4294967296) : a_ex X tx a_T D 161 [.ref 0, .int (nI what)] (b_h m j w) = some ((b_h m j w), some (.int (nI (w_qnow s what)))) := by
  obtain ⟨d, rfl⟩ : ∃ d, D = d + 1 := ⟨D - 1, by omega⟩
  rw [e_EM_now, q_EM_now_0]
  unfold w_qnow
  have h1 := c_A26_da hA
  obtain h | h | h | h | h | h | h : what = 0 ∨ what = 1 ∨ what = 2 ∨ what = 3 ∨ what = 4 ∨ what = 5 ∨ 6 ≤ what := by omega
  · subst h; simp (disch := omega) only [h1, ↓bc_0, ↓br_0_3, ↓bc_26, ↓b_t0, ↓b_t1, ↓b_t2, ↓b_t3, ↓b_t4, ↓b_t5, ↓b_t6, Nat.zero_add, Nat.le_refl, b_rs, b_rn, b_r2, b_ss, b_sn, b_bt, b_bf, b_b0, b_b1, b_bw, b_shl, b_or, b_iv, b_jv, b_sI, b_sJ, ↓z_hl, z_b0, z_b1, z_b2, b_and1c, b_and1z, if_true, if_false, nI_add, pk_mul, b_cl, b_lt, b_le, b_eq, b_eq0, b_le0, b_0lt, b_0le, b_lt0]
  · subst h; simp (disch := omega) only [s_Af_ended26 hF hA hS hI, Nat.one_ne_zero, ↓bc_0, ↓br_0_3, ↓bc_26, ↓b_t0, ↓b_t1, ↓b_t2, ↓b_t3, ↓b_t4, ↓b_t5, ↓b_t6, Nat.zero_add, Nat.le_refl, b_rs, b_rn, b_r2, b_ss, b_sn, b_bt, b_bf, b_b0, b_b1, b_bw, b_shl, b_or, b_iv, b_jv, b_sI, b_sJ, ↓z_hl, z_b0, z_b1, z_b2, b_and1c, b_and1z, if_true, if_false, nI_add, pk_mul, b_cl, b_lt, b_le, b_eq, b_eq0, b_le0, b_0lt, b_0le, b_lt0]
  · subst h; simp (disch := omega) only [s_Af_allPut hF hA hS hI, ↓bc_0, ↓br_0_3, ↓bc_26, ↓b_t0, ↓b_t1, ↓b_t2, ↓b_t3, ↓b_t4, ↓b_t5, ↓b_t6, Nat.zero_add, Nat.le_refl, b_rs, b_rn, b_r2, b_ss, b_sn, b_bt, b_bf, b_b0, b_b1, b_bw, b_shl, b_or, b_iv, b_jv, b_sI, b_sJ, ↓z_hl, z_b0, z_b1, z_b2, b_and1c, b_and1z, if_true, if_false, nI_add, pk_mul, b_cl, b_lt, b_le, b_eq, b_eq0, b_le0, b_0lt, b_0le, b_lt0]; rfl
  · subst h; simp (disch := omega) only [s_Af_allCoin hF hA hS hI, ↓bc_0, ↓br_0_3, ↓bc_26, ↓b_t0, ↓b_t1, ↓b_t2, ↓b_t3, ↓b_t4, ↓b_t5, ↓b_t6, Nat.zero_add, Nat.le_refl, b_rs, b_rn, b_r2, b_ss, b_sn, b_bt, b_bf, b_b0, b_b1, b_bw, b_shl, b_or, b_iv, b_jv, b_sI, b_sJ, ↓z_hl, z_b0, z_b1, z_b2, b_and1c, b_and1z, if_true, if_false, nI_add, pk_mul, b_cl, b_lt, b_le, b_eq, b_eq0, b_le0, b_0lt, b_0le, b_lt0]; rfl
  · subst h; simp (disch := omega) only [s_Af_openInAll hF hA hS hI, ↓bc_0, ↓br_0_3, ↓bc_26, ↓b_t0, ↓b_t1, ↓b_t2, ↓b_t3, ↓b_t4, ↓b_t5, ↓b_t6, Nat.zero_add, Nat.le_refl, b_rs, b_rn, b_r2, b_ss, b_sn, b_bt, b_bf, b_b0, b_b1, b_bw, b_shl, b_or, b_iv, b_jv, b_sI, b_sJ, ↓z_hl, z_b0, z_b1, z_b2, b_and1c, b_and1z, if_true, if_false, nI_add, pk_mul, b_cl, b_lt, b_le, b_eq, b_eq0, b_le0, b_0lt, b_0le, b_lt0]; rfl
  · subst h; simp (disch := omega) only [s_Af_allWentOn hF hA hS hI, ↓bc_0, ↓br_0_3, ↓bc_26, ↓b_t0, ↓b_t1, ↓b_t2, ↓b_t3, ↓b_t4, ↓b_t5, ↓b_t6, Nat.zero_add, Nat.le_refl, b_rs, b_rn, b_r2, b_ss, b_sn, b_bt, b_bf, b_b0, b_b1, b_bw, b_shl, b_or, b_iv, b_jv, b_sI, b_sJ, ↓z_hl, z_b0, z_b1, z_b2, b_and1c, b_and1z, if_true, if_false, nI_add, pk_mul, b_cl, b_lt, b_le, b_eq, b_eq0, b_le0, b_0lt, b_0le, b_lt0]; rfl
  · simp (disch := omega) only [↓bc_0, ↓br_0_3, ↓bc_26, ↓b_t0, ↓b_t1, ↓b_t2, ↓b_t3, ↓b_t4, ↓b_t5, ↓b_t6, Nat.zero_add, Nat.le_refl, b_rs, b_rn, b_r2, b_ss, b_sn, b_bt, b_bf, b_b0, b_b1, b_bw, b_shl, b_or, b_iv, b_jv, b_sI, b_sJ, ↓z_hl, z_b0, z_b1, z_b2, b_and1c, b_and1z, if_true, if_false, nI_add, pk_mul, b_cl, b_lt, b_le, b_eq, b_eq0, b_le0, b_0lt, b_0le, b_lt0]
    rw [b_tsd (by simpa using h) hw, if_neg (by omega), if_neg (by omega), if_neg (by omega), if_neg (by omega), if_neg (by omega), if_neg (by omega)]
theorem s_EM_count (hF : c_F m 4 s) (hD : 1 ≤ D) {what : Nat} (hw : what < 4294967296) : a_ex X tx a_T D 192 [.ref 0, .int (nI what)] (b_h m j w) = some ((b_h m j w), some (.int (nI (w_qcount s (m 1 2) what)))) := by
  obtain ⟨d, rfl⟩ : ∃ d, D = d + 1 := ⟨D - 1, by omega⟩
  rw [e_EM_count, q_EM_count_0]
  unfold w_qcount
  obtain h | h | h | h | h | h | h : what = 0 ∨ what = 1 ∨ what = 2 ∨ what = 3 ∨ what = 4 ∨ what = 5 ∨ 6 ≤ what := by omega
  · subst h; simp (disch := omega) only [c_F4_K hF, ↓bc_0, ↓br_0_1, ↓bc_4, ↓br_0_0, ↓bc_1, ↓b_t0, ↓b_t1, ↓b_t2, ↓b_t3, ↓b_t4, ↓b_t5, ↓b_t6, Nat.zero_add, Nat.le_refl, b_rs, b_rn, b_r2, b_ss, b_sn, b_bt, b_bf, b_b0, b_b1, b_bw, b_shl, b_or, b_iv, b_jv, b_sI, b_sJ, ↓z_hl, z_b0, z_b1, z_b2, b_and1c, b_and1z, if_true, if_false, nI_add, pk_mul, b_cl, b_lt, b_le, b_eq, b_eq0, b_le0, b_0lt, b_0le, b_lt0]; rfl
  · subst h; simp (disch := omega) only [c_F4_M hF, ↓bc_0, ↓br_0_1, ↓bc_4, ↓br_0_0, ↓bc_1, ↓b_t0, ↓b_t1, ↓b_t2, ↓b_t3, ↓b_t4, ↓b_t5, ↓b_t6, Nat.zero_add, Nat.le_refl, b_rs, b_rn, b_r2, b_ss, b_sn, b_bt, b_bf, b_b0, b_b1, b_bw, b_shl, b_or, b_iv, b_jv, b_sI, b_sJ, ↓z_hl, z_b0, z_b1, z_b2, b_and1c, b_and1z, if_true, if_false, nI_add, pk_mul, b_cl, b_lt, b_le, b_eq, b_eq0, b_le0, b_0lt, b_0le, b_lt0]; rfl
  · subst h; simp (disch := omega) only [c_F4_T hF, ↓bc_0, ↓br_0_1, ↓bc_4, ↓br_0_0, ↓bc_1, ↓b_t0, ↓b_t1, ↓b_t2, ↓b_t3, ↓b_t4, ↓b_t5, ↓b_t6, Nat.zero_add, Nat.le_refl, b_rs, b_rn, b_r2, b_ss, b_sn, b_bt, b_bf, b_b0, b_b1, b_bw, b_shl, b_or, b_iv, b_jv, b_sI, b_sJ, ↓z_hl, z_b0, z_b1, z_b2, b_and1c, b_and1z, if_true, if_false, nI_add, pk_mul, b_cl, b_lt, b_le, b_eq, b_eq0, b_le0, b_0lt, b_0le, b_lt0]; rfl
  · subst h; simp (disch := omega) only [c_F4_E hF, ↓bc_0, ↓br_0_1, ↓bc_4, ↓br_0_0, ↓bc_1, ↓b_t0, ↓b_t1, ↓b_t2, ↓b_t3, ↓b_t4, ↓b_t5, ↓b_t6, Nat.zero_add, Nat.le_refl, b_rs, b_rn, b_r2, b_ss, b_sn, b_bt, b_bf, b_b0, b_b1, b_bw, b_shl, b_or, b_iv, b_jv, b_sI, b_sJ, ↓z_hl, z_b0, z_b1, z_b2, b_and1c, b_and1z, if_true, if_false, nI_add, pk_mul, b_cl, b_lt, b_le, b_eq, b_eq0, b_le0, b_0lt, b_0le, b_lt0]; rfl
  · subst h; simp (disch := omega) only [c_F4_U hF, ↓bc_0, ↓br_0_1, ↓bc_4, ↓br_0_0, ↓bc_1, ↓b_t0, ↓b_t1, ↓b_t2, ↓b_t3, ↓b_t4, ↓b_t5, ↓b_t6, Nat.zero_add, Nat.le_refl, b_rs, b_rn, b_r2, b_ss, b_sn, b_bt, b_bf, b_b0, b_b1, b_bw, b_shl, b_or, b_iv, b_jv, b_sI, b_sJ, ↓z_hl, z_b0, z_b1, z_b2, b_and1c, b_and1z, if_true, if_false, nI_add, pk_mul, b_cl, b_lt, b_le, b_eq, b_eq0, b_le0, b_0lt, b_0le, b_lt0]; rfl
  · subst h; simp (disch := omega) only [↓bc_0, ↓br_0_1, ↓bc_4, ↓br_0_0, ↓bc_1, ↓b_t0, ↓b_t1, ↓b_t2, ↓b_t3, ↓b_t4, ↓b_t5, ↓b_t6, Nat.zero_add, Nat.le_refl, b_rs, b_rn, b_r2, b_ss, b_sn, b_bt, b_bf, b_b0, b_b1, b_bw, b_shl, b_or, b_iv, b_jv, b_sI, b_sJ, ↓z_hl, z_b0, z_b1, z_b2, b_and1c, b_and1z, if_true, if_false, nI_add, pk_mul, b_cl, b_lt, b_le, b_eq, b_eq0, b_le0, b_0lt, b_0le, b_lt0]
  · simp (disch := omega) only [↓bc_0, ↓br_0_1, ↓bc_4, ↓br_0_0, ↓bc_1, ↓b_t0, ↓b_t1, ↓b_t2, ↓b_t3, ↓b_t4, ↓b_t5, ↓b_t6, Nat.zero_add, Nat.le_refl, b_rs, b_rn, b_r2, b_ss, b_sn, b_bt, b_bf, b_b0, b_b1, b_bw, b_shl, b_or, b_iv, b_jv, b_sI, b_sJ, ↓z_hl, z_b0, z_b1, z_b2, b_and1c, b_and1z, if_true, if_false, nI_add, pk_mul, b_cl, b_lt, b_le, b_eq, b_eq0, b_le0, b_0lt, b_0le, b_lt0]
    rw [b_tsd (by simpa using h) hw, if_neg (by omega), if_neg (by omega)]
/-- a call that threw: what was made -/
def w_th (w : (Nat × Nat) × Bool) : (Nat × Nat) × Bool := ((w.1.1 + 8, w.1.2 + 40), true)
theorem b_th : a_th (b_h m j w) 8 40 = b_h m j (w_th w) := rfl
theorem s_EM_thing (hF : c_F m 4 s) (hA : c_A m 26 s) (hS : i_S s) (hI : i_D s) (hD : 5 ≤ D) {t what : Nat} (ht : t < s 2) (hw : what < 6) : a_ex X tx a_T D 156 [.ref 0, .int (nI t), .int (nI what)] (b_h m j w) = some ((b_h m j w), some (.int (nI (w_qthing s t what)))) := by
  obtain ⟨d, rfl⟩ : ∃ d, D = d + 1 := ⟨D - 1, by omega⟩
  rw [e_EM_thing, q_EM_thing_0]
  have hT := i_S_T hS
  unfold w_qthing
  have h1 := c_F4_wh hF t ht
  obtain h | h | h | h | h | h : what = 0 ∨ what = 1 ∨ what = 2 ∨ what = 3 ∨ what = 4 ∨ what = 5 := by omega
  · subst h; simp (disch := omega) only [s_Fa_isThing hF hS, h1, decide_eq_false_iff_not, ↓bc_0, ↓br_0_1, ↓bc_4, ↓br_4_11, ↓bc_9, ↓bx_9, bl_9, ↓br_0_3, ↓bc_26, ↓b_t0, ↓b_t1, ↓b_t2, ↓b_t3, ↓b_t4, ↓b_t5, ↓b_t6, Nat.zero_add, Nat.le_refl, b_rs, b_rn, b_r2, b_ss, b_sn, b_bt, b_bf, b_b0, b_b1, b_bw, b_shl, b_or, b_iv, b_jv, b_sI, b_sJ, ↓z_hl, z_b0, z_b1, z_b2, b_and1c, b_and1z, if_true, if_false, nI_add, pk_mul, b_cl, b_lt, b_le, b_eq, b_eq0, b_le0, b_0lt, b_0le, b_lt0]; rw [if_neg (fun h => h ht)]
  · subst h; simp (disch := omega) only [s_Fa_isThing hF hS, s_Af_allOpen26 hF hA hS hI, Nat.one_ne_zero, decide_eq_false_iff_not, ↓bc_0, ↓br_0_1, ↓bc_4, ↓br_4_11, ↓bc_9, ↓bx_9, bl_9, ↓br_0_3, ↓bc_26, ↓b_t0, ↓b_t1, ↓b_t2, ↓b_t3, ↓b_t4, ↓b_t5, ↓b_t6, Nat.zero_add, Nat.le_refl, b_rs, b_rn, b_r2, b_ss, b_sn, b_bt, b_bf, b_b0, b_b1, b_bw, b_shl, b_or, b_iv, b_jv, b_sI, b_sJ, ↓z_hl, z_b0, z_b1, z_b2, b_and1c, b_and1z, if_true, if_false, nI_add, pk_mul, b_cl, b_lt, b_le, b_eq, b_eq0, b_le0, b_0lt, b_0le, b_lt0]; rw [if_neg (fun h => h ht)]
  · subst h; simp (disch := omega) only [s_Fa_isThing hF hS, s_Af_pages hF hA hS hI, decide_eq_false_iff_not, ↓bc_0, ↓br_0_1, ↓bc_4, ↓br_4_11, ↓bc_9, ↓bx_9, bl_9, ↓br_0_3, ↓bc_26, ↓b_t0, ↓b_t1, ↓b_t2, ↓b_t3, ↓b_t4, ↓b_t5, ↓b_t6, Nat.zero_add, Nat.le_refl, b_rs, b_rn, b_r2, b_ss, b_sn, b_bt, b_bf, b_b0, b_b1, b_bw, b_shl, b_or, b_iv, b_jv, b_sI, b_sJ, ↓z_hl, z_b0, z_b1, z_b2, b_and1c, b_and1z, if_true, if_false, nI_add, pk_mul, b_cl, b_lt, b_le, b_eq, b_eq0, b_le0, b_0lt, b_0le, b_lt0]; rw [if_neg (fun h => h ht)]; rfl
  · subst h; simp (disch := omega) only [s_Fa_isThing hF hS, s_Af_openKinds hF hA hS hI, decide_eq_false_iff_not, ↓bc_0, ↓br_0_1, ↓bc_4, ↓br_4_11, ↓bc_9, ↓bx_9, bl_9, ↓br_0_3, ↓bc_26, ↓b_t0, ↓b_t1, ↓b_t2, ↓b_t3, ↓b_t4, ↓b_t5, ↓b_t6, Nat.zero_add, Nat.le_refl, b_rs, b_rn, b_r2, b_ss, b_sn, b_bt, b_bf, b_b0, b_b1, b_bw, b_shl, b_or, b_iv, b_jv, b_sI, b_sJ, ↓z_hl, z_b0, z_b1, z_b2, b_and1c, b_and1z, if_true, if_false, nI_add, pk_mul, b_cl, b_lt, b_le, b_eq, b_eq0, b_le0, b_0lt, b_0le, b_lt0]; rw [if_neg (fun h => h ht)]; rfl
  · subst h; simp (disch := omega) only [s_Fa_isThing hF hS, s_Af_fitting hF hA hS hI, decide_eq_false_iff_not, ↓bc_0, ↓br_0_1, ↓bc_4, ↓br_4_11, ↓bc_9, ↓bx_9, bl_9, ↓br_0_3, ↓bc_26, ↓b_t0, ↓b_t1, ↓b_t2, ↓b_t3, ↓b_t4, ↓b_t5, ↓b_t6, Nat.zero_add, Nat.le_refl, b_rs, b_rn, b_r2, b_ss, b_sn, b_bt, b_bf, b_b0, b_b1, b_bw, b_shl, b_or, b_iv, b_jv, b_sI, b_sJ, ↓z_hl, z_b0, z_b1, z_b2, b_and1c, b_and1z, if_true, if_false, nI_add, pk_mul, b_cl, b_lt, b_le, b_eq, b_eq0, b_le0, b_0lt, b_0le, b_lt0]; rw [if_neg (fun h => h ht)]; rfl
  · subst h; simp (disch := omega) only [s_Fa_isThing hF hS, s_Af_darkPages hF hA hS hI, decide_eq_false_iff_not, ↓bc_0, ↓br_0_1, ↓bc_4, ↓br_4_11, ↓bc_9, ↓bx_9, bl_9, ↓br_0_3, ↓bc_26, ↓b_t0, ↓b_t1, ↓b_t2, ↓b_t3, ↓b_t4, ↓b_t5, ↓b_t6, Nat.zero_add, Nat.le_refl, b_rs, b_rn, b_r2, b_ss, b_sn, b_bt, b_bf, b_b0, b_b1, b_bw, b_shl, b_or, b_iv, b_jv, b_sI, b_sJ, ↓z_hl, z_b0, z_b1, z_b2, b_and1c, b_and1z, if_true, if_false, nI_add, pk_mul, b_cl, b_lt, b_le, b_eq, b_eq0, b_le0, b_0lt, b_0le, b_lt0]; rw [if_neg (fun h => h ht)]; rfl
theorem s_EM_thingT (hF : c_F m 4 s) (hS : i_S s) (hD : 2 ≤ D) {t what : Nat} (ht : t < 4294967296) (hw : what < 4294967296) (hn : ¬ (t < s 2 ∧ what < 6)) : a_ex X tx a_T D 156 [.ref 0, .int (nI t), .int (nI what)] (b_h m j w) = some (b_h m j (w_th w), some (.retAddr 0)) := by
  obtain ⟨d, rfl⟩ : ∃ d, D = d + 1 := ⟨D - 1, by omega⟩
  rw [e_EM_thing, q_EM_thing_0]
  by_cases c1 : t < s 2
  · simp (disch := omega) only [s_Fa_isThing hF hS, decide_eq_false_iff_not, b_th, ↓bc_0, ↓br_0_1, ↓bc_4, ↓br_4_11, ↓bc_9, ↓bx_9, bl_9, ↓br_0_3, ↓bc_26, ↓b_t0, ↓b_t1, ↓b_t2, ↓b_t3, ↓b_t4, ↓b_t5, ↓b_t6, Nat.zero_add, Nat.le_refl, b_rs, b_rn, b_r2, b_ss, b_sn, b_bt, b_bf, b_b0, b_b1, b_bw, b_shl, b_or, b_iv, b_jv, b_sI, b_sJ, ↓z_hl, z_b0, z_b1, z_b2, b_and1c, b_and1z, if_true, if_false, nI_add, pk_mul, b_cl, b_lt, b_le, b_eq, b_eq0, b_le0, b_0lt, b_0le, b_lt0]
    rw [if_neg (fun h => h c1), b_tsd (by simp; omega) hw]
  · simp (disch := omega) only [s_Fa_isThing hF hS, decide_eq_false_iff_not, b_th, ↓bc_0, ↓br_0_1, ↓bc_4, ↓br_4_11, ↓bc_9, ↓bx_9, bl_9, ↓br_0_3, ↓bc_26, ↓b_t0, ↓b_t1, ↓b_t2, ↓b_t3, ↓b_t4, ↓b_t5, ↓b_t6, Nat.zero_add, Nat.le_refl, b_rs, b_rn, b_r2, b_ss, b_sn, b_bt, b_bf, b_b0, b_b1, b_bw, b_shl, b_or, b_iv, b_jv, b_sI, b_sJ, ↓z_hl, z_b0, z_b1, z_b2, b_and1c, b_and1z, if_true, if_false, nI_add, pk_mul, b_cl, b_lt, b_le, b_eq, b_eq0, b_le0, b_0lt, b_0le, b_lt0]
    rw [if_pos c1]
theorem s_EM_ending (hF : c_F m 4 s) (hA : c_A m 26 s) (hS : i_S s) (hI : i_D s) (hD : 5 ≤ D) {e what : Nat} (he : e < s 3) (hw : what < 7) : a_ex X tx a_T D 158 [.ref 0, .int (nI e), .int (nI what)] (b_h m j w) = some ((b_h m j w), some (.int (nI (w_qending s e what)))) := by
  obtain ⟨d, rfl⟩ : ∃ d, D = d + 1 := ⟨D - 1, by omega⟩
  rw [e_EM_ending, q_EM_ending_0]
  have hE := i_S_E hS
  unfold w_qending
  obtain h | h | h | h | h | h | h : what = 0 ∨ what = 1 ∨ what = 2 ∨ what = 3 ∨ what = 4 ∨ what = 5 ∨ what = 6 := by omega
  · subst h; simp (disch := omega) only [s_Fa_isEnding hF hS, c_A26_ha hA e he, decide_eq_false_iff_not, ↓bc_0, ↓br_0_1, ↓bc_4, ↓br_0_3, ↓bc_26, ↓br_26_6, ↓bc_31, ↓bx_31, bl_31, ↓br_26_7, ↓bc_32, ↓bx_32, bl_32, ↓br_26_8, ↓bc_33, ↓bx_33, bl_33, ↓br_26_9, ↓bc_34, ↓bx_34, bl_34, ↓br_26_10, ↓bc_35, ↓bx_35, bl_35, ↓br_26_11, ↓bc_36, ↓bx_36, bl_36, ↓b_t0, ↓b_t1, ↓b_t2, ↓b_t3, ↓b_t4, ↓b_t5, ↓b_t6, Nat.zero_add, Nat.le_refl, b_rs, b_rn, b_r2, b_ss, b_sn, b_bt, b_bf, b_b0, b_b1, b_bw, b_shl, b_or, b_iv, b_jv, b_sI, b_sJ, ↓z_hl, z_b0, z_b1, z_b2, b_and1c, b_and1z, if_true, if_false, nI_add, pk_mul, b_cl, b_lt, b_le, b_eq, b_eq0, b_le0, b_0lt, b_0le, b_lt0]; rw [if_neg (fun h => h he)]
  · subst h; simp (disch := omega) only [s_Fa_isEnding hF hS, c_A26_pr hA e he, Nat.one_ne_zero, decide_eq_false_iff_not, ↓bc_0, ↓br_0_1, ↓bc_4, ↓br_0_3, ↓bc_26, ↓br_26_6, ↓bc_31, ↓bx_31, bl_31, ↓br_26_7, ↓bc_32, ↓bx_32, bl_32, ↓br_26_8, ↓bc_33, ↓bx_33, bl_33, ↓br_26_9, ↓bc_34, ↓bx_34, bl_34, ↓br_26_10, ↓bc_35, ↓bx_35, bl_35, ↓br_26_11, ↓bc_36, ↓bx_36, bl_36, ↓b_t0, ↓b_t1, ↓b_t2, ↓b_t3, ↓b_t4, ↓b_t5, ↓b_t6, Nat.zero_add, Nat.le_refl, b_rs, b_rn, b_r2, b_ss, b_sn, b_bt, b_bf, b_b0, b_b1, b_bw, b_shl, b_or, b_iv, b_jv, b_sI, b_sJ, ↓z_hl, z_b0, z_b1, z_b2, b_and1c, b_and1z, if_true, if_false, nI_add, pk_mul, b_cl, b_lt, b_le, b_eq, b_eq0, b_le0, b_0lt, b_0le, b_lt0]; rw [if_neg (fun h => h he)]
  · subst h; simp (disch := omega) only [s_Fa_isEnding hF hS, c_A26_pl hA e he, decide_eq_false_iff_not, ↓bc_0, ↓br_0_1, ↓bc_4, ↓br_0_3, ↓bc_26, ↓br_26_6, ↓bc_31, ↓bx_31, bl_31, ↓br_26_7, ↓bc_32, ↓bx_32, bl_32, ↓br_26_8, ↓bc_33, ↓bx_33, bl_33, ↓br_26_9, ↓bc_34, ↓bx_34, bl_34, ↓br_26_10, ↓bc_35, ↓bx_35, bl_35, ↓br_26_11, ↓bc_36, ↓bx_36, bl_36, ↓b_t0, ↓b_t1, ↓b_t2, ↓b_t3, ↓b_t4, ↓b_t5, ↓b_t6, Nat.zero_add, Nat.le_refl, b_rs, b_rn, b_r2, b_ss, b_sn, b_bt, b_bf, b_b0, b_b1, b_bw, b_shl, b_or, b_iv, b_jv, b_sI, b_sJ, ↓z_hl, z_b0, z_b1, z_b2, b_and1c, b_and1z, if_true, if_false, nI_add, pk_mul, b_cl, b_lt, b_le, b_eq, b_eq0, b_le0, b_0lt, b_0le, b_lt0]; rw [if_neg (fun h => h he)]; rfl
  · subst h; simp (disch := omega) only [s_Fa_isEnding hF hS, c_A26_pd hA e he, decide_eq_false_iff_not, ↓bc_0, ↓br_0_1, ↓bc_4, ↓br_0_3, ↓bc_26, ↓br_26_6, ↓bc_31, ↓bx_31, bl_31, ↓br_26_7, ↓bc_32, ↓bx_32, bl_32, ↓br_26_8, ↓bc_33, ↓bx_33, bl_33, ↓br_26_9, ↓bc_34, ↓bx_34, bl_34, ↓br_26_10, ↓bc_35, ↓bx_35, bl_35, ↓br_26_11, ↓bc_36, ↓bx_36, bl_36, ↓b_t0, ↓b_t1, ↓b_t2, ↓b_t3, ↓b_t4, ↓b_t5, ↓b_t6, Nat.zero_add, Nat.le_refl, b_rs, b_rn, b_r2, b_ss, b_sn, b_bt, b_bf, b_b0, b_b1, b_bw, b_shl, b_or, b_iv, b_jv, b_sI, b_sJ, ↓z_hl, z_b0, z_b1, z_b2, b_and1c, b_and1z, if_true, if_false, nI_add, pk_mul, b_cl, b_lt, b_le, b_eq, b_eq0, b_le0, b_0lt, b_0le, b_lt0]; rw [if_neg (fun h => h he)]; rfl
  · subst h; simp (disch := omega) only [s_Fa_isEnding hF hS, c_A26_we hA e he, decide_eq_false_iff_not, ↓bc_0, ↓br_0_1, ↓bc_4, ↓br_0_3, ↓bc_26, ↓br_26_6, ↓bc_31, ↓bx_31, bl_31, ↓br_26_7, ↓bc_32, ↓bx_32, bl_32, ↓br_26_8, ↓bc_33, ↓bx_33, bl_33, ↓br_26_9, ↓bc_34, ↓bx_34, bl_34, ↓br_26_10, ↓bc_35, ↓bx_35, bl_35, ↓br_26_11, ↓bc_36, ↓bx_36, bl_36, ↓b_t0, ↓b_t1, ↓b_t2, ↓b_t3, ↓b_t4, ↓b_t5, ↓b_t6, Nat.zero_add, Nat.le_refl, b_rs, b_rn, b_r2, b_ss, b_sn, b_bt, b_bf, b_b0, b_b1, b_bw, b_shl, b_or, b_iv, b_jv, b_sI, b_sJ, ↓z_hl, z_b0, z_b1, z_b2, b_and1c, b_and1z, if_true, if_false, nI_add, pk_mul, b_cl, b_lt, b_le, b_eq, b_eq0, b_le0, b_0lt, b_0le, b_lt0]; rw [if_neg (fun h => h he)]; rfl
  · subst h; simp (disch := omega) only [s_Fa_isEnding hF hS, c_A26_so hA e he, decide_eq_false_iff_not, ↓bc_0, ↓br_0_1, ↓bc_4, ↓br_0_3, ↓bc_26, ↓br_26_6, ↓bc_31, ↓bx_31, bl_31, ↓br_26_7, ↓bc_32, ↓bx_32, bl_32, ↓br_26_8, ↓bc_33, ↓bx_33, bl_33, ↓br_26_9, ↓bc_34, ↓bx_34, bl_34, ↓br_26_10, ↓bc_35, ↓bx_35, bl_35, ↓br_26_11, ↓bc_36, ↓bx_36, bl_36, ↓b_t0, ↓b_t1, ↓b_t2, ↓b_t3, ↓b_t4, ↓b_t5, ↓b_t6, Nat.zero_add, Nat.le_refl, b_rs, b_rn, b_r2, b_ss, b_sn, b_bt, b_bf, b_b0, b_b1, b_bw, b_shl, b_or, b_iv, b_jv, b_sI, b_sJ, ↓z_hl, z_b0, z_b1, z_b2, b_and1c, b_and1z, if_true, if_false, nI_add, pk_mul, b_cl, b_lt, b_le, b_eq, b_eq0, b_le0, b_0lt, b_0le, b_lt0]; rw [if_neg (fun h => h he)]; rfl
  · subst h; simp (disch := omega) only [s_Fa_isEnding hF hS, s_Fa_closesInAll hF hS, decide_eq_false_iff_not, ↓bc_0, ↓br_0_1, ↓bc_4, ↓br_0_3, ↓bc_26, ↓br_26_6, ↓bc_31, ↓bx_31, bl_31, ↓br_26_7, ↓bc_32, ↓bx_32, bl_32, ↓br_26_8, ↓bc_33, ↓bx_33, bl_33, ↓br_26_9, ↓bc_34, ↓bx_34, bl_34, ↓br_26_10, ↓bc_35, ↓bx_35, bl_35, ↓br_26_11, ↓bc_36, ↓bx_36, bl_36, ↓b_t0, ↓b_t1, ↓b_t2, ↓b_t3, ↓b_t4, ↓b_t5, ↓b_t6, Nat.zero_add, Nat.le_refl, b_rs, b_rn, b_r2, b_ss, b_sn, b_bt, b_bf, b_b0, b_b1, b_bw, b_shl, b_or, b_iv, b_jv, b_sI, b_sJ, ↓z_hl, z_b0, z_b1, z_b2, b_and1c, b_and1z, if_true, if_false, nI_add, pk_mul, b_cl, b_lt, b_le, b_eq, b_eq0, b_le0, b_0lt, b_0le, b_lt0]; rw [if_neg (fun h => h he)]; rfl
theorem s_EM_endingT (hF : c_F m 4 s) (hS : i_S s) (hD : 2 ≤ D) {e what : Nat} (he : e < 4294967296) (hw : what < 4294967296) (hn : ¬ (e < s 3 ∧ what < 7)) : a_ex X tx a_T D 158 [.ref 0, .int (nI e), .int (nI what)] (b_h m j w) = some (b_h m j (w_th w), some (.retAddr 0)) := by
  obtain ⟨d, rfl⟩ : ∃ d, D = d + 1 := ⟨D - 1, by omega⟩
  rw [e_EM_ending, q_EM_ending_0]
  by_cases c1 : e < s 3
  · simp (disch := omega) only [s_Fa_isEnding hF hS, decide_eq_false_iff_not, b_th, ↓bc_0, ↓br_0_1, ↓bc_4, ↓br_0_3, ↓bc_26, ↓br_26_6, ↓bc_31, ↓bx_31, bl_31, ↓br_26_7, ↓bc_32, ↓bx_32, bl_32, ↓br_26_8, ↓bc_33, ↓bx_33, bl_33, ↓br_26_9, ↓bc_34, ↓bx_34, bl_34, ↓br_26_10, ↓bc_35, ↓bx_35, bl_35, ↓br_26_11, ↓bc_36, ↓bx_36, bl_36, ↓b_t0, ↓b_t1, ↓b_t2, ↓b_t3, ↓b_t4, ↓b_t5, ↓b_t6, Nat.zero_add, Nat.le_refl, b_rs, b_rn, b_r2, b_ss, b_sn, b_bt, b_bf, b_b0, b_b1, b_bw, b_shl, b_or, b_iv, b_jv, b_sI, b_sJ, ↓z_hl, z_b0, z_b1, z_b2, b_and1c, b_and1z, if_true, if_false, nI_add, pk_mul, b_cl, b_lt, b_le, b_eq, b_eq0, b_le0, b_0lt, b_0le, b_lt0]
    rw [if_neg (fun h => h c1), b_tsd (by simp; omega) hw]
  · simp (disch := omega) only [s_Fa_isEnding hF hS, decide_eq_false_iff_not, b_th, ↓bc_0, ↓br_0_1, ↓bc_4, ↓br_0_3, ↓bc_26, ↓br_26_6, ↓bc_31, ↓bx_31, bl_31, ↓br_26_7, ↓bc_32, ↓bx_32, bl_32, ↓br_26_8, ↓bc_33, ↓bx_33, bl_33, ↓br_26_9, ↓bc_34, ↓bx_34, bl_34, ↓br_26_10, ↓bc_35, ↓bx_35, bl_35, ↓br_26_11, ↓bc_36, ↓bx_36, bl_36, ↓b_t0, ↓b_t1, ↓b_t2, ↓b_t3, ↓b_t4, ↓b_t5, ↓b_t6, Nat.zero_add, Nat.le_refl, b_rs, b_rn, b_r2, b_ss, b_sn, b_bt, b_bf, b_b0, b_b1, b_bw, b_shl, b_or, b_iv, b_jv, b_sI, b_sJ, ↓z_hl, z_b0, z_b1, z_b2, b_and1c, b_and1z, if_true, if_false, nI_add, pk_mul, b_cl, b_lt, b_le, b_eq, b_eq0, b_le0, b_0lt, b_0le, b_lt0]
    rw [if_pos c1]
theorem s_EM_fault (hD : 1 ≤ D) : a_ex X tx a_T D 155 [.ref 0] (b_h m j w) = some ((b_h m j w), some (.int (nI (m 0 14)))) := by
  obtain ⟨d, rfl⟩ : ∃ d, D = d + 1 := ⟨D - 1, by omega⟩
  rw [e_EM_fault, q_EM_fault_0]
  simp (disch := omega) only [↓bc_0, ↓b_t0, ↓b_t1, ↓b_t2, ↓b_t3, ↓b_t4, ↓b_t5, ↓b_t6, Nat.zero_add, Nat.le_refl, b_rs, b_rn, b_r2, b_ss, b_sn, b_bt, b_bf, b_b0, b_b1, b_bw, b_shl, b_or, b_iv, b_jv, b_sI, b_sJ, ↓z_hl, z_b0, z_b1, z_b2, b_and1c, b_and1z, if_true, if_false, nI_add, pk_mul, b_cl, b_lt, b_le, b_eq, b_eq0, b_le0, b_0lt, b_0le, b_lt0]
theorem s_EM_ask (hD : 1 ≤ D) : a_ex X tx a_T D 174 [.ref 0] (b_h m j w) = some ((b_h m j w), some (.int (nI (m 0 15)))) := by
  obtain ⟨d, rfl⟩ : ∃ d, D = d + 1 := ⟨D - 1, by omega⟩
  rw [e_EM_ask, q_EM_ask_0]
  simp (disch := omega) only [↓bc_0, ↓b_t0, ↓b_t1, ↓b_t2, ↓b_t3, ↓b_t4, ↓b_t5, ↓b_t6, Nat.zero_add, Nat.le_refl, b_rs, b_rn, b_r2, b_ss, b_sn, b_bt, b_bf, b_b0, b_b1, b_bw, b_shl, b_or, b_iv, b_jv, b_sI, b_sJ, ↓z_hl, z_b0, z_b1, z_b2, b_and1c, b_and1z, if_true, if_false, nI_add, pk_mul, b_cl, b_lt, b_le, b_eq, b_eq0, b_le0, b_0lt, b_0le, b_lt0]
theorem s_EM_rounds (hD : 1 ≤ D) : a_ex X tx a_T D 176 [.ref 0] (b_h m j w) = some ((b_h m j w), some (.int (nI (m 0 16)))) := by
  obtain ⟨d, rfl⟩ : ∃ d, D = d + 1 := ⟨D - 1, by omega⟩
  rw [e_EM_rounds, q_EM_rounds_0]
  simp (disch := omega) only [↓bc_0, ↓b_t0, ↓b_t1, ↓b_t2, ↓b_t3, ↓b_t4, ↓b_t5, ↓b_t6, Nat.zero_add, Nat.le_refl, b_rs, b_rn, b_r2, b_ss, b_sn, b_bt, b_bf, b_b0, b_b1, b_bw, b_shl, b_or, b_iv, b_jv, b_sI, b_sJ, ↓z_hl, z_b0, z_b1, z_b2, b_and1c, b_and1z, if_true, if_false, nI_add, pk_mul, b_cl, b_lt, b_le, b_eq, b_eq0, b_le0, b_0lt, b_0le, b_lt0]
theorem s_EM_tray (hD : 1 ≤ D) : a_ex X tx a_T D 172 [.ref 0] (b_h m j w) = some ((b_h m j w), some (.int (nI (m 167 7)))) := by
  obtain ⟨d, rfl⟩ : ∃ d, D = d + 1 := ⟨D - 1, by omega⟩
  rw [e_EM_tray, q_EM_tray_0]
  simp (disch := omega) only [↓bc_0, ↓br_0_10, ↓bc_167, ↓b_t0, ↓b_t1, ↓b_t2, ↓b_t3, ↓b_t4, ↓b_t5, ↓b_t6, Nat.zero_add, Nat.le_refl, b_rs, b_rn, b_r2, b_ss, b_sn, b_bt, b_bf, b_b0, b_b1, b_bw, b_shl, b_or, b_iv, b_jv, b_sI, b_sJ, ↓z_hl, z_b0, z_b1, z_b2, b_and1c, b_and1z, if_true, if_false, nI_add, pk_mul, b_cl, b_lt, b_le, b_eq, b_eq0, b_le0, b_0lt, b_0le, b_lt0]
theorem s_EM_row (hr : m 162 3 ≤ 10) (hD : 2 ≤ D) {k : Nat} (hk : k < 4294967296) : a_ex X tx a_T D 168 [.ref 0, .int (nI k)] (b_h m j w) = some ((b_h m j w), some (.int (nI (if k < m 162 3 then m 163 k else 4294967295)))) := by
  obtain ⟨d, rfl⟩ : ∃ d, D = d + 1 := ⟨D - 1, by omega⟩
  rw [e_EM_row, q_EM_row_0]
  have s1 : a_ex X tx a_T d 104 [.ref 162, .int (nI k)] (b_h m j w) = some (b_h m j w, some (.int (nI (if k < m 162 3 then m 163 k else 4294967295)))) := by
    obtain ⟨d, rfl⟩ : ∃ d2, d = d2 + 1 := ⟨d - 1, by omega⟩
    rw [e_Or_rowAt, q_Or_rowAt_0]
    by_cases h : k < 2147483648
    · by_cases c : k < m 162 3
      · simp (disch := omega) only [↓bc_162, ↓br_162_2, ↓bc_163, ↓bx_163, bl_163, ↓b_t0, ↓b_t1, ↓b_t2, ↓b_t3, ↓b_t4, ↓b_t5, ↓b_t6, Nat.zero_add, Nat.le_refl, b_rs, b_rn, b_r2, b_ss, b_sn, b_bt, b_bf, b_b0, b_b1, b_bw, b_shl, b_or, b_iv, b_jv, b_sI, b_sJ, ↓z_hl, z_b0, z_b1, z_b2, b_and1c, b_and1z, if_true, if_false, nI_add, pk_mul, b_cl, b_lt, b_le, b_eq, b_eq0, b_le0, b_0lt, b_0le, b_lt0]
        rw [if_pos c, if_neg (by omega), if_neg (by omega)]
      · simp (disch := omega) only [↓bc_162, ↓br_162_2, ↓bc_163, ↓bx_163, bl_163, ↓b_t0, ↓b_t1, ↓b_t2, ↓b_t3, ↓b_t4, ↓b_t5, ↓b_t6, Nat.zero_add, Nat.le_refl, b_rs, b_rn, b_r2, b_ss, b_sn, b_bt, b_bf, b_b0, b_b1, b_bw, b_shl, b_or, b_iv, b_jv, b_sI, b_sJ, ↓z_hl, z_b0, z_b1, z_b2, b_and1c, b_and1z, if_true, if_false, nI_add, pk_mul, b_cl, b_lt, b_le, b_eq, b_eq0, b_le0, b_0lt, b_0le, b_lt0]
        rw [if_neg c, if_pos (by omega)]
    · rw [if_pos (b_neg (by omega) hk), if_neg (by omega)]
  simp (disch := omega) only [s1, ↓bc_0, ↓br_0_9, ↓bc_162, ↓b_t0, ↓b_t1, ↓b_t2, ↓b_t3, ↓b_t4, ↓b_t5, ↓b_t6, Nat.zero_add, Nat.le_refl, b_rs, b_rn, b_r2, b_ss, b_sn, b_bt, b_bf, b_b0, b_b1, b_bw, b_shl, b_or, b_iv, b_jv, b_sI, b_sJ, ↓z_hl, z_b0, z_b1, z_b2, b_and1c, b_and1z, if_true, if_false, nI_add, pk_mul, b_cl, b_lt, b_le, b_eq, b_eq0, b_le0, b_0lt, b_0le, b_lt0]
theorem s_EM_has (hD : 2 ≤ D) {k : Nat} (hk : k < 4294967296) : a_ex X tx a_T D 170 [.ref 0, .int (nI k)] (b_h m j w) = some ((b_h m j w), some (.int (nI (if k < 8 then m 171 k else 4294967295)))) := by
  obtain ⟨d, rfl⟩ : ∃ d, D = d + 1 := ⟨D - 1, by omega⟩
  rw [e_EM_has, q_EM_has_0]
  have s1 : a_ex X tx a_T d 124 [.ref 167, .int (nI k)] (b_h m j w) = some (b_h m j w, some (.int (nI (if k < 8 then m 171 k else 4294967295)))) := by
    obtain ⟨d, rfl⟩ : ∃ d2, d = d2 + 1 := ⟨d - 1, by omega⟩
    rw [e_Ma_given, q_Ma_given_0]
    by_cases h : k < 2147483648
    · by_cases c : k < 8
      · simp (disch := omega) only [↓bc_167, ↓br_167_6, ↓bc_171, ↓bx_171, bl_171, ↓b_t0, ↓b_t1, ↓b_t2, ↓b_t3, ↓b_t4, ↓b_t5, ↓b_t6, Nat.zero_add, Nat.le_refl, b_rs, b_rn, b_r2, b_ss, b_sn, b_bt, b_bf, b_b0, b_b1, b_bw, b_shl, b_or, b_iv, b_jv, b_sI, b_sJ, ↓z_hl, z_b0, z_b1, z_b2, b_and1c, b_and1z, if_true, if_false, nI_add, pk_mul, b_cl, b_lt, b_le, b_eq, b_eq0, b_le0, b_0lt, b_0le, b_lt0]
        rw [if_pos c, if_neg (by omega)]
      · simp (disch := omega) only [↓bc_167, ↓br_167_6, ↓bc_171, ↓bx_171, bl_171, ↓b_t0, ↓b_t1, ↓b_t2, ↓b_t3, ↓b_t4, ↓b_t5, ↓b_t6, Nat.zero_add, Nat.le_refl, b_rs, b_rn, b_r2, b_ss, b_sn, b_bt, b_bf, b_b0, b_b1, b_bw, b_shl, b_or, b_iv, b_jv, b_sI, b_sJ, ↓z_hl, z_b0, z_b1, z_b2, b_and1c, b_and1z, if_true, if_false, nI_add, pk_mul, b_cl, b_lt, b_le, b_eq, b_eq0, b_le0, b_0lt, b_0le, b_lt0]
        rw [if_neg c, if_pos (by omega)]
    · rw [if_pos (b_neg (by omega) hk), if_neg (by omega)]
  simp (disch := omega) only [s1, ↓bc_0, ↓br_0_10, ↓bc_167, ↓b_t0, ↓b_t1, ↓b_t2, ↓b_t3, ↓b_t4, ↓b_t5, ↓b_t6, Nat.zero_add, Nat.le_refl, b_rs, b_rn, b_r2, b_ss, b_sn, b_bt, b_bf, b_b0, b_b1, b_bw, b_shl, b_or, b_iv, b_jv, b_sI, b_sJ, ↓z_hl, z_b0, z_b1, z_b2, b_and1c, b_and1z, if_true, if_false, nI_add, pk_mul, b_cl, b_lt, b_le, b_eq, b_eq0, b_le0, b_0lt, b_0le, b_lt0]
theorem s_EM_told (hf : m 156 6 < 2) (hD : 2 ≤ D) {k : Nat} (hk : k < 4294967296) : a_ex X tx a_T D 187 [.ref 0, .int (nI k)] (b_h m j w) = some ((b_h m j w), some (.int (nI (if m 156 6 ≠ 0 ∧ k < 4 then m 156 (7 + k) else 4294967295)))) := by
  obtain ⟨d, rfl⟩ : ∃ d, D = d + 1 := ⟨D - 1, by omega⟩
  rw [e_EM_told, q_EM_told_0]
  have s1 : a_ex X tx a_T d 102 [.ref 156, .int (nI k)] (b_h m j w) = some (b_h m j w, some (.int (nI (if m 156 6 ≠ 0 ∧ k < 4 then m 156 (7 + k) else 4294967295)))) := by
    obtain ⟨d, rfl⟩ : ∃ d2, d = d2 + 1 := ⟨d - 1, by omega⟩
    rw [e_Le_verdict, q_Le_verdict_0]
    by_cases c1 : m 156 6 = 0
    · simp (disch := omega) only [c1, ↓bc_156, ↓b_t0, ↓b_t1, ↓b_t2, ↓b_t3, ↓b_t4, ↓b_t5, ↓b_t6, Nat.zero_add, Nat.le_refl, b_rs, b_rn, b_r2, b_ss, b_sn, b_bt, b_bf, b_b0, b_b1, b_bw, b_shl, b_or, b_iv, b_jv, b_sI, b_sJ, ↓z_hl, z_b0, z_b1, z_b2, b_and1c, b_and1z, if_true, if_false, nI_add, pk_mul, b_cl, b_lt, b_le, b_eq, b_eq0, b_le0, b_0lt, b_0le, b_lt0]
      rw [if_neg (fun h => h.1 rfl)]
    · obtain h | h | h | h | h : k = 0 ∨ k = 1 ∨ k = 2 ∨ k = 3 ∨ 4 ≤ k := by omega
      · subst h; simp (disch := omega) only [↓bc_156, ↓b_t0, ↓b_t1, ↓b_t2, ↓b_t3, ↓b_t4, ↓b_t5, ↓b_t6, Nat.zero_add, Nat.le_refl, b_rs, b_rn, b_r2, b_ss, b_sn, b_bt, b_bf, b_b0, b_b1, b_bw, b_shl, b_or, b_iv, b_jv, b_sI, b_sJ, ↓z_hl, z_b0, z_b1, z_b2, b_and1c, b_and1z, if_true, if_false, nI_add, pk_mul, b_cl, b_lt, b_le, b_eq, b_eq0, b_le0, b_0lt, b_0le, b_lt0]; rw [if_neg c1, if_pos ⟨c1, by decide⟩]
      · subst h; simp (disch := omega) only [↓bc_156, ↓b_t0, ↓b_t1, ↓b_t2, ↓b_t3, ↓b_t4, ↓b_t5, ↓b_t6, Nat.zero_add, Nat.le_refl, b_rs, b_rn, b_r2, b_ss, b_sn, b_bt, b_bf, b_b0, b_b1, b_bw, b_shl, b_or, b_iv, b_jv, b_sI, b_sJ, ↓z_hl, z_b0, z_b1, z_b2, b_and1c, b_and1z, if_true, if_false, nI_add, pk_mul, b_cl, b_lt, b_le, b_eq, b_eq0, b_le0, b_0lt, b_0le, b_lt0]; rw [if_neg c1, if_pos ⟨c1, by decide⟩]
      · subst h; simp (disch := omega) only [↓bc_156, ↓b_t0, ↓b_t1, ↓b_t2, ↓b_t3, ↓b_t4, ↓b_t5, ↓b_t6, Nat.zero_add, Nat.le_refl, b_rs, b_rn, b_r2, b_ss, b_sn, b_bt, b_bf, b_b0, b_b1, b_bw, b_shl, b_or, b_iv, b_jv, b_sI, b_sJ, ↓z_hl, z_b0, z_b1, z_b2, b_and1c, b_and1z, if_true, if_false, nI_add, pk_mul, b_cl, b_lt, b_le, b_eq, b_eq0, b_le0, b_0lt, b_0le, b_lt0]; rw [if_neg c1, if_pos ⟨c1, by decide⟩]
      · subst h; simp (disch := omega) only [↓bc_156, ↓b_t0, ↓b_t1, ↓b_t2, ↓b_t3, ↓b_t4, ↓b_t5, ↓b_t6, Nat.zero_add, Nat.le_refl, b_rs, b_rn, b_r2, b_ss, b_sn, b_bt, b_bf, b_b0, b_b1, b_bw, b_shl, b_or, b_iv, b_jv, b_sI, b_sJ, ↓z_hl, z_b0, z_b1, z_b2, b_and1c, b_and1z, if_true, if_false, nI_add, pk_mul, b_cl, b_lt, b_le, b_eq, b_eq0, b_le0, b_0lt, b_0le, b_lt0]; rw [if_neg c1, if_pos ⟨c1, by decide⟩]
      · simp (disch := omega) only [↓bc_156, ↓b_t0, ↓b_t1, ↓b_t2, ↓b_t3, ↓b_t4, ↓b_t5, ↓b_t6, Nat.zero_add, Nat.le_refl, b_rs, b_rn, b_r2, b_ss, b_sn, b_bt, b_bf, b_b0, b_b1, b_bw, b_shl, b_or, b_iv, b_jv, b_sI, b_sJ, ↓z_hl, z_b0, z_b1, z_b2, b_and1c, b_and1z, if_true, if_false, nI_add, pk_mul, b_cl, b_lt, b_le, b_eq, b_eq0, b_le0, b_0lt, b_0le, b_lt0]
        rw [if_neg c1, b_tsd (by simpa using h) hk, if_neg (fun h2 => by omega)]
  simp (disch := omega) only [s1, ↓bc_0, ↓br_0_8, ↓bc_156, ↓b_t0, ↓b_t1, ↓b_t2, ↓b_t3, ↓b_t4, ↓b_t5, ↓b_t6, Nat.zero_add, Nat.le_refl, b_rs, b_rn, b_r2, b_ss, b_sn, b_bt, b_bf, b_b0, b_b1, b_bw, b_shl, b_or, b_iv, b_jv, b_sI, b_sJ, ↓z_hl, z_b0, z_b1, z_b2, b_and1c, b_and1z, if_true, if_false, nI_add, pk_mul, b_cl, b_lt, b_le, b_eq, b_eq0, b_le0, b_0lt, b_0le, b_lt0]
theorem s_EM_haggle (hF : c_F m 4 s) (hA : c_A m 26 s) (hS : i_S s) (hI : i_D s) (hD : 3 ≤ D) {q e : Nat} (hq : q < 4294967296) (he : e < 4294967296) :
    (w_hagok s q e → a_ex X tx a_T D 175 [.ref 0, .int (nI q), .int (nI e)] (b_h m j w) = some ((b_h (b_r m 0 (b_s (m 0) 16 (w_round s e))) j w), some (.int (nI (s (251 + e) - w_round s e))))) ∧ (¬ w_hagok s q e → a_ex X tx a_T D 175 [.ref 0, .int (nI q), .int (nI e)] (b_h m j w) = some ((b_h m j w), some (.int (nI (4294967295))))) := by
  obtain ⟨d, rfl⟩ : ∃ d, D = d + 1 := ⟨D - 1, by omega⟩
  rw [e_EM_haggle, q_EM_haggle_0]
  have hE := i_S_E hS
  have hM := i_S_M hS
  by_cases c1 : q < s 1
  · by_cases c2 : e < s 3
    · have h3 := i_hlt hS hI c2
      have k1 := c_A26_ha hA e c2
      have k2 := c_A26_pr hA e c2
      have k3 := c_A26_co hA q c1
      have h1 := i_D_pr hI e (by omega)
      have h2 := i_coin hI (i := q) (by omega)
      by_cases c3 : s (241 + e) = 4294967295
      · refine ⟨fun h => absurd c3 h.2.2.1, fun _ => ?_⟩
        simp (disch := omega) only [s_Fa_isMan hF hS, s_Fa_isEnding hF hS, s_Af_isPut26 hA hS hI, decide_eq_false_iff_not, ↓bc_0, ↓br_0_1, ↓bc_4, ↓br_0_3, ↓bc_26, ↓br_26_6, ↓bc_31, ↓bx_31, bl_31, ↓br_26_7, ↓bc_32, ↓bx_32, bl_32, ↓br_26_2, ↓bc_27, ↓bx_27, bl_27, ↓b_t0, ↓b_t1, ↓b_t2, ↓b_t3, ↓b_t4, ↓b_t5, ↓b_t6, Nat.zero_add, Nat.le_refl, b_rs, b_rn, b_r2, b_ss, b_sn, b_bt, b_bf, b_b0, b_b1, b_bw, b_shl, b_or, b_iv, b_jv, b_sI, b_sJ, ↓z_hl, z_b0, z_b1, z_b2, b_and1c, b_and1z, if_true, if_false, nI_add, pk_mul, b_cl, b_lt, b_le, b_eq, b_eq0, b_le0, b_0lt, b_0le, b_lt0]
        rw [if_neg (fun h => h c1), if_neg (fun h => h c2), if_neg (fun h => h c3)]
      · by_cases c4 : s (241 + e) = q
        · refine ⟨fun h => absurd c4 h.2.2.2.1, fun _ => ?_⟩
          simp (disch := omega) only [s_Fa_isMan hF hS, s_Fa_isEnding hF hS, s_Af_isPut26 hA hS hI, k1, decide_eq_false_iff_not, ↓bc_0, ↓br_0_1, ↓bc_4, ↓br_0_3, ↓bc_26, ↓br_26_6, ↓bc_31, ↓bx_31, bl_31, ↓br_26_7, ↓bc_32, ↓bx_32, bl_32, ↓br_26_2, ↓bc_27, ↓bx_27, bl_27, ↓b_t0, ↓b_t1, ↓b_t2, ↓b_t3, ↓b_t4, ↓b_t5, ↓b_t6, Nat.zero_add, Nat.le_refl, b_rs, b_rn, b_r2, b_ss, b_sn, b_bt, b_bf, b_b0, b_b1, b_bw, b_shl, b_or, b_iv, b_jv, b_sI, b_sJ, ↓z_hl, z_b0, z_b1, z_b2, b_and1c, b_and1z, if_true, if_false, nI_add, pk_mul, b_cl, b_lt, b_le, b_eq, b_eq0, b_le0, b_0lt, b_0le, b_lt0]
          rw [if_neg (fun h => h c1), if_neg (fun h => h c2), if_pos c3, if_pos c4]
        · have e1 : nI (s (251 + e) + 2) / nI 3 = nI (w_round s e) := pk_div (by omega) (by decide) (by decide)
          have e2 : nI (s (251 + e)) - nI (w_round s e) = nI (s (251 + e) - w_round s e) := b_sub (by unfold w_round; omega)
          have e4 : w_round s e ≤ 34 := by unfold w_round; omega
          have e3 : ¬ (3 = 0) := by decide
          simp (disch := omega) only [s_Fa_isMan hF hS, s_Fa_isEnding hF hS, s_Af_isPut26 hA hS hI, k1, k2, k3, e1, e2, e3, decide_eq_false_iff_not, ↓bc_0, ↓br_0_1, ↓bc_4, ↓br_0_3, ↓bc_26, ↓br_26_6, ↓bc_31, ↓bx_31, bl_31, ↓br_26_7, ↓bc_32, ↓bx_32, bl_32, ↓br_26_2, ↓bc_27, ↓bx_27, bl_27, ↓b_t0, ↓b_t1, ↓b_t2, ↓b_t3, ↓b_t4, ↓b_t5, ↓b_t6, Nat.zero_add, Nat.le_refl, b_rs, b_rn, b_r2, b_ss, b_sn, b_bt, b_bf, b_b0, b_b1, b_bw, b_shl, b_or, b_iv, b_jv, b_sI, b_sJ, ↓z_hl, z_b0, z_b1, z_b2, b_and1c, b_and1z, if_true, if_false, nI_add, pk_mul, b_cl, b_lt, b_le, b_eq, b_eq0, b_le0, b_0lt, b_0le, b_lt0]
          rw [if_neg (fun h => h c1), if_neg (fun h => h c2), if_pos c3, if_neg c4]
          refine ⟨fun h => by rw [if_pos h.2.2.2.2], fun h => by rw [if_neg (fun hy => h ⟨c1, c2, c3, c4, hy⟩)]⟩
    · refine ⟨fun h => absurd h.2.1 c2, fun _ => ?_⟩
      simp (disch := omega) only [s_Fa_isMan hF hS, s_Fa_isEnding hF hS, decide_eq_false_iff_not, ↓bc_0, ↓br_0_1, ↓bc_4, ↓br_0_3, ↓bc_26, ↓br_26_6, ↓bc_31, ↓bx_31, bl_31, ↓br_26_7, ↓bc_32, ↓bx_32, bl_32, ↓br_26_2, ↓bc_27, ↓bx_27, bl_27, ↓b_t0, ↓b_t1, ↓b_t2, ↓b_t3, ↓b_t4, ↓b_t5, ↓b_t6, Nat.zero_add, Nat.le_refl, b_rs, b_rn, b_r2, b_ss, b_sn, b_bt, b_bf, b_b0, b_b1, b_bw, b_shl, b_or, b_iv, b_jv, b_sI, b_sJ, ↓z_hl, z_b0, z_b1, z_b2, b_and1c, b_and1z, if_true, if_false, nI_add, pk_mul, b_cl, b_lt, b_le, b_eq, b_eq0, b_le0, b_0lt, b_0le, b_lt0]
      rw [if_neg (fun h => h c1), if_pos c2]
  · refine ⟨fun h => absurd h.1 c1, fun _ => ?_⟩
    simp (disch := omega) only [s_Fa_isMan hF hS, decide_eq_false_iff_not, ↓bc_0, ↓br_0_1, ↓bc_4, ↓br_0_3, ↓bc_26, ↓br_26_6, ↓bc_31, ↓bx_31, bl_31, ↓br_26_7, ↓bc_32, ↓bx_32, bl_32, ↓br_26_2, ↓bc_27, ↓bx_27, bl_27, ↓b_t0, ↓b_t1, ↓b_t2, ↓b_t3, ↓b_t4, ↓b_t5, ↓b_t6, Nat.zero_add, Nat.le_refl, b_rs, b_rn, b_r2, b_ss, b_sn, b_bt, b_bf, b_b0, b_b1, b_bw, b_shl, b_or, b_iv, b_jv, b_sI, b_sJ, ↓z_hl, z_b0, z_b1, z_b2, b_and1c, b_and1z, if_true, if_false, nI_add, pk_mul, b_cl, b_lt, b_le, b_eq, b_eq0, b_le0, b_0lt, b_0le, b_lt0]
    rw [if_pos c1]
theorem s_EM_when (hF : c_F m 4 s) (hA : c_A m 26 s) (hS : i_S s) (hI : i_D s) (hD : 3 ≤ D) {t : Nat} (ht : t < 4294967296) : a_ex X tx a_T D 180 [.ref 0, .int (nI t)] (b_h m j w) = some ((b_h m j w), some (.int (nI (w_qwhen s t)))) := by
  obtain ⟨d, rfl⟩ : ∃ d, D = d + 1 := ⟨D - 1, by omega⟩
  rw [e_EM_when, q_EM_when_0]
  have hT := i_S_T hS
  have hda := i_D_da hI
  unfold w_qwhen
  by_cases c1 : t < s 2
  · have h1 := w_open_le hI (t := t) (by omega)
    simp (disch := omega) only [s_Fa_isThing hF hS, s_Af_allOpen26 hF hA hS hI, c_A26_da hA, decide_eq_false_iff_not, ↓bc_0, ↓br_0_1, ↓bc_4, ↓br_0_3, ↓bc_26, ↓b_t0, ↓b_t1, ↓b_t2, ↓b_t3, ↓b_t4, ↓b_t5, ↓b_t6, Nat.zero_add, Nat.le_refl, b_rs, b_rn, b_r2, b_ss, b_sn, b_bt, b_bf, b_b0, b_b1, b_bw, b_shl, b_or, b_iv, b_jv, b_sI, b_sJ, ↓z_hl, z_b0, z_b1, z_b2, b_and1c, b_and1z, if_true, if_false, nI_add, pk_mul, b_cl, b_lt, b_le, b_eq, b_eq0, b_le0, b_0lt, b_0le, b_lt0]
    rw [if_neg (fun h => h c1)]
    by_cases c2 : s 157 < 400
    · rw [if_neg (by omega)]
      by_cases c3 : w_open s t = 0
      · rw [if_pos c3, if_pos ⟨c1, c2, c3⟩]
      · rw [if_neg c3, if_neg (fun h => c3 h.2.2)]
    · rw [if_pos (by omega), if_neg (fun h => c2 h.2.1)]
  · rw [if_neg (fun h => c1 h.1)]
    simp (disch := omega) only [s_Fa_isThing hF hS, decide_eq_false_iff_not, ↓bc_0, ↓br_0_1, ↓bc_4, ↓br_0_3, ↓bc_26, ↓b_t0, ↓b_t1, ↓b_t2, ↓b_t3, ↓b_t4, ↓b_t5, ↓b_t6, Nat.zero_add, Nat.le_refl, b_rs, b_rn, b_r2, b_ss, b_sn, b_bt, b_bf, b_b0, b_b1, b_bw, b_shl, b_or, b_iv, b_jv, b_sI, b_sJ, ↓z_hl, z_b0, z_b1, z_b2, b_and1c, b_and1z, if_true, if_false, nI_add, pk_mul, b_cl, b_lt, b_le, b_eq, b_eq0, b_le0, b_0lt, b_0le, b_lt0]
    rw [if_pos c1]
end EQ
