/-! THE CLASS: what its affairs answer, once more -/
section AF2
variable {X : Nat × (Nat → Int32)} {tx : List Int32} {D : Nat} {m j : Nat → Nat → Nat} {w : (Nat × Nat) × Bool} {s : Nat → Nat}
def w_openKinds (s : Nat → Nat) (t : Nat) : Nat := z_set (fun k => decide (s (177 + 6 * t + k) ≠ 0)) 6
theorem z_set_pad {c : Nat → Bool} {n p : Nat} (hn : n ≤ p) (h : ∀ k, n ≤ k → k < p → c k = false) : z_set c p = z_set c n := by
  rw [z_sum_set, z_sum_set]
  exact z_sum_pad2 hn (fun k h1 h2 => by rw [h k h1 h2]; rfl)
theorem s_Af_openKinds (hF : c_F m 4 s) (hA : c_A m 26 s) (hS : i_S s) (hI : i_D s) (hD : 2 ≤ D) {t : Nat} (ht : t < 8) : a_ex X tx a_T D 54 [.ref 26, .int (nI t)] (b_h m j w) = some ((b_h m j w), some (.int (nI (w_openKinds s t)))) := by
  obtain ⟨d, rfl⟩ : ∃ d, D = d + 1 := ⟨D - 1, by omega⟩
  rw [e_Af_openKinds, q_Af_openKinds_0]
  have h1 := c_F4_K hF
  have h2 := i_S_K hS
  rw [← l_Af_openKinds_4]
  refine z_loop (fun n => [.ref 26, .int (nI t), .int (nI (z_set (fun k => decide (s (177 + 6 * t + k) ≠ 0)) n)), .int (nI n)]) (fun n => (b_h m j w)) (s 0) (0) ?_ ?_ _ (z_fu (by omega))
  · intro n hn f _
    rw [l_Af_openKinds_4, q_Af_openKinds_4]
    have h3 := i_D_op hI t ht n (by omega)
    simp (disch := omega) only [h1, s_Af_amount26 hA, ↓bc_26, ↓br_26_0, ↓bc_4, ↓b_t0, ↓b_t1, ↓b_t2, ↓b_t3, ↓b_t4, ↓b_t5, ↓b_t6, Nat.zero_add, Nat.le_refl, b_rs, b_rn, b_r2, b_ss, b_sn, b_bt, b_bf, b_b0, b_b1, b_bw, b_shl, b_or, b_iv, b_jv, b_sI, b_sJ, ↓z_hl, z_b0, z_b1, z_b2, b_and1c, b_and1z, if_true, if_false, nI_add, pk_mul, b_cl, b_lt, b_le, b_eq, b_eq0, b_le0, b_0lt, b_0le, b_lt0]
    rw [if_neg (by omega)]
    by_cases h : s (177 + 6 * t + n) = 0
    · rw [if_pos h, z_set_f (by simpa using h)]
    · rw [if_neg h, z_set_t (by simpa using h)]
  · intro f _
    rw [l_Af_openKinds_4, q_Af_openKinds_4]
    simp (disch := omega) only [h1, ↓bc_26, ↓br_26_0, ↓bc_4, ↓b_t0, ↓b_t1, ↓b_t2, ↓b_t3, ↓b_t4, ↓b_t5, ↓b_t6, Nat.zero_add, Nat.le_refl, b_rs, b_rn, b_r2, b_ss, b_sn, b_bt, b_bf, b_b0, b_b1, b_bw, b_shl, b_or, b_iv, b_jv, b_sI, b_sJ, ↓z_hl, z_b0, z_b1, z_b2, b_and1c, b_and1z, if_true, if_false, nI_add, pk_mul, b_cl, b_lt, b_le, b_eq, b_eq0, b_le0, b_0lt, b_0le, b_lt0]
    unfold w_openKinds
    rw [z_set_pad h2 (fun k h3 h4 => by rw [i_D_opk hI t ht k h3 h4]; rfl)]
def w_openAll (s : Nat → Nat) : Nat := z_sum (fun t => w_open s t) 8
theorem s_Af_openInAll (hF : c_F m 4 s) (hA : c_A m 26 s) (hS : i_S s) (hI : i_D s) (hD : 3 ≤ D) : a_ex X tx a_T D 55 [.ref 26] (b_h m j w) = some ((b_h m j w), some (.int (nI (w_openAll s)))) := by
  obtain ⟨d, rfl⟩ : ∃ d, D = d + 1 := ⟨D - 1, by omega⟩
  rw [e_Af_openInAll, q_Af_openInAll_0]
  have h1 := c_F4_T hF
  have h2 := i_S_T hS
  rw [← l_Af_openInAll_4]
  refine z_loop (fun n => [.ref 26, .int (nI (z_sum (fun t => w_open s t) n)), .int (nI n)]) (fun n => (b_h m j w)) (s 2) (0) ?_ ?_ _ (z_fu (by omega))
  · intro n hn f _
    rw [l_Af_openInAll_4, q_Af_openInAll_4]
    simp (disch := omega) only [h1, s_Af_allOpen26 hF hA hS hI, ↓bc_26, ↓br_26_0, ↓bc_4, ↓b_t0, ↓b_t1, ↓b_t2, ↓b_t3, ↓b_t4, ↓b_t5, ↓b_t6, Nat.zero_add, Nat.le_refl, b_rs, b_rn, b_r2, b_ss, b_sn, b_bt, b_bf, b_b0, b_b1, b_bw, b_shl, b_or, b_iv, b_jv, b_sI, b_sJ, ↓z_hl, z_b0, z_b1, z_b2, b_and1c, b_and1z, if_true, if_false, nI_add, pk_mul, b_cl, b_lt, b_le, b_eq, b_eq0, b_le0, b_0lt, b_0le, b_lt0]
    rw [if_neg (by omega)]
    rfl
  · intro f _
    rw [l_Af_openInAll_4, q_Af_openInAll_4]
    simp (disch := omega) only [h1, ↓bc_26, ↓br_26_0, ↓bc_4, ↓b_t0, ↓b_t1, ↓b_t2, ↓b_t3, ↓b_t4, ↓b_t5, ↓b_t6, Nat.zero_add, Nat.le_refl, b_rs, b_rn, b_r2, b_ss, b_sn, b_bt, b_bf, b_b0, b_b1, b_bw, b_shl, b_or, b_iv, b_jv, b_sI, b_sJ, ↓z_hl, z_b0, z_b1, z_b2, b_and1c, b_and1z, if_true, if_false, nI_add, pk_mul, b_cl, b_lt, b_le, b_eq, b_eq0, b_le0, b_0lt, b_0le, b_lt0]
    unfold w_openAll
    rw [z_sum_pad2 h2 (fun t h3 h4 => by
      unfold w_open
      rw [z_sum_zero]
      exact fun k hk => i_D_opt hI t h3 h4 k hk)]
theorem s_Af_pages (hF : c_F m 4 s) (hA : c_A m 26 s) (hS : i_S s) (hI : i_D s) (hD : 1 ≤ D) {t : Nat} (ht : t < s 2) : a_ex X tx a_T D 57 [.ref 26, .int (nI t)] (b_h m j w) = some ((b_h m j w), some (.int (nI (s (225 + t))))) := by
  obtain ⟨d, rfl⟩ : ∃ d, D = d + 1 := ⟨D - 1, by omega⟩
  rw [e_Af_pages, q_Af_pages_0]
  have h1 := c_F4_E hF
  have hE := i_S_E hS
  have hT := i_S_T hS
  rw [← l_Af_pages_4]
  refine z_loop (fun n => [.ref 26, .int (nI t), .int (nI (z_sum (fun e => if s (261 + e) = t + 1 then 1 else 0) n)), .int (nI n)]) (fun n => (b_h m j w)) (s 3) (0) ?_ ?_ _ (z_fu (by omega))
  · intro n hn f _
    rw [l_Af_pages_4, q_Af_pages_4]
    have h3 := c_A26_pl hA n hn
    have h4 := i_D_pu hI n hn
    have h5 := i_D_pz hI n hn
    have h6 : (if s (241 + n) = 4294967295 then s (261 + n) - 1 else 4294967295) < 4294967296 := by split <;> omega
    simp (disch := omega) only [h1, h3, ↓bc_26, ↓br_26_0, ↓bc_4, ↓br_26_8, ↓bc_33, ↓bx_33, bl_33, ↓b_t0, ↓b_t1, ↓b_t2, ↓b_t3, ↓b_t4, ↓b_t5, ↓b_t6, Nat.zero_add, Nat.le_refl, b_rs, b_rn, b_r2, b_ss, b_sn, b_bt, b_bf, b_b0, b_b1, b_bw, b_shl, b_or, b_iv, b_jv, b_sI, b_sJ, ↓z_hl, z_b0, z_b1, z_b2, b_and1c, b_and1z, if_true, if_false, nI_add, pk_mul, b_cl, b_lt, b_le, b_eq, b_eq0, b_le0, b_0lt, b_0le, b_lt0]
    rw [if_neg (by omega)]
    show _ = a_go X tx (a_ex X tx a_T d) k_Af_pages_0 f 4 [.ref 26, .int (nI t), .int (nI (z_sum (fun e => if s (261 + e) = t + 1 then 1 else 0) n + if s (261 + n) = t + 1 then 1 else 0)), .int (nI (n + 1))] (b_h m j w)
    by_cases c : s (261 + n) = t + 1
    · have c1 : s (241 + n) = 4294967295 := by
        cases Nat.decEq (s (241 + n)) 4294967295 with
        | isTrue h => exact h
        | isFalse h => have := h5.mpr h; omega
      rw [if_pos c1, if_pos (by omega), if_pos c]
    · rw [if_neg c]
      by_cases c1 : s (241 + n) = 4294967295
      · have c2 : s (261 + n) ≠ 0 := fun h => (h5.mp h) c1
        rw [if_pos c1, if_neg (by omega)]; rfl
      · rw [if_neg c1, if_neg (by omega)]; rfl
  · intro f _
    rw [l_Af_pages_4, q_Af_pages_4]
    simp (disch := omega) only [h1, ↓bc_26, ↓br_26_0, ↓bc_4, ↓br_26_8, ↓bc_33, ↓bx_33, bl_33, ↓b_t0, ↓b_t1, ↓b_t2, ↓b_t3, ↓b_t4, ↓b_t5, ↓b_t6, Nat.zero_add, Nat.le_refl, b_rs, b_rn, b_r2, b_ss, b_sn, b_bt, b_bf, b_b0, b_b1, b_bw, b_shl, b_or, b_iv, b_jv, b_sI, b_sJ, ↓z_hl, z_b0, z_b1, z_b2, b_and1c, b_and1z, if_true, if_false, nI_add, pk_mul, b_cl, b_lt, b_le, b_eq, b_eq0, b_le0, b_0lt, b_0le, b_lt0]
    rw [i_D_pg hI t ht]
theorem s_Af_darkPages (hF : c_F m 4 s) (hA : c_A m 26 s) (hS : i_S s) (hI : i_D s) (hD : 1 ≤ D) {t : Nat} (ht : t < s 2) : a_ex X tx a_T D 58 [.ref 26, .int (nI t)] (b_h m j w) = some ((b_h m j w), some (.int (nI (s (233 + t))))) := by
  obtain ⟨d, rfl⟩ : ∃ d, D = d + 1 := ⟨D - 1, by omega⟩
  rw [e_Af_darkPages, q_Af_darkPages_0]
  have h1 := c_F4_E hF
  have hE := i_S_E hS
  have hT := i_S_T hS
  rw [← l_Af_darkPages_4]
  refine z_loop (fun n => [.ref 26, .int (nI t), .int (nI (z_sum (fun e => if s (261 + e) = t + 1 then b_b ((s 281).testBit e) else 0) n)), .int (nI n)]) (fun n => (b_h m j w)) (s 3) (0) ?_ ?_ _ (z_fu (by omega))
  · intro n hn f _
    rw [l_Af_darkPages_4, q_Af_darkPages_4]
    have h3 := c_A26_pl hA n hn
    have h4 := i_D_pu hI n hn
    have h5 := i_D_pz hI n hn
    have h6 : (if s (241 + n) = 4294967295 then s (261 + n) - 1 else 4294967295) < 4294967296 := by split <;> omega
    have h7 := c_A26_we hA n hn
    simp (disch := omega) only [h1, h3, h7, ↓bc_26, ↓br_26_0, ↓bc_4, ↓br_26_8, ↓bc_33, ↓bx_33, bl_33, ↓br_26_10, ↓bc_35, ↓bx_35, bl_35, ↓b_t0, ↓b_t1, ↓b_t2, ↓b_t3, ↓b_t4, ↓b_t5, ↓b_t6, Nat.zero_add, Nat.le_refl, b_rs, b_rn, b_r2, b_ss, b_sn, b_bt, b_bf, b_b0, b_b1, b_bw, b_shl, b_or, b_iv, b_jv, b_sI, b_sJ, ↓z_hl, z_b0, z_b1, z_b2, b_and1c, b_and1z, if_true, if_false, nI_add, pk_mul, b_cl, b_lt, b_le, b_eq, b_eq0, b_le0, b_0lt, b_0le, b_lt0]
    rw [if_neg (by omega)]
    show _ = a_go X tx (a_ex X tx a_T d) k_Af_darkPages_0 f 4 [.ref 26, .int (nI t), .int (nI (z_sum (fun e => if s (261 + e) = t + 1 then b_b ((s 281).testBit e) else 0) n + if s (261 + n) = t + 1 then b_b ((s 281).testBit n) else 0)), .int (nI (n + 1))] (b_h m j w)
    by_cases c : s (261 + n) = t + 1
    · have c1 : s (241 + n) = 4294967295 := by
        cases Nat.decEq (s (241 + n)) 4294967295 with
        | isTrue h => exact h
        | isFalse h => have := h5.mpr h; omega
      rw [if_pos c1, if_pos (by omega), if_pos c]
    · rw [if_neg c]
      by_cases c1 : s (241 + n) = 4294967295
      · have c2 : s (261 + n) ≠ 0 := fun h => (h5.mp h) c1
        rw [if_pos c1, if_neg (by omega)]; rfl
      · rw [if_neg c1, if_neg (by omega)]; rfl
  · intro f _
    rw [l_Af_darkPages_4, q_Af_darkPages_4]
    simp (disch := omega) only [h1, ↓bc_26, ↓br_26_0, ↓bc_4, ↓br_26_8, ↓bc_33, ↓bx_33, bl_33, ↓br_26_10, ↓bc_35, ↓bx_35, bl_35, ↓b_t0, ↓b_t1, ↓b_t2, ↓b_t3, ↓b_t4, ↓b_t5, ↓b_t6, Nat.zero_add, Nat.le_refl, b_rs, b_rn, b_r2, b_ss, b_sn, b_bt, b_bf, b_b0, b_b1, b_bw, b_shl, b_or, b_iv, b_jv, b_sI, b_sJ, ↓z_hl, z_b0, z_b1, z_b2, b_and1c, b_and1z, if_true, if_false, nI_add, pk_mul, b_cl, b_lt, b_le, b_eq, b_eq0, b_le0, b_0lt, b_0le, b_lt0]
    rw [i_D_wo hI t ht]
theorem s_Af_allWentOn (hF : c_F m 4 s) (hA : c_A m 26 s) (hS : i_S s) (hI : i_D s) (hD : 1 ≤ D) : a_ex X tx a_T D 59 [.ref 26] (b_h m j w) = some ((b_h m j w), some (.int (nI (s 158)))) := by
  obtain ⟨d, rfl⟩ : ∃ d, D = d + 1 := ⟨D - 1, by omega⟩
  rw [e_Af_allWentOn, q_Af_allWentOn_0]
  have h1 := c_F4_E hF
  have hE := i_S_E hS
  rw [← l_Af_allWentOn_4]
  refine z_loop (fun n => [.ref 26, .int (nI (z_sum (fun e => b_b ((s 281).testBit e)) n)), .int (nI n)]) (fun n => (b_h m j w)) (s 3) (0) ?_ ?_ _ (z_fu (by omega))
  · intro n hn f _
    rw [l_Af_allWentOn_4, q_Af_allWentOn_4]
    have h7 := c_A26_we hA n hn
    simp (disch := omega) only [h1, h7, ↓bc_26, ↓br_26_0, ↓bc_4, ↓br_26_10, ↓bc_35, ↓bx_35, bl_35, ↓b_t0, ↓b_t1, ↓b_t2, ↓b_t3, ↓b_t4, ↓b_t5, ↓b_t6, Nat.zero_add, Nat.le_refl, b_rs, b_rn, b_r2, b_ss, b_sn, b_bt, b_bf, b_b0, b_b1, b_bw, b_shl, b_or, b_iv, b_jv, b_sI, b_sJ, ↓z_hl, z_b0, z_b1, z_b2, b_and1c, b_and1z, if_true, if_false, nI_add, pk_mul, b_cl, b_lt, b_le, b_eq, b_eq0, b_le0, b_0lt, b_0le, b_lt0]
    rw [if_neg (by omega)]
    rfl
  · intro f _
    rw [l_Af_allWentOn_4, q_Af_allWentOn_4]
    simp (disch := omega) only [h1, ↓bc_26, ↓br_26_0, ↓bc_4, ↓br_26_10, ↓bc_35, ↓bx_35, bl_35, ↓b_t0, ↓b_t1, ↓b_t2, ↓b_t3, ↓b_t4, ↓b_t5, ↓b_t6, Nat.zero_add, Nat.le_refl, b_rs, b_rn, b_r2, b_ss, b_sn, b_bt, b_bf, b_b0, b_b1, b_bw, b_shl, b_or, b_iv, b_jv, b_sI, b_sJ, ↓z_hl, z_b0, z_b1, z_b2, b_and1c, b_and1z, if_true, if_false, nI_add, pk_mul, b_cl, b_lt, b_le, b_eq, b_eq0, b_le0, b_0lt, b_0le, b_lt0]
    rw [i_D_dk hI]
theorem s_Af_allPut (hF : c_F m 4 s) (hA : c_A m 26 s) (hS : i_S s) (hI : i_D s) (hD : 2 ≤ D) : a_ex X tx a_T D 60 [.ref 26] (b_h m j w) = some ((b_h m j w), some (.int (nI (w_endsOf s 4294967295)))) := by
  obtain ⟨d, rfl⟩ : ∃ d, D = d + 1 := ⟨D - 1, by omega⟩
  rw [e_Af_allPut, q_Af_allPut_0]
  have h1 := c_F4_E hF
  have hE := i_S_E hS
  rw [← l_Af_allPut_4]
  refine z_loop (fun n => [.ref 26, .int (nI (z_set (fun e => decide (s (241 + e) = 4294967295)) n)), .int (nI n)]) (fun n => (b_h m j w)) (s 3) (0) ?_ ?_ _ (z_fu (by omega))
  · intro n hn f _
    rw [l_Af_allPut_4, q_Af_allPut_4]
    simp (disch := omega) only [h1, s_Af_isPut26 hA hS hI, decide_eq_false_iff_not, ↓bc_26, ↓br_26_0, ↓bc_4, ↓b_t0, ↓b_t1, ↓b_t2, ↓b_t3, ↓b_t4, ↓b_t5, ↓b_t6, Nat.zero_add, Nat.le_refl, b_rs, b_rn, b_r2, b_ss, b_sn, b_bt, b_bf, b_b0, b_b1, b_bw, b_shl, b_or, b_iv, b_jv, b_sI, b_sJ, ↓z_hl, z_b0, z_b1, z_b2, b_and1c, b_and1z, if_true, if_false, nI_add, pk_mul, b_cl, b_lt, b_le, b_eq, b_eq0, b_le0, b_0lt, b_0le, b_lt0]
    rw [if_neg (by omega)]
    by_cases h : s (241 + n) = 4294967295
    · rw [if_neg (fun g => g h), z_set_t (by simpa using h)]
    · rw [if_pos h, z_set_f (by simpa using h)]
  · intro f _
    rw [l_Af_allPut_4, q_Af_allPut_4]
    simp (disch := omega) only [h1, ↓bc_26, ↓br_26_0, ↓bc_4, ↓b_t0, ↓b_t1, ↓b_t2, ↓b_t3, ↓b_t4, ↓b_t5, ↓b_t6, Nat.zero_add, Nat.le_refl, b_rs, b_rn, b_r2, b_ss, b_sn, b_bt, b_bf, b_b0, b_b1, b_bw, b_shl, b_or, b_iv, b_jv, b_sI, b_sJ, ↓z_hl, z_b0, z_b1, z_b2, b_and1c, b_and1z, if_true, if_false, nI_add, pk_mul, b_cl, b_lt, b_le, b_eq, b_eq0, b_le0, b_0lt, b_0le, b_lt0]
    rfl
def w_allCoin (s : Nat → Nat) : Nat := z_sum (fun i => s (159 + i)) 6
theorem s_Af_allCoin (hF : c_F m 4 s) (hA : c_A m 26 s) (hS : i_S s) (hI : i_D s) (hD : 1 ≤ D) : a_ex X tx a_T D 61 [.ref 26] (b_h m j w) = some ((b_h m j w), some (.int (nI (w_allCoin s)))) := by
  obtain ⟨d, rfl⟩ : ∃ d, D = d + 1 := ⟨D - 1, by omega⟩
  rw [e_Af_allCoin, q_Af_allCoin_0]
  have h1 := c_F4_M hF
  have hM := i_S_M hS
  rw [← l_Af_allCoin_4]
  refine z_loop (fun n => [.ref 26, .int (nI (z_sum (fun i => s (159 + i)) n)), .int (nI n)]) (fun n => (b_h m j w)) (s 1) (0) ?_ ?_ _ (z_fu (by omega))
  · intro n hn f _
    rw [l_Af_allCoin_4, q_Af_allCoin_4]
    have h7 := c_A26_co hA n hn
    simp (disch := omega) only [h1, h7, ↓bc_26, ↓br_26_0, ↓bc_4, ↓br_26_2, ↓bc_27, ↓bx_27, bl_27, ↓b_t0, ↓b_t1, ↓b_t2, ↓b_t3, ↓b_t4, ↓b_t5, ↓b_t6, Nat.zero_add, Nat.le_refl, b_rs, b_rn, b_r2, b_ss, b_sn, b_bt, b_bf, b_b0, b_b1, b_bw, b_shl, b_or, b_iv, b_jv, b_sI, b_sJ, ↓z_hl, z_b0, z_b1, z_b2, b_and1c, b_and1z, if_true, if_false, nI_add, pk_mul, b_cl, b_lt, b_le, b_eq, b_eq0, b_le0, b_0lt, b_0le, b_lt0]
    rw [if_neg (by omega)]
    rfl
  · intro f _
    rw [l_Af_allCoin_4, q_Af_allCoin_4]
    simp (disch := omega) only [h1, ↓bc_26, ↓br_26_0, ↓bc_4, ↓br_26_2, ↓bc_27, ↓bx_27, bl_27, ↓b_t0, ↓b_t1, ↓b_t2, ↓b_t3, ↓b_t4, ↓b_t5, ↓b_t6, Nat.zero_add, Nat.le_refl, b_rs, b_rn, b_r2, b_ss, b_sn, b_bt, b_bf, b_b0, b_b1, b_bw, b_shl, b_or, b_iv, b_jv, b_sI, b_sJ, ↓z_hl, z_b0, z_b1, z_b2, b_and1c, b_and1z, if_true, if_false, nI_add, pk_mul, b_cl, b_lt, b_le, b_eq, b_eq0, b_le0, b_0lt, b_0le, b_lt0]
    unfold w_allCoin
    rw [z_sum_pad2 hM (fun i h3 h4 => i_D_coz hI i h3 h4)]
theorem s_Af_endingsOf (hF : c_F m 4 s) (hA : c_A m 26 s) (hS : i_S s) (hI : i_D s) (hD : 1 ≤ D) {q : Nat} (hq : q < 4294967296) : a_ex X tx a_T D 62 [.ref 26, .int (nI q)] (b_h m j w) = some ((b_h m j w), some (.int (nI (w_endsOf s q)))) := by
  obtain ⟨d, rfl⟩ : ∃ d, D = d + 1 := ⟨D - 1, by omega⟩
  rw [e_Af_endingsOf, q_Af_endingsOf_0]
  have h1 := c_F4_E hF
  have hE := i_S_E hS
  rw [← l_Af_endingsOf_4]
  refine z_loop (fun n => [.ref 26, .int (nI q), .int (nI (z_set (fun e => decide (s (241 + e) = q)) n)), .int (nI n)]) (fun n => (b_h m j w)) (s 3) (0) ?_ ?_ _ (z_fu (by omega))
  · intro n hn f _
    rw [l_Af_endingsOf_4, q_Af_endingsOf_4]
    have h3 := c_A26_ha hA n hn
    have h4 := i_hlt hS hI hn
    simp (disch := omega) only [h1, h3, ↓bc_26, ↓br_26_0, ↓bc_4, ↓br_26_6, ↓bc_31, ↓bx_31, bl_31, ↓b_t0, ↓b_t1, ↓b_t2, ↓b_t3, ↓b_t4, ↓b_t5, ↓b_t6, Nat.zero_add, Nat.le_refl, b_rs, b_rn, b_r2, b_ss, b_sn, b_bt, b_bf, b_b0, b_b1, b_bw, b_shl, b_or, b_iv, b_jv, b_sI, b_sJ, ↓z_hl, z_b0, z_b1, z_b2, b_and1c, b_and1z, if_true, if_false, nI_add, pk_mul, b_cl, b_lt, b_le, b_eq, b_eq0, b_le0, b_0lt, b_0le, b_lt0]
    rw [if_neg (by omega)]
    by_cases h : s (241 + n) = q
    · rw [if_pos h, z_set_t (by simpa using h)]
    · rw [if_neg h, z_set_f (by simpa using h)]
  · intro f _
    rw [l_Af_endingsOf_4, q_Af_endingsOf_4]
    simp (disch := omega) only [h1, ↓bc_26, ↓br_26_0, ↓bc_4, ↓br_26_6, ↓bc_31, ↓bx_31, bl_31, ↓b_t0, ↓b_t1, ↓b_t2, ↓b_t3, ↓b_t4, ↓b_t5, ↓b_t6, Nat.zero_add, Nat.le_refl, b_rs, b_rn, b_r2, b_ss, b_sn, b_bt, b_bf, b_b0, b_b1, b_bw, b_shl, b_or, b_iv, b_jv, b_sI, b_sJ, ↓z_hl, z_b0, z_b1, z_b2, b_and1c, b_and1z, if_true, if_false, nI_add, pk_mul, b_cl, b_lt, b_le, b_eq, b_eq0, b_le0, b_0lt, b_0le, b_lt0]
    rfl
theorem s_Af_fitting (hF : c_F m 4 s) (hA : c_A m 26 s) (hS : i_S s) (hI : i_D s) (hD : 3 ≤ D) {t : Nat} (ht : t < 8) : a_ex X tx a_T D 64 [.ref 26, .int (nI t)] (b_h m j w) = some ((b_h m j w), some (.int (nI (w_fitting s t)))) := by
  obtain ⟨d, rfl⟩ : ∃ d, D = d + 1 := ⟨D - 1, by omega⟩
  rw [e_Af_fitting, q_Af_fitting_0]
  have h1 := c_F4_E hF
  have hE := i_S_E hS
  rw [← l_Af_fitting_4]
  refine z_loop (fun n => [.ref 26, .int (nI t), .int (nI (z_set (fun e => w_fit s e t) n)), .int (nI n)]) (fun n => (b_h m j w)) (s 3) (0) ?_ ?_ _ (z_fu (by omega))
  · intro n hn f _
    rw [l_Af_fitting_4, q_Af_fitting_4]
    simp (disch := omega) only [h1, s_Af_isPut26 hA hS hI, s_Af_suits26 hF hA hS hI, decide_eq_false_iff_not, ↓bc_26, ↓br_26_0, ↓bc_4, ↓b_t0, ↓b_t1, ↓b_t2, ↓b_t3, ↓b_t4, ↓b_t5, ↓b_t6, Nat.zero_add, Nat.le_refl, b_rs, b_rn, b_r2, b_ss, b_sn, b_bt, b_bf, b_b0, b_b1, b_bw, b_shl, b_or, b_iv, b_jv, b_sI, b_sJ, ↓z_hl, z_b0, z_b1, z_b2, b_and1c, b_and1z, if_true, if_false, nI_add, pk_mul, b_cl, b_lt, b_le, b_eq, b_eq0, b_le0, b_0lt, b_0le, b_lt0]
    rw [if_neg (by omega)]
    by_cases h : s (241 + n) = 4294967295
    · rw [if_neg (fun g => g h), z_set_f (by unfold w_fit; simp [h])]
    · rw [if_pos h]
      by_cases c : w_fitsRow s n (177 + 6 * t) = true
      · rw [if_neg (by rw [c]; decide), z_set_t (by unfold w_fit; simp [h, c])]
      · rw [if_pos (Bool.eq_false_iff.mpr c), z_set_f (by unfold w_fit; simp [c])]
  · intro f _
    rw [l_Af_fitting_4, q_Af_fitting_4]
    simp (disch := omega) only [h1, ↓bc_26, ↓br_26_0, ↓bc_4, ↓b_t0, ↓b_t1, ↓b_t2, ↓b_t3, ↓b_t4, ↓b_t5, ↓b_t6, Nat.zero_add, Nat.le_refl, b_rs, b_rn, b_r2, b_ss, b_sn, b_bt, b_bf, b_b0, b_b1, b_bw, b_shl, b_or, b_iv, b_jv, b_sI, b_sJ, ↓z_hl, z_b0, z_b1, z_b2, b_and1c, b_and1z, if_true, if_false, nI_add, pk_mul, b_cl, b_lt, b_le, b_eq, b_eq0, b_le0, b_0lt, b_0le, b_lt0]
    rfl
theorem s_Af_wouldClose (hF : c_F m 4 s) (hA : c_A m 26 s) (hS : i_S s) (hI : i_D s) (hD : 2 ≤ D) {e t : Nat} (he : e < 10) (ht : t < 8) : a_ex X tx a_T D 65 [.ref 26, .int (nI e), .int (nI t)] (b_h m j w) = some ((b_h m j w), some (.int (nI (w_would s e t)))) := by
  obtain ⟨d, rfl⟩ : ∃ d, D = d + 1 := ⟨D - 1, by omega⟩
  rw [e_Af_wouldClose, q_Af_wouldClose_0]
  have h1 := c_F4_K hF
  have h2 := i_S_K hS
  rw [← l_Af_wouldClose_4]
  refine z_loop (fun n => [.ref 26, .int (nI e), .int (nI t), .int (nI (z_sum (fun k => min (s (177 + 6 * t + k)) (s (87 + 6 * e + k))) n)), .int (nI n)]) (fun n => (b_h m j w)) (s 0) (0) ?_ ?_ _ (z_fu (by omega))
  · intro n hn f _
    rw [l_Af_wouldClose_4, q_Af_wouldClose_4]
    have b1 := i_S_cl hS e he n (by omega)
    have b2 := i_D_op hI t ht n (by omega)
    simp (disch := omega) only [h1, s_Fa_closed hF, s_Af_amount26 hA, b_min, ↓bc_26, ↓br_26_0, ↓bc_4, ↓b_t0, ↓b_t1, ↓b_t2, ↓b_t3, ↓b_t4, ↓b_t5, ↓b_t6, Nat.zero_add, Nat.le_refl, b_rs, b_rn, b_r2, b_ss, b_sn, b_bt, b_bf, b_b0, b_b1, b_bw, b_shl, b_or, b_iv, b_jv, b_sI, b_sJ, ↓z_hl, z_b0, z_b1, z_b2, b_and1c, b_and1z, if_true, if_false, nI_add, pk_mul, b_cl, b_lt, b_le, b_eq, b_eq0, b_le0, b_0lt, b_0le, b_lt0]
    rw [if_neg (by omega), Nat.min_comm]
    rfl
  · intro f _
    rw [l_Af_wouldClose_4, q_Af_wouldClose_4]
    simp (disch := omega) only [h1, ↓bc_26, ↓br_26_0, ↓bc_4, ↓b_t0, ↓b_t1, ↓b_t2, ↓b_t3, ↓b_t4, ↓b_t5, ↓b_t6, Nat.zero_add, Nat.le_refl, b_rs, b_rn, b_r2, b_ss, b_sn, b_bt, b_bf, b_b0, b_b1, b_bw, b_shl, b_or, b_iv, b_jv, b_sI, b_sJ, ↓z_hl, z_b0, z_b1, z_b2, b_and1c, b_and1z, if_true, if_false, nI_add, pk_mul, b_cl, b_lt, b_le, b_eq, b_eq0, b_le0, b_0lt, b_0le, b_lt0]
    unfold w_would
    rw [z_sum_pad2 h2 (fun k h3 h4 => by rw [i_S_clk hS e he k h3 h4]; omega)]
theorem z_set_le {c : Nat → Bool} {n : Nat} (h : n ≤ 10) : z_set c n < 1024 := Nat.lt_of_lt_of_le (z_set_lt c n) (Nat.le_trans (Nat.pow_le_pow_right (by decide) h) (by decide))
def w_enders (s : Nat → Nat) (t : Nat) : Nat := z_set (fun e => w_fit s e t && decide (w_would s e t = w_open s t)) (s 3)
theorem s_Af_enders (hF : c_F m 4 s) (hA : c_A m 26 s) (hS : i_S s) (hI : i_D s) (hD : 4 ≤ D) {t : Nat} (ht : t < 8) : a_ex X tx a_T D 66 [.ref 26, .int (nI t)] (b_h m j w) = some ((b_h m j w), some (.int (nI (w_enders s t)))) := by
  obtain ⟨d, rfl⟩ : ∃ d, D = d + 1 := ⟨D - 1, by omega⟩
  rw [e_Af_enders, q_Af_enders_0]
  have h1 := c_F4_E hF
  have hE := i_S_E hS
  have h2 : w_fitting s t < 1024 := z_set_le hE
  have h3 := w_open_le hI ht
  simp (disch := omega) only [s_Af_fitting hF hA hS hI, s_Af_allOpen26 hF hA hS hI, ↓bc_26, ↓br_26_0, ↓bc_4, ↓b_t0, ↓b_t1, ↓b_t2, ↓b_t3, ↓b_t4, ↓b_t5, ↓b_t6, Nat.zero_add, Nat.le_refl, b_rs, b_rn, b_r2, b_ss, b_sn, b_bt, b_bf, b_b0, b_b1, b_bw, b_shl, b_or, b_iv, b_jv, b_sI, b_sJ, ↓z_hl, z_b0, z_b1, z_b2, b_and1c, b_and1z, if_true, if_false, nI_add, pk_mul, b_cl, b_lt, b_le, b_eq, b_eq0, b_le0, b_0lt, b_0le, b_lt0]
  rw [← l_Af_enders_12]
  refine z_loop (fun n => [.ref 26, .int (nI t), .int (nI (w_fitting s t)), .int (nI (w_open s t)), .int (nI (z_set (fun e => w_fit s e t && decide (w_would s e t = w_open s t)) n)), .int (nI n)]) (fun n => (b_h m j w)) (s 3) (0) ?_ ?_ _ (z_fu (by omega))
  · intro n hn f _
    rw [l_Af_enders_12, q_Af_enders_12]
    have h4 := w_would_le hS (e := n) (t := t) (by omega)
    simp (disch := omega) only [h1, s_EM_isIn, s_Af_wouldClose hF hA hS hI, ↓bc_26, ↓br_26_0, ↓bc_4, ↓b_t0, ↓b_t1, ↓b_t2, ↓b_t3, ↓b_t4, ↓b_t5, ↓b_t6, Nat.zero_add, Nat.le_refl, b_rs, b_rn, b_r2, b_ss, b_sn, b_bt, b_bf, b_b0, b_b1, b_bw, b_shl, b_or, b_iv, b_jv, b_sI, b_sJ, ↓z_hl, z_b0, z_b1, z_b2, b_and1c, b_and1z, if_true, if_false, nI_add, pk_mul, b_cl, b_lt, b_le, b_eq, b_eq0, b_le0, b_0lt, b_0le, b_lt0]
    rw [if_neg (by omega)]
    have h5 : (w_fitting s t).testBit n = w_fit s n t := by unfold w_fitting; rw [z_set_bt]; simp [hn]
    rw [h5]
    by_cases c : w_fit s n t = true
    · rw [if_neg (by rw [c]; decide)]
      by_cases c2 : w_would s n t = w_open s t
      · rw [if_pos c2, z_set_t (by simp [c, c2])]
      · rw [if_neg c2, z_set_f (by simp [c2])]
    · rw [if_pos (Bool.eq_false_iff.mpr c), z_set_f (by simp [c])]
  · intro f _
    rw [l_Af_enders_12, q_Af_enders_12]
    simp (disch := omega) only [h1, ↓bc_26, ↓br_26_0, ↓bc_4, ↓b_t0, ↓b_t1, ↓b_t2, ↓b_t3, ↓b_t4, ↓b_t5, ↓b_t6, Nat.zero_add, Nat.le_refl, b_rs, b_rn, b_r2, b_ss, b_sn, b_bt, b_bf, b_b0, b_b1, b_bw, b_shl, b_or, b_iv, b_jv, b_sI, b_sJ, ↓z_hl, z_b0, z_b1, z_b2, b_and1c, b_and1z, if_true, if_false, nI_add, pk_mul, b_cl, b_lt, b_le, b_eq, b_eq0, b_le0, b_0lt, b_0le, b_lt0]
    rfl
def w_liken (s : Nat → Nat) (q e : Nat) : Nat → Nat
  | 0 => 0
  | n + 1 => if s (11 + n) = q ∧ w_fit s e n = true then max (w_liken s q e n) (w_would s e n) else w_liken s q e n
def w_like (s : Nat → Nat) (q e : Nat) : Nat := w_liken s q e (s 2)
theorem w_liken_le (hS : i_S s) {q e : Nat} (he : e < 10) : ∀ n, w_liken s q e n ≤ 54
  | 0 => by simp [w_liken]
  | n + 1 => by
    have h1 := w_liken_le hS (q := q) he n
    have h2 := w_would_le hS (e := e) (t := n) he
    unfold w_liken
    split
    · omega
    · exact h1
theorem s_Af_liking (hF : c_F m 4 s) (hA : c_A m 26 s) (hS : i_S s) (hI : i_D s) (hD : 3 ≤ D) {q e : Nat} (hq : q < 4294967296) (he : e < 10) (hp : s (241 + e) ≠ 4294967295) : a_ex X tx a_T D 67 [.ref 26, .int (nI q), .int (nI e)] (b_h m j w) = some ((b_h m j w), some (.int (nI (w_like s q e)))) := by
  obtain ⟨d, rfl⟩ : ∃ d, D = d + 1 := ⟨D - 1, by omega⟩
  rw [e_Af_liking, q_Af_liking_0]
  have h1 := c_F4_T hF
  have hT := i_S_T hS
  have hM := i_S_M hS
  rw [← l_Af_liking_4]
  refine z_loop (fun n => [.ref 26, .int (nI q), .int (nI e), .int (nI (w_liken s q e n)), .int (nI n)]) (fun n => (b_h m j w)) (s 2) (0) ?_ ?_ _ (z_fu (by omega))
  · intro n hn f _
    rw [l_Af_liking_4, q_Af_liking_4]
    have h3 := c_F4_wh hF n hn
    have h4 := i_S_wh hS n hn
    have h5 := w_would_le hS (e := e) (t := n) he
    have h6 := w_liken_le hS (q := q) he n
    simp (disch := omega) only [h1, h3, s_Af_suits26 hF hA hS hI, s_Af_wouldClose hF hA hS hI, b_max, ↓bc_26, ↓br_26_0, ↓bc_4, ↓br_4_11, ↓bc_9, ↓bx_9, bl_9, ↓b_t0, ↓b_t1, ↓b_t2, ↓b_t3, ↓b_t4, ↓b_t5, ↓b_t6, Nat.zero_add, Nat.le_refl, b_rs, b_rn, b_r2, b_ss, b_sn, b_bt, b_bf, b_b0, b_b1, b_bw, b_shl, b_or, b_iv, b_jv, b_sI, b_sJ, ↓z_hl, z_b0, z_b1, z_b2, b_and1c, b_and1z, if_true, if_false, nI_add, pk_mul, b_cl, b_lt, b_le, b_eq, b_eq0, b_le0, b_0lt, b_0le, b_lt0]
    rw [if_neg (by omega)]
    show _ = a_go X tx (a_ex X tx a_T d) k_Af_liking_0 f 4 [.ref 26, .int (nI q), .int (nI e), .int (nI (if s (11 + n) = q ∧ w_fit s e n = true then max (w_liken s q e n) (w_would s e n) else w_liken s q e n)), .int (nI (n + 1))] (b_h m j w)
    by_cases c1 : s (11 + n) = q
    · by_cases c2 : w_fitsRow s e (177 + 6 * n) = true
      · simp [c1, c2, w_fit, hp]
      · simp [c1, c2, w_fit, hp]
    · simp [c1]
  · intro f _
    rw [l_Af_liking_4, q_Af_liking_4]
    simp (disch := omega) only [h1, ↓bc_26, ↓br_26_0, ↓bc_4, ↓br_4_11, ↓bc_9, ↓bx_9, bl_9, ↓b_t0, ↓b_t1, ↓b_t2, ↓b_t3, ↓b_t4, ↓b_t5, ↓b_t6, Nat.zero_add, Nat.le_refl, b_rs, b_rn, b_r2, b_ss, b_sn, b_bt, b_bf, b_b0, b_b1, b_bw, b_shl, b_or, b_iv, b_jv, b_sI, b_sJ, ↓z_hl, z_b0, z_b1, z_b2, b_and1c, b_and1z, if_true, if_false, nI_add, pk_mul, b_cl, b_lt, b_le, b_eq, b_eq0, b_le0, b_0lt, b_0le, b_lt0]
    rfl
def w_cheapn (s : Nat → Nat) (t : Nat) : Nat → Nat
  | 0 => 4294967295
  | n + 1 => if w_fit s n t = true ∧ s (241 + n) ≠ s (11 + t) ∧ (w_cheapn s t n = 4294967295 ∨ s (251 + n) < s (251 + w_cheapn s t n)) then n else w_cheapn s t n
theorem w_cheapn_lt {t : Nat} : ∀ n, w_cheapn s t n = 4294967295 ∨ w_cheapn s t n < n
  | 0 => Or.inl rfl
  | n + 1 => by
    have h := w_cheapn_lt (t := t) n
    unfold w_cheapn
    split
    · right; omega
    · omega
theorem s_Af_cheapestOfOthers (hF : c_F m 4 s) (hA : c_A m 26 s) (hS : i_S s) (hI : i_D s) (hD : 4 ≤ D) {t : Nat} (ht : t < s 2) : a_ex X tx a_T D 68 [.ref 26, .int (nI t)] (b_h m j w) = some ((b_h m j w), some (.int (nI (w_cheapn s t (s 3))))) := by
  obtain ⟨d, rfl⟩ : ∃ d, D = d + 1 := ⟨D - 1, by omega⟩
  rw [e_Af_cheapestOfOthers, q_Af_cheapestOfOthers_0]
  have h1 := c_F4_E hF
  have hE := i_S_E hS
  have hT := i_S_T hS
  have hM := i_S_M hS
  have h2 : w_fitting s t < 1024 := z_set_le hE
  simp (disch := omega) only [s_Af_fitting hF hA hS hI, ↓bc_26, ↓br_26_0, ↓bc_4, ↓br_26_6, ↓bc_31, ↓bx_31, bl_31, ↓br_4_11, ↓bc_9, ↓bx_9, bl_9, ↓br_26_7, ↓bc_32, ↓bx_32, bl_32, ↓b_t0, ↓b_t1, ↓b_t2, ↓b_t3, ↓b_t4, ↓b_t5, ↓b_t6, Nat.zero_add, Nat.le_refl, b_rs, b_rn, b_r2, b_ss, b_sn, b_bt, b_bf, b_b0, b_b1, b_bw, b_shl, b_or, b_iv, b_jv, b_sI, b_sJ, ↓z_hl, z_b0, z_b1, z_b2, b_and1c, b_and1z, if_true, if_false, nI_add, pk_mul, b_cl, b_lt, b_le, b_eq, b_eq0, b_le0, b_0lt, b_0le, b_lt0]
  rw [← l_Af_cheapestOfOthers_8]
  refine z_loop (fun n => [.ref 26, .int (nI t), .int (nI (w_fitting s t)), .int (nI (w_cheapn s t n)), .int (nI n)]) (fun n => (b_h m j w)) (s 3) (0) ?_ ?_ _ (z_fu (by omega))
  · intro n hn f _
    rw [l_Af_cheapestOfOthers_8, q_Af_cheapestOfOthers_8]
    have h3 := c_A26_ha hA n hn
    have h4 := c_F4_wh hF t ht
    have h5 := i_S_wh hS t ht
    have h6 := i_hlt hS hI hn
    have h7 := c_A26_pr hA n hn
    have h8 := i_D_pr hI n (by omega)
    have h9 := w_cheapn_lt (s := s) (t := t) n
    have h10 : (w_fitting s t).testBit n = w_fit s n t := by unfold w_fitting; rw [z_set_bt]; simp [hn]
    simp (disch := omega) only [h1, s_EM_isIn, s_Fa_isThing hF hS, h10, h3, h4, h7, ↓bc_26, ↓br_26_0, ↓bc_4, ↓br_26_6, ↓bc_31, ↓bx_31, bl_31, ↓br_4_11, ↓bc_9, ↓bx_9, bl_9, ↓br_26_7, ↓bc_32, ↓bx_32, bl_32, ↓b_t0, ↓b_t1, ↓b_t2, ↓b_t3, ↓b_t4, ↓b_t5, ↓b_t6, Nat.zero_add, Nat.le_refl, b_rs, b_rn, b_r2, b_ss, b_sn, b_bt, b_bf, b_b0, b_b1, b_bw, b_shl, b_or, b_iv, b_jv, b_sI, b_sJ, ↓z_hl, z_b0, z_b1, z_b2, b_and1c, b_and1z, if_true, if_false, nI_add, pk_mul, b_cl, b_lt, b_le, b_eq, b_eq0, b_le0, b_0lt, b_0le, b_lt0]
    rw [if_neg (by omega)]
    show _ = a_go X tx (a_ex X tx a_T d) k_Af_cheapestOfOthers_0 f 8 [.ref 26, .int (nI t), .int (nI (w_fitting s t)), .int (nI (if w_fit s n t = true ∧ s (241 + n) ≠ s (11 + t) ∧ (w_cheapn s t n = 4294967295 ∨ s (251 + n) < s (251 + w_cheapn s t n)) then n else w_cheapn s t n)), .int (nI (n + 1))] (b_h m j w)
    by_cases c1 : w_fit s n t = true
    · by_cases c2 : s (241 + n) = s (11 + t)
      · simp [c1, c2, ht]
      · by_cases c3 : w_cheapn s t n = 4294967295
        · simp [c1, c2, c3, ht]
        · have h11 := c_A26_pr hA (w_cheapn s t n) (by omega)
          have h12 := i_D_pr hI (w_cheapn s t n) (by omega)
          simp (disch := omega) only [h11, ↓bc_26, ↓br_26_0, ↓bc_4, ↓br_26_6, ↓bc_31, ↓bx_31, bl_31, ↓br_4_11, ↓bc_9, ↓bx_9, bl_9, ↓br_26_7, ↓bc_32, ↓bx_32, bl_32, ↓b_t0, ↓b_t1, ↓b_t2, ↓b_t3, ↓b_t4, ↓b_t5, ↓b_t6, Nat.zero_add, Nat.le_refl, b_rs, b_rn, b_r2, b_ss, b_sn, b_bt, b_bf, b_b0, b_b1, b_bw, b_shl, b_or, b_iv, b_jv, b_sI, b_sJ, ↓z_hl, z_b0, z_b1, z_b2, b_and1c, b_and1z, if_true, if_false, nI_add, pk_mul, b_cl, b_lt, b_le, b_eq, b_eq0, b_le0, b_0lt, b_0le, b_lt0]
          by_cases c4 : s (251 + n) < s (251 + w_cheapn s t n)
          · simp [c1, c2, c3, c4, ht, Nat.not_le.mpr c4]
          · simp [c1, c2, c3, c4, ht, Nat.not_lt.mp c4]
    · simp [c1]
  · intro f _
    rw [l_Af_cheapestOfOthers_8, q_Af_cheapestOfOthers_8]
    simp (disch := omega) only [h1, ↓bc_26, ↓br_26_0, ↓bc_4, ↓br_26_6, ↓bc_31, ↓bx_31, bl_31, ↓br_4_11, ↓bc_9, ↓bx_9, bl_9, ↓br_26_7, ↓bc_32, ↓bx_32, bl_32, ↓b_t0, ↓b_t1, ↓b_t2, ↓b_t3, ↓b_t4, ↓b_t5, ↓b_t6, Nat.zero_add, Nat.le_refl, b_rs, b_rn, b_r2, b_ss, b_sn, b_bt, b_bf, b_b0, b_b1, b_bw, b_shl, b_or, b_iv, b_jv, b_sI, b_sJ, ↓z_hl, z_b0, z_b1, z_b2, b_and1c, b_and1z, if_true, if_false, nI_add, pk_mul, b_cl, b_lt, b_le, b_eq, b_eq0, b_le0, b_0lt, b_0le, b_lt0]
def w_waits (s : Nat → Nat) : Nat := z_set (fun e => w_wait s e) (s 3)
theorem s_Af_waiting (hF : c_F m 4 s) (hA : c_A m 26 s) (hS : i_S s) (hI : i_D s) (hD : 3 ≤ D) : a_ex X tx a_T D 78 [.ref 26] (b_h m j w) = some ((b_h m j w), some (.int (nI (w_waits s)))) := by
  obtain ⟨d, rfl⟩ : ∃ d, D = d + 1 := ⟨D - 1, by omega⟩
  rw [e_Af_waiting, q_Af_waiting_0]
  have h1 := c_F4_E hF
  have hE := i_S_E hS
  rw [← l_Af_waiting_4]
  refine z_loop (fun n => [.ref 26, .int (nI (z_set (fun e => w_wait s e) n)), .int (nI n)]) (fun n => (b_h m j w)) (s 3) (0) ?_ ?_ _ (z_fu (by omega))
  · intro n hn f _
    rw [l_Af_waiting_4, q_Af_waiting_4]
    simp (disch := omega) only [h1, s_Af_isWaiting26 hF hA hS hI, ↓bc_26, ↓br_26_0, ↓bc_4, ↓b_t0, ↓b_t1, ↓b_t2, ↓b_t3, ↓b_t4, ↓b_t5, ↓b_t6, Nat.zero_add, Nat.le_refl, b_rs, b_rn, b_r2, b_ss, b_sn, b_bt, b_bf, b_b0, b_b1, b_bw, b_shl, b_or, b_iv, b_jv, b_sI, b_sJ, ↓z_hl, z_b0, z_b1, z_b2, b_and1c, b_and1z, if_true, if_false, nI_add, pk_mul, b_cl, b_lt, b_le, b_eq, b_eq0, b_le0, b_0lt, b_0le, b_lt0]
    rw [if_neg (by omega)]
    by_cases h : w_wait s n = true
    · rw [if_neg (by rw [h]; decide), z_set_t h]
    · rw [if_pos (Bool.eq_false_iff.mpr h), z_set_f (Bool.eq_false_iff.mpr h)]
  · intro f _
    rw [l_Af_waiting_4, q_Af_waiting_4]
    simp (disch := omega) only [h1, ↓bc_26, ↓br_26_0, ↓bc_4, ↓b_t0, ↓b_t1, ↓b_t2, ↓b_t3, ↓b_t4, ↓b_t5, ↓b_t6, Nat.zero_add, Nat.le_refl, b_rs, b_rn, b_r2, b_ss, b_sn, b_bt, b_bf, b_b0, b_b1, b_bw, b_shl, b_or, b_iv, b_jv, b_sI, b_sJ, ↓z_hl, z_b0, z_b1, z_b2, b_and1c, b_and1z, if_true, if_false, nI_add, pk_mul, b_cl, b_lt, b_le, b_eq, b_eq0, b_le0, b_0lt, b_0le, b_lt0]
    rfl
end AF2
