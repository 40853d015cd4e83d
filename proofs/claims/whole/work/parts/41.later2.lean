/-! THE CLASS: what will be open -/
theorem w_lat_le {s : Nat → Nat} (hI : i_D s) {t k q : Nat} (hk : k < 6) : ∀ n, n ≤ 10 → w_lat s t k q n ≤ n * 9
  | 0, _ => by simp [w_lat, z_sum]
  | n + 1, hn => by
    have h1 := w_lat_le hI (t := t) (q := q) hk n (by omega)
    have h2 := i_D_sh hI n (by omega) k hk
    have h3 : w_lat s t k q (n + 1) = w_lat s t k q n + (if w_wait s n = true ∧ s (261 + n) = t + 1 ∧ s (271 + n) + s (147 + n) ≤ q then s (292 + 6 * n + k) else 0) := rfl
    rw [h3]
    split <;> omega
section L2
variable {X : Nat × (Nat → Int32)} {tx : List Int32} {D : Nat} {m j : Nat → Nat → Nat} {w : (Nat × Nat) × Bool} {s : Nat → Nat}
theorem s_Af_openAt (hF : c_F m 4 s) (hA : c_A m 26 s) (hS : i_S s) (hI : i_D s) (hD : 3 ≤ D) {t q : Nat} (ht : t < 8) (hq : q ≤ 400) : a_ex X tx a_T D 79 [.ref 26, .int (nI t), .int (nI q)] (b_h m j w) = some ((b_h m j w), some (.int (nI (w_later s t q)))) := by
  obtain ⟨d, rfl⟩ : ∃ d, D = d + 1 := ⟨D - 1, by omega⟩
  rw [e_Af_openAt, q_Af_openAt_0]
  have hT := i_S_T hS
  have hE := i_S_E hS
  have hK := i_S_K hS
  have fK := c_F4_K hF
  have fE := c_F4_E hF
  rw [← l_Af_openAt_4]
  refine z_runT (Q := fun r => r = some (b_h m j w, some (.int (nI (w_later s t q))))) (fun k c L h => h = b_h m j w ∧ ((∃ n u v, c = 4 ∧ k + 12 * n = 90 ∧ n ≤ s 0 ∧ L = [.ref 26, .int (nI t), .int (nI q), .int (nI (z_sum (fun k => min 99 (s (177 + 6 * t + k) + w_lat s t k q (s 3))) n)), .int (nI n), u, v]) ∨ (∃ n e, c = 16 ∧ k + 12 * n + e + 1 = 90 ∧ n < s 0 ∧ e ≤ s 3 ∧ L = [.ref 26, .int (nI t), .int (nI q), .int (nI (z_sum (fun k => min 99 (s (177 + 6 * t + k) + w_lat s t k q (s 3))) n)), .int (nI n), .int (nI (s (177 + 6 * t + n) + w_lat s t n q e)), .int (nI e)]))) 0 ?_ 90 4 _ _ ⟨rfl, Or.inl ⟨0, _, _, rfl, by omega, by omega, rfl⟩⟩ _ (z_fu (by omega))
  rintro k c L h ⟨rfl, ⟨n, u, v, rfl, hk, hn, rfl⟩ | ⟨n, e, rfl, hk, hn, he, rfl⟩⟩ f _
  · rw [l_Af_openAt_4, q_Af_openAt_4]
    by_cases hn2 : n = s 0
    · left
      subst hn2
      simp (disch := omega) only [fK, ↓bc_26, ↓br_26_0, ↓bc_4, ↓br_26_8, ↓bc_33, ↓bx_33, bl_33, ↓b_t0, ↓b_t1, ↓b_t2, ↓b_t3, ↓b_t4, ↓b_t5, ↓b_t6, Nat.zero_add, Nat.le_refl, b_rs, b_rn, b_r2, b_ss, b_sn, b_bt, b_bf, b_b0, b_b1, b_bw, b_shl, b_or, b_iv, b_jv, b_sI, b_sJ, ↓z_hl, z_b0, z_b1, z_b2, b_and1c, b_and1z, if_true, if_false, nI_add, pk_mul, b_cl, b_lt, b_le, b_eq, b_eq0, b_le0, b_0lt, b_0le, b_lt0]
      unfold w_later
      rw [z_sum_pad2 hK (fun k h3 h4 => by
        have : w_lat s t k q (s 3) = 0 := by
          unfold w_lat
          rw [z_sum_zero]
          intro e he
          split
          · exact i_D_shk hI e (by omega) k h3 h4
          · rfl
        rw [i_D_opk hI t ht k h3 h4, this]
        rfl)]
    · right
      refine ⟨k - 1, 16, _, _, by omega, ⟨rfl, Or.inr ⟨n, 0, rfl, by omega, by omega, by omega, rfl⟩⟩, Or.inr ?_⟩
      simp (disch := omega) only [fK, s_Af_amount26 hA, ↓bc_26, ↓br_26_0, ↓bc_4, ↓br_26_8, ↓bc_33, ↓bx_33, bl_33, ↓b_t0, ↓b_t1, ↓b_t2, ↓b_t3, ↓b_t4, ↓b_t5, ↓b_t6, Nat.zero_add, Nat.le_refl, b_rs, b_rn, b_r2, b_ss, b_sn, b_bt, b_bf, b_b0, b_b1, b_bw, b_shl, b_or, b_iv, b_jv, b_sI, b_sJ, ↓z_hl, z_b0, z_b1, z_b2, b_and1c, b_and1z, if_true, if_false, nI_add, pk_mul, b_cl, b_lt, b_le, b_eq, b_eq0, b_le0, b_0lt, b_0le, b_lt0]
      rw [if_neg (by omega), ← l_Af_openAt_16]
      rfl
  · rw [l_Af_openAt_16, q_Af_openAt_16]
    right
    have b1 := i_D_op hI t ht n (by omega)
    have b2 := w_lat_le hI (t := t) (k := n) (q := q) (by omega) e (by omega)
    by_cases he2 : e = s 3
    · subst he2
      refine ⟨k + s 3 - 11, 4, _, _, by omega, ⟨rfl, Or.inl ⟨n + 1, .int (nI (s (177 + 6 * t + n) + w_lat s t n q (s 3))), .int (nI (s 3)), rfl, by omega, by omega, rfl⟩⟩, Or.inl ?_⟩
      simp (disch := omega) only [fE, b_min, ↓bc_26, ↓br_26_0, ↓bc_4, ↓br_26_8, ↓bc_33, ↓bx_33, bl_33, ↓b_t0, ↓b_t1, ↓b_t2, ↓b_t3, ↓b_t4, ↓b_t5, ↓b_t6, Nat.zero_add, Nat.le_refl, b_rs, b_rn, b_r2, b_ss, b_sn, b_bt, b_bf, b_b0, b_b1, b_bw, b_shl, b_or, b_iv, b_jv, b_sI, b_sJ, ↓z_hl, z_b0, z_b1, z_b2, b_and1c, b_and1z, if_true, if_false, nI_add, pk_mul, b_cl, b_lt, b_le, b_eq, b_eq0, b_le0, b_0lt, b_0le, b_lt0]
      rfl
    · have he3 : e < s 3 := by omega
      have h3 := c_A26_pl hA e he3
      have h4 := i_D_pu hI e he3
      have h5 := i_D_pz hI e he3
      have h6 : (if s (241 + e) = 4294967295 then s (261 + e) - 1 else 4294967295) < 4294967296 := by split <;> omega
      have hl : w_lat s t n q (e + 1) = w_lat s t n q e + (if w_wait s e = true ∧ s (261 + e) = t + 1 ∧ s (271 + e) + s (147 + e) ≤ q then s (292 + 6 * e + n) else 0) := rfl
      refine ⟨k - 1, 16, _, _, by omega, ⟨rfl, Or.inr ⟨n, e + 1, rfl, by omega, hn, by omega, rfl⟩⟩, Or.inl ?_⟩
      rw [hl]
      by_cases c1 : s (241 + e) = 4294967295
      · have c2 : s (261 + e) ≠ 0 := fun h => (h5.mp h) c1
        rw [if_pos c1] at h3 h6
        by_cases c3 : s (261 + e) = t + 1
        · have c4 : s (261 + e) - 1 = t := by omega
          rw [c4] at h3
          by_cases c5 : w_wait s e = true
          · have c5' := c5
            unfold w_wait at c5'
            simp only [Bool.and_eq_true, decide_eq_true_eq, Bool.not_eq_true'] at c5'
            have c6 := i_D_po hI e he3 c1
            have c7 := i_S_fd hS e (by omega)
            have c8 := i_D_da hI
            by_cases c9 : s (271 + e) + s (147 + e) ≤ q
            · simp (disch := omega) only [fE, h3, s_Af_isWaiting26 hF hA hS hI, c5, s_Af_lastQuietDay26 hF hA hS hI _ _ c1 c5'.1.1, s_Af_shutBy26 hA hS _ _ c1, ↓bc_26, ↓br_26_0, ↓bc_4, ↓br_26_8, ↓bc_33, ↓bx_33, bl_33, ↓b_t0, ↓b_t1, ↓b_t2, ↓b_t3, ↓b_t4, ↓b_t5, ↓b_t6, Nat.zero_add, Nat.le_refl, b_rs, b_rn, b_r2, b_ss, b_sn, b_bt, b_bf, b_b0, b_b1, b_bw, b_shl, b_or, b_iv, b_jv, b_sI, b_sJ, ↓z_hl, z_b0, z_b1, z_b2, b_and1c, b_and1z, if_true, if_false, nI_add, pk_mul, b_cl, b_lt, b_le, b_eq, b_eq0, b_le0, b_0lt, b_0le, b_lt0]
              rw [if_neg (by omega), if_neg (by decide), if_neg (by omega), if_pos ⟨trivial, c3, c9⟩, Nat.add_assoc]
            · simp (disch := omega) only [fE, h3, s_Af_isWaiting26 hF hA hS hI, c5, s_Af_lastQuietDay26 hF hA hS hI _ _ c1 c5'.1.1, ↓bc_26, ↓br_26_0, ↓bc_4, ↓br_26_8, ↓bc_33, ↓bx_33, bl_33, ↓b_t0, ↓b_t1, ↓b_t2, ↓b_t3, ↓b_t4, ↓b_t5, ↓b_t6, Nat.zero_add, Nat.le_refl, b_rs, b_rn, b_r2, b_ss, b_sn, b_bt, b_bf, b_b0, b_b1, b_bw, b_shl, b_or, b_iv, b_jv, b_sI, b_sJ, ↓z_hl, z_b0, z_b1, z_b2, b_and1c, b_and1z, if_true, if_false, nI_add, pk_mul, b_cl, b_lt, b_le, b_eq, b_eq0, b_le0, b_0lt, b_0le, b_lt0]
              rw [if_neg (by omega), if_neg (by decide), if_pos (by omega), if_neg (fun h => c9 h.2.2)]
              rfl
          · simp (disch := omega) only [fE, h3, s_Af_isWaiting26 hF hA hS hI, Bool.eq_false_iff.mpr c5, ↓bc_26, ↓br_26_0, ↓bc_4, ↓br_26_8, ↓bc_33, ↓bx_33, bl_33, ↓b_t0, ↓b_t1, ↓b_t2, ↓b_t3, ↓b_t4, ↓b_t5, ↓b_t6, Nat.zero_add, Nat.le_refl, b_rs, b_rn, b_r2, b_ss, b_sn, b_bt, b_bf, b_b0, b_b1, b_bw, b_shl, b_or, b_iv, b_jv, b_sI, b_sJ, ↓z_hl, z_b0, z_b1, z_b2, b_and1c, b_and1z, if_true, if_false, nI_add, pk_mul, b_cl, b_lt, b_le, b_eq, b_eq0, b_le0, b_0lt, b_0le, b_lt0]
            rw [if_neg (by omega), if_neg (fun h => by cases h.1)]
            rfl
        · simp (disch := omega) only [fE, h3, ↓bc_26, ↓br_26_0, ↓bc_4, ↓br_26_8, ↓bc_33, ↓bx_33, bl_33, ↓b_t0, ↓b_t1, ↓b_t2, ↓b_t3, ↓b_t4, ↓b_t5, ↓b_t6, Nat.zero_add, Nat.le_refl, b_rs, b_rn, b_r2, b_ss, b_sn, b_bt, b_bf, b_b0, b_b1, b_bw, b_shl, b_or, b_iv, b_jv, b_sI, b_sJ, ↓z_hl, z_b0, z_b1, z_b2, b_and1c, b_and1z, if_true, if_false, nI_add, pk_mul, b_cl, b_lt, b_le, b_eq, b_eq0, b_le0, b_0lt, b_0le, b_lt0]
          rw [if_neg (by omega), if_neg (by omega), if_neg (fun h => c3 h.2.1)]
          rfl
      · rw [if_neg c1] at h3 h6
        simp (disch := omega) only [fE, h3, ↓bc_26, ↓br_26_0, ↓bc_4, ↓br_26_8, ↓bc_33, ↓bx_33, bl_33, ↓b_t0, ↓b_t1, ↓b_t2, ↓b_t3, ↓b_t4, ↓b_t5, ↓b_t6, Nat.zero_add, Nat.le_refl, b_rs, b_rn, b_r2, b_ss, b_sn, b_bt, b_bf, b_b0, b_b1, b_bw, b_shl, b_or, b_iv, b_jv, b_sI, b_sJ, ↓z_hl, z_b0, z_b1, z_b2, b_and1c, b_and1z, if_true, if_false, nI_add, pk_mul, b_cl, b_lt, b_le, b_eq, b_eq0, b_le0, b_0lt, b_0le, b_lt0]
        rw [if_neg (by omega), if_neg (by omega), if_neg (fun h => by have := h5.mpr c1; omega)]
        rfl
theorem s_EM_later (hF : c_F m 4 s) (hA : c_A m 26 s) (hS : i_S s) (hI : i_D s) (hD : 4 ≤ D) {t q : Nat} (ht : t < 4294967296) (hq : q < 4294967296) : a_ex X tx a_T D 181 [.ref 0, .int (nI t), .int (nI q)] (b_h m j w) = some ((b_h m j w), some (.int (nI (w_qlater s t q)))) := by
  obtain ⟨d, rfl⟩ : ∃ d, D = d + 1 := ⟨D - 1, by omega⟩
  rw [e_EM_later, q_EM_later_0]
  have hT := i_S_T hS
  have hda := i_D_da hI
  unfold w_qlater
  by_cases c1 : t < s 2
  · by_cases c0 : q < 2147483648
    · by_cases c2 : s 157 ≤ q ∧ q ≤ 400
      · simp (disch := omega) only [s_Fa_isThing hF hS, c_A26_da hA, s_Af_openAt hF hA hS hI, decide_eq_false_iff_not, ↓bc_0, ↓br_0_1, ↓bc_4, ↓br_0_3, ↓bc_26, ↓b_t0, ↓b_t1, ↓b_t2, ↓b_t3, ↓b_t4, ↓b_t5, ↓b_t6, Nat.zero_add, Nat.le_refl, b_rs, b_rn, b_r2, b_ss, b_sn, b_bt, b_bf, b_b0, b_b1, b_bw, b_shl, b_or, b_iv, b_jv, b_sI, b_sJ, ↓z_hl, z_b0, z_b1, z_b2, b_and1c, b_and1z, if_true, if_false, nI_add, pk_mul, b_cl, b_lt, b_le, b_eq, b_eq0, b_le0, b_0lt, b_0le, b_lt0]
        rw [if_neg (fun h => h c1), if_neg (by omega), if_pos c2.2, if_pos ⟨c1, c2⟩]
      · rw [if_neg (fun h => c2 h.2)]
        by_cases c3 : q < s 157
        · simp (disch := omega) only [s_Fa_isThing hF hS, c_A26_da hA, decide_eq_false_iff_not, ↓bc_0, ↓br_0_1, ↓bc_4, ↓br_0_3, ↓bc_26, ↓b_t0, ↓b_t1, ↓b_t2, ↓b_t3, ↓b_t4, ↓b_t5, ↓b_t6, Nat.zero_add, Nat.le_refl, b_rs, b_rn, b_r2, b_ss, b_sn, b_bt, b_bf, b_b0, b_b1, b_bw, b_shl, b_or, b_iv, b_jv, b_sI, b_sJ, ↓z_hl, z_b0, z_b1, z_b2, b_and1c, b_and1z, if_true, if_false, nI_add, pk_mul, b_cl, b_lt, b_le, b_eq, b_eq0, b_le0, b_0lt, b_0le, b_lt0]
          rw [if_neg (fun h => h c1), if_pos c3]
        · have c4 : (nI q ≤ nI 400) = False := by rw [b_le c0 (by decide)]; exact propext ⟨fun h => by omega, fun h => h.elim⟩
          simp (disch := omega) only [s_Fa_isThing hF hS, c_A26_da hA, c4, decide_eq_false_iff_not, ↓bc_0, ↓br_0_1, ↓bc_4, ↓br_0_3, ↓bc_26, ↓b_t0, ↓b_t1, ↓b_t2, ↓b_t3, ↓b_t4, ↓b_t5, ↓b_t6, Nat.zero_add, Nat.le_refl, b_rs, b_rn, b_r2, b_ss, b_sn, b_bt, b_bf, b_b0, b_b1, b_bw, b_shl, b_or, b_iv, b_jv, b_sI, b_sJ, ↓z_hl, z_b0, z_b1, z_b2, b_and1c, b_and1z, if_true, if_false, nI_add, pk_mul, b_cl, b_lt, b_le, b_eq, b_eq0, b_le0, b_0lt, b_0le, b_lt0]
          rw [if_neg (fun h => h c1), if_neg c3]
    · rw [if_neg (fun h => by omega)]
      have c4 : (nI q < nI (s 157)) = True := b_ltn (by omega) hq (by omega)
      simp (disch := omega) only [s_Fa_isThing hF hS, c_A26_da hA, c4, decide_eq_false_iff_not, ↓bc_0, ↓br_0_1, ↓bc_4, ↓br_0_3, ↓bc_26, ↓b_t0, ↓b_t1, ↓b_t2, ↓b_t3, ↓b_t4, ↓b_t5, ↓b_t6, Nat.zero_add, Nat.le_refl, b_rs, b_rn, b_r2, b_ss, b_sn, b_bt, b_bf, b_b0, b_b1, b_bw, b_shl, b_or, b_iv, b_jv, b_sI, b_sJ, ↓z_hl, z_b0, z_b1, z_b2, b_and1c, b_and1z, if_true, if_false, nI_add, pk_mul, b_cl, b_lt, b_le, b_eq, b_eq0, b_le0, b_0lt, b_0le, b_lt0]
      rw [if_neg (fun h => h c1)]
  · rw [if_neg (fun h => c1 h.1)]
    simp (disch := omega) only [s_Fa_isThing hF hS, decide_eq_false_iff_not, ↓bc_0, ↓br_0_1, ↓bc_4, ↓br_0_3, ↓bc_26, ↓b_t0, ↓b_t1, ↓b_t2, ↓b_t3, ↓b_t4, ↓b_t5, ↓b_t6, Nat.zero_add, Nat.le_refl, b_rs, b_rn, b_r2, b_ss, b_sn, b_bt, b_bf, b_b0, b_b1, b_bw, b_shl, b_or, b_iv, b_jv, b_sI, b_sJ, ↓z_hl, z_b0, z_b1, z_b2, b_and1c, b_and1z, if_true, if_false, nI_add, pk_mul, b_cl, b_lt, b_le, b_eq, b_eq0, b_le0, b_0lt, b_0le, b_lt0]
    rw [if_pos c1]
end L2
