/-! QUERIES of the reference and of the class -/
def w_qopen (s : Nat → Nat) (t k : Nat) : Nat := if t < s 2 ∧ k < s 0 then s (177 + 6 * t + k) else 4294967295
def w_qcloses (s : Nat → Nat) (e k : Nat) : Nat := if e < s 3 ∧ k < s 0 then s (87 + 6 * e + k) else 4294967295
def w_qfits (s : Nat → Nat) (e t : Nat) : Nat := if e < s 3 ∧ t < s 2 ∧ s (241 + e) ≠ 4294967295 then b_b (w_fit s e t) else 4294967295
def w_qlikes (s : Nat → Nat) (q e : Nat) : Nat := if q < s 1 ∧ e < s 3 ∧ s (241 + e) ≠ 4294967295 then w_like s q e else 4294967295
def w_qcheap (s : Nat → Nat) (t : Nat) : Nat := if t < s 2 then w_cheapn s t (s 3) else 4294967295
section MQ
variable {X : Nat × (Nat → Int32)} {tx : List Int32} {D : Nat} {m j : Nat → Nat → Nat} {w : (Nat × Nat) × Bool}
theorem s_Mo_open (hS : i_S (m 236)) (hI : i_D (m 236)) (hD : 3 ≤ D) {t k : Nat} (ht : t < 4294967296) (hk : k < 4294967296) : a_ex X tx a_T D 240 [.ref 234, .int (nI t), .int (nI k)] (b_h m j w) = some ((b_h (b_r m 234 (b_s (m 234) 0 0)) j w), some (.int (nI (w_qopen (m 236) t k)))) := by
  obtain ⟨d, rfl⟩ : ∃ d, D = d + 1 := ⟨D - 1, by omega⟩
  rw [e_Mo_open, q_Mo_open_0]
  have hS2 : i_S ((b_r m 234 (b_s (m 234) 0 0)) 236) := by rw [b_rn (by decide)]; exact hS
  have hI2 : i_D ((b_r m 234 (b_s (m 234) 0 0)) 236) := by rw [b_rn (by decide)]; exact hI
  have qq : (b_r m 234 (b_s (m 234) 0 0)) 236 = m 236 := b_rn (by decide)
  have q0 : (b_r m 234 (b_s (m 234) 0 0)) 236 0 = m 236 0 := by rw [qq]
  have q1 : (b_r m 234 (b_s (m 234) 0 0)) 236 1 = m 236 1 := by rw [qq]
  have q2 : (b_r m 234 (b_s (m 234) 0 0)) 236 2 = m 236 2 := by rw [qq]
  have q3 : (b_r m 234 (b_s (m 234) 0 0)) 236 3 = m 236 3 := by rw [qq]
  have hK := i_S_K hS
  have hM := i_S_M hS
  have hT := i_S_T hS
  have hE := i_S_E hS
  unfold w_qopen
  by_cases c1 : t < m 236 2
  · by_cases c2 : k < m 236 0
    · rw [if_pos ⟨c1, c2⟩]
      simp (disch := omega) only [s_Mo_isThing hS2, s_Mo_isKind hS2, decide_eq_false_iff_not, ↓bc_234, ↓br_234_6, ↓bc_236, ↓bx_236, bl_236, ↓b_t0, ↓b_t1, ↓b_t2, ↓b_t3, ↓b_t4, ↓b_t5, ↓b_t6, Nat.zero_add, Nat.le_refl, b_rs, b_rn, b_r2, b_ss, b_sn, b_bt, b_bf, b_b0, b_b1, b_bw, b_shl, b_or, b_iv, b_jv, b_sI, b_sJ, ↓z_hl, z_b0, z_b1, z_b2, b_and1c, b_and1z, if_true, if_false, nI_add, pk_mul, b_cl, b_lt, b_le, b_eq, b_eq0, b_le0, b_0lt, b_0le, b_lt0]
      rw [if_neg (fun h => h c1), if_neg (fun h => h c2)]
    · rw [if_neg (fun h => c2 h.2)]
      simp (disch := omega) only [s_Mo_isThing hS2, s_Mo_isKind hS2, decide_eq_false_iff_not, ↓bc_234, ↓br_234_6, ↓bc_236, ↓bx_236, bl_236, ↓b_t0, ↓b_t1, ↓b_t2, ↓b_t3, ↓b_t4, ↓b_t5, ↓b_t6, Nat.zero_add, Nat.le_refl, b_rs, b_rn, b_r2, b_ss, b_sn, b_bt, b_bf, b_b0, b_b1, b_bw, b_shl, b_or, b_iv, b_jv, b_sI, b_sJ, ↓z_hl, z_b0, z_b1, z_b2, b_and1c, b_and1z, if_true, if_false, nI_add, pk_mul, b_cl, b_lt, b_le, b_eq, b_eq0, b_le0, b_0lt, b_0le, b_lt0]
      rw [if_neg (fun h => h c1), if_pos c2]
  · rw [if_neg (fun h => c1 h.1)]
    simp (disch := omega) only [s_Mo_isThing hS2, decide_eq_false_iff_not, ↓bc_234, ↓br_234_6, ↓bc_236, ↓bx_236, bl_236, ↓b_t0, ↓b_t1, ↓b_t2, ↓b_t3, ↓b_t4, ↓b_t5, ↓b_t6, Nat.zero_add, Nat.le_refl, b_rs, b_rn, b_r2, b_ss, b_sn, b_bt, b_bf, b_b0, b_b1, b_bw, b_shl, b_or, b_iv, b_jv, b_sI, b_sJ, ↓z_hl, z_b0, z_b1, z_b2, b_and1c, b_and1z, if_true, if_false, nI_add, pk_mul, b_cl, b_lt, b_le, b_eq, b_eq0, b_le0, b_0lt, b_0le, b_lt0]
    rw [if_pos c1]
theorem s_Mo_closes (hS : i_S (m 236)) (hI : i_D (m 236)) (hD : 3 ≤ D) {e k : Nat} (he : e < 4294967296) (hk : k < 4294967296) : a_ex X tx a_T D 242 [.ref 234, .int (nI e), .int (nI k)] (b_h m j w) = some ((b_h (b_r m 234 (b_s (m 234) 0 0)) j w), some (.int (nI (w_qcloses (m 236) e k)))) := by
  obtain ⟨d, rfl⟩ : ∃ d, D = d + 1 := ⟨D - 1, by omega⟩
  rw [e_Mo_closes, q_Mo_closes_0]
  have hS2 : i_S ((b_r m 234 (b_s (m 234) 0 0)) 236) := by rw [b_rn (by decide)]; exact hS
  have hI2 : i_D ((b_r m 234 (b_s (m 234) 0 0)) 236) := by rw [b_rn (by decide)]; exact hI
  have qq : (b_r m 234 (b_s (m 234) 0 0)) 236 = m 236 := b_rn (by decide)
  have q0 : (b_r m 234 (b_s (m 234) 0 0)) 236 0 = m 236 0 := by rw [qq]
  have q1 : (b_r m 234 (b_s (m 234) 0 0)) 236 1 = m 236 1 := by rw [qq]
  have q2 : (b_r m 234 (b_s (m 234) 0 0)) 236 2 = m 236 2 := by rw [qq]
  have q3 : (b_r m 234 (b_s (m 234) 0 0)) 236 3 = m 236 3 := by rw [qq]
  have hK := i_S_K hS
  have hM := i_S_M hS
  have hT := i_S_T hS
  have hE := i_S_E hS
  unfold w_qcloses
  by_cases c1 : e < m 236 3
  · by_cases c2 : k < m 236 0
    · rw [if_pos ⟨c1, c2⟩]
      simp (disch := omega) only [s_Mo_isEnding hS2, s_Mo_isKind hS2, s_Mo_closed, decide_eq_false_iff_not, ↓bc_234, ↓b_t0, ↓b_t1, ↓b_t2, ↓b_t3, ↓b_t4, ↓b_t5, ↓b_t6, Nat.zero_add, Nat.le_refl, b_rs, b_rn, b_r2, b_ss, b_sn, b_bt, b_bf, b_b0, b_b1, b_bw, b_shl, b_or, b_iv, b_jv, b_sI, b_sJ, ↓z_hl, z_b0, z_b1, z_b2, b_and1c, b_and1z, if_true, if_false, nI_add, pk_mul, b_cl, b_lt, b_le, b_eq, b_eq0, b_le0, b_0lt, b_0le, b_lt0]
      rw [if_neg (fun h => h c1), if_neg (fun h => h c2)]
    · rw [if_neg (fun h => c2 h.2)]
      simp (disch := omega) only [s_Mo_isEnding hS2, s_Mo_isKind hS2, decide_eq_false_iff_not, ↓bc_234, ↓b_t0, ↓b_t1, ↓b_t2, ↓b_t3, ↓b_t4, ↓b_t5, ↓b_t6, Nat.zero_add, Nat.le_refl, b_rs, b_rn, b_r2, b_ss, b_sn, b_bt, b_bf, b_b0, b_b1, b_bw, b_shl, b_or, b_iv, b_jv, b_sI, b_sJ, ↓z_hl, z_b0, z_b1, z_b2, b_and1c, b_and1z, if_true, if_false, nI_add, pk_mul, b_cl, b_lt, b_le, b_eq, b_eq0, b_le0, b_0lt, b_0le, b_lt0]
      rw [if_neg (fun h => h c1), if_pos c2]
  · rw [if_neg (fun h => c1 h.1)]
    simp (disch := omega) only [s_Mo_isEnding hS2, decide_eq_false_iff_not, ↓bc_234, ↓b_t0, ↓b_t1, ↓b_t2, ↓b_t3, ↓b_t4, ↓b_t5, ↓b_t6, Nat.zero_add, Nat.le_refl, b_rs, b_rn, b_r2, b_ss, b_sn, b_bt, b_bf, b_b0, b_b1, b_bw, b_shl, b_or, b_iv, b_jv, b_sI, b_sJ, ↓z_hl, z_b0, z_b1, z_b2, b_and1c, b_and1z, if_true, if_false, nI_add, pk_mul, b_cl, b_lt, b_le, b_eq, b_eq0, b_le0, b_0lt, b_0le, b_lt0]
    rw [if_pos c1]
theorem s_Mo_fits (hS : i_S (m 236)) (hI : i_D (m 236)) (hD : 4 ≤ D) {e t : Nat} (he : e < 4294967296) (ht : t < 4294967296) : a_ex X tx a_T D 259 [.ref 234, .int (nI e), .int (nI t)] (b_h m j w) = some ((b_h (b_r m 234 (b_s (m 234) 0 0)) j w), some (.int (nI (w_qfits (m 236) e t)))) := by
  obtain ⟨d, rfl⟩ : ∃ d, D = d + 1 := ⟨D - 1, by omega⟩
  rw [e_Mo_fits, q_Mo_fits_0]
  have hS2 : i_S ((b_r m 234 (b_s (m 234) 0 0)) 236) := by rw [b_rn (by decide)]; exact hS
  have hI2 : i_D ((b_r m 234 (b_s (m 234) 0 0)) 236) := by rw [b_rn (by decide)]; exact hI
  have qq : (b_r m 234 (b_s (m 234) 0 0)) 236 = m 236 := b_rn (by decide)
  have q0 : (b_r m 234 (b_s (m 234) 0 0)) 236 0 = m 236 0 := by rw [qq]
  have q1 : (b_r m 234 (b_s (m 234) 0 0)) 236 1 = m 236 1 := by rw [qq]
  have q2 : (b_r m 234 (b_s (m 234) 0 0)) 236 2 = m 236 2 := by rw [qq]
  have q3 : (b_r m 234 (b_s (m 234) 0 0)) 236 3 = m 236 3 := by rw [qq]
  have hK := i_S_K hS
  have hM := i_S_M hS
  have hT := i_S_T hS
  have hE := i_S_E hS
  unfold w_qfits
  by_cases c1 : e < m 236 3
  · by_cases c2 : t < m 236 2
    · by_cases c3 : m 236 (241 + e) = 4294967295
      · rw [if_neg (fun h => h.2.2 c3)]
        simp (disch := omega) only [s_Mo_isEnding hS2, s_Mo_isThing hS2, s_Mo_isPut hS2 hI2, decide_eq_false_iff_not, ↓bc_234, ↓b_t0, ↓b_t1, ↓b_t2, ↓b_t3, ↓b_t4, ↓b_t5, ↓b_t6, Nat.zero_add, Nat.le_refl, b_rs, b_rn, b_r2, b_ss, b_sn, b_bt, b_bf, b_b0, b_b1, b_bw, b_shl, b_or, b_iv, b_jv, b_sI, b_sJ, ↓z_hl, z_b0, z_b1, z_b2, b_and1c, b_and1z, if_true, if_false, nI_add, pk_mul, b_cl, b_lt, b_le, b_eq, b_eq0, b_le0, b_0lt, b_0le, b_lt0]
        rw [if_neg (fun h => h c1), if_neg (fun h => h c2), if_neg (fun h => h c3)]
      · rw [if_pos ⟨c1, c2, c3⟩]
        simp (disch := omega) only [s_Mo_isEnding hS2, s_Mo_isThing hS2, s_Mo_isPut hS2 hI2, s_Mo_doesFit hS2 hI2, decide_eq_false_iff_not, ↓bc_234, ↓b_t0, ↓b_t1, ↓b_t2, ↓b_t3, ↓b_t4, ↓b_t5, ↓b_t6, Nat.zero_add, Nat.le_refl, b_rs, b_rn, b_r2, b_ss, b_sn, b_bt, b_bf, b_b0, b_b1, b_bw, b_shl, b_or, b_iv, b_jv, b_sI, b_sJ, ↓z_hl, z_b0, z_b1, z_b2, b_and1c, b_and1z, if_true, if_false, nI_add, pk_mul, b_cl, b_lt, b_le, b_eq, b_eq0, b_le0, b_0lt, b_0le, b_lt0]
        rw [if_neg (fun h => h c1), if_neg (fun h => h c2), if_pos c3]
        cases w_fit (m 236) e t <;> rfl
    · rw [if_neg (fun h => c2 h.2.1)]
      simp (disch := omega) only [s_Mo_isEnding hS2, s_Mo_isThing hS2, decide_eq_false_iff_not, ↓bc_234, ↓b_t0, ↓b_t1, ↓b_t2, ↓b_t3, ↓b_t4, ↓b_t5, ↓b_t6, Nat.zero_add, Nat.le_refl, b_rs, b_rn, b_r2, b_ss, b_sn, b_bt, b_bf, b_b0, b_b1, b_bw, b_shl, b_or, b_iv, b_jv, b_sI, b_sJ, ↓z_hl, z_b0, z_b1, z_b2, b_and1c, b_and1z, if_true, if_false, nI_add, pk_mul, b_cl, b_lt, b_le, b_eq, b_eq0, b_le0, b_0lt, b_0le, b_lt0]
      rw [if_neg (fun h => h c1), if_pos c2]
  · rw [if_neg (fun h => c1 h.1)]
    simp (disch := omega) only [s_Mo_isEnding hS2, decide_eq_false_iff_not, ↓bc_234, ↓b_t0, ↓b_t1, ↓b_t2, ↓b_t3, ↓b_t4, ↓b_t5, ↓b_t6, Nat.zero_add, Nat.le_refl, b_rs, b_rn, b_r2, b_ss, b_sn, b_bt, b_bf, b_b0, b_b1, b_bw, b_shl, b_or, b_iv, b_jv, b_sI, b_sJ, ↓z_hl, z_b0, z_b1, z_b2, b_and1c, b_and1z, if_true, if_false, nI_add, pk_mul, b_cl, b_lt, b_le, b_eq, b_eq0, b_le0, b_0lt, b_0le, b_lt0]
    rw [if_pos c1]
theorem s_Mo_likesOf (hS : i_S (m 236)) (hI : i_D (m 236)) (hD : 4 ≤ D) {q e : Nat} (hq : q < 4294967296) (he : e < m 236 3) : a_ex X tx a_T D 282 [.ref 234, .int (nI q), .int (nI e)] (b_h m j w) = some ((b_h m j w), some (.int (nI (w_like (m 236) q e)))) := by
  obtain ⟨d, rfl⟩ : ∃ d, D = d + 1 := ⟨D - 1, by omega⟩
  rw [e_Mo_likesOf, q_Mo_likesOf_0]
  have hT := i_S_T hS
  have hE := i_S_E hS
  have hM := i_S_M hS
  rw [← l_Mo_likesOf_4]
  refine z_runT (Q := fun r => r = some (b_h m j w, some (.int (nI (w_like (m 236) q e))))) (fun k t L h => h = b_h m j w ∧ ((∃ n u v, t = 4 ∧ k + 10 * n = 90 ∧ n ≤ m 236 2 ∧ L = [.ref 234, .int (nI q), .int (nI e), .int (nI (w_liken (m 236) q e n)), .int (nI n), u, v]) ∨ (∃ n i, t = 28 ∧ k + 10 * n + i + 1 = 90 ∧ n < m 236 2 ∧ i ≤ 6 ∧ m 236 (11 + n) = q ∧ w_fit (m 236) e n = true ∧ L = [.ref 234, .int (nI q), .int (nI e), .int (nI (w_liken (m 236) q e n)), .int (nI n), .int (nI (z_sum (fun k => min (m 236 (177 + 6 * n + k)) (m 236 (87 + 6 * e + k))) i)), .int (nI i)]))) 0 ?_ 90 4 _ _ ⟨rfl, Or.inl ⟨0, _, _, rfl, by omega, by omega, rfl⟩⟩ _ (z_fu (by omega))
  rintro k t L h ⟨rfl, ⟨n, u, v, rfl, hk, hn, rfl⟩ | ⟨n, i, rfl, hk, hn, hi, c1, c2, rfl⟩⟩ f _
  · rw [l_Mo_likesOf_4, q_Mo_likesOf_4]
    by_cases hn2 : n = m 236 2
    · left
      subst hn2
      simp (disch := omega) only [↓bc_234, ↓br_234_6, ↓bc_236, ↓bx_236, bl_236, ↓b_t0, ↓b_t1, ↓b_t2, ↓b_t3, ↓b_t4, ↓b_t5, ↓b_t6, Nat.zero_add, Nat.le_refl, b_rs, b_rn, b_r2, b_ss, b_sn, b_bt, b_bf, b_b0, b_b1, b_bw, b_shl, b_or, b_iv, b_jv, b_sI, b_sJ, ↓z_hl, z_b0, z_b1, z_b2, b_and1c, b_and1z, if_true, if_false, nI_add, pk_mul, b_cl, b_lt, b_le, b_eq, b_eq0, b_le0, b_0lt, b_0le, b_lt0]
      rfl
    · right
      have h1 := i_S_wh hS n (by omega)
      by_cases c1 : m 236 (11 + n) = q
      · by_cases c2 : w_fit (m 236) e n = true
        · refine ⟨k - 1, 28, _, _, by omega, ⟨rfl, Or.inr ⟨n, 0, rfl, by omega, by omega, by omega, c1, c2, rfl⟩⟩, Or.inr ?_⟩
          simp (disch := omega) only [s_Mo_doesFit hS hI, c1, c2, ↓bc_234, ↓br_234_6, ↓bc_236, ↓bx_236, bl_236, ↓b_t0, ↓b_t1, ↓b_t2, ↓b_t3, ↓b_t4, ↓b_t5, ↓b_t6, Nat.zero_add, Nat.le_refl, b_rs, b_rn, b_r2, b_ss, b_sn, b_bt, b_bf, b_b0, b_b1, b_bw, b_shl, b_or, b_iv, b_jv, b_sI, b_sJ, ↓z_hl, z_b0, z_b1, z_b2, b_and1c, b_and1z, if_true, if_false, nI_add, pk_mul, b_cl, b_lt, b_le, b_eq, b_eq0, b_le0, b_0lt, b_0le, b_lt0]
          rw [if_neg (by omega), if_neg (by decide), ← l_Mo_likesOf_28]
          rfl
        · refine ⟨k - 10, 4, _, _, by omega, ⟨rfl, Or.inl ⟨n + 1, u, v, rfl, by omega, by omega, rfl⟩⟩, Or.inl ?_⟩
          simp (disch := omega) only [s_Mo_doesFit hS hI, c1, Bool.eq_false_iff.mpr c2, ↓bc_234, ↓br_234_6, ↓bc_236, ↓bx_236, bl_236, ↓b_t0, ↓b_t1, ↓b_t2, ↓b_t3, ↓b_t4, ↓b_t5, ↓b_t6, Nat.zero_add, Nat.le_refl, b_rs, b_rn, b_r2, b_ss, b_sn, b_bt, b_bf, b_b0, b_b1, b_bw, b_shl, b_or, b_iv, b_jv, b_sI, b_sJ, ↓z_hl, z_b0, z_b1, z_b2, b_and1c, b_and1z, if_true, if_false, nI_add, pk_mul, b_cl, b_lt, b_le, b_eq, b_eq0, b_le0, b_0lt, b_0le, b_lt0]
          rw [if_neg (by omega)]
          show _ = a_go X tx (a_ex X tx a_T d) k_Mo_likesOf_0 f 4 [.ref 234, .int (nI q), .int (nI e), .int (nI (if m 236 (11 + n) = q ∧ w_fit (m 236) e n = true then max (w_liken (m 236) q e n) (w_would (m 236) e n) else w_liken (m 236) q e n)), .int (nI (n + 1)), u, v] (b_h m j w)
          rw [if_neg (fun h => c2 h.2)]
      · refine ⟨k - 10, 4, _, _, by omega, ⟨rfl, Or.inl ⟨n + 1, u, v, rfl, by omega, by omega, rfl⟩⟩, Or.inl ?_⟩
        simp (disch := omega) only [↓bc_234, ↓br_234_6, ↓bc_236, ↓bx_236, bl_236, ↓b_t0, ↓b_t1, ↓b_t2, ↓b_t3, ↓b_t4, ↓b_t5, ↓b_t6, Nat.zero_add, Nat.le_refl, b_rs, b_rn, b_r2, b_ss, b_sn, b_bt, b_bf, b_b0, b_b1, b_bw, b_shl, b_or, b_iv, b_jv, b_sI, b_sJ, ↓z_hl, z_b0, z_b1, z_b2, b_and1c, b_and1z, if_true, if_false, nI_add, pk_mul, b_cl, b_lt, b_le, b_eq, b_eq0, b_le0, b_0lt, b_0le, b_lt0]
        rw [if_neg (by omega), if_neg c1]
        show _ = a_go X tx (a_ex X tx a_T d) k_Mo_likesOf_0 f 4 [.ref 234, .int (nI q), .int (nI e), .int (nI (if m 236 (11 + n) = q ∧ w_fit (m 236) e n = true then max (w_liken (m 236) q e n) (w_would (m 236) e n) else w_liken (m 236) q e n)), .int (nI (n + 1)), u, v] (b_h m j w)
        rw [if_neg (fun h => c1 h.1)]
  · rw [l_Mo_likesOf_28, q_Mo_likesOf_28]
    right
    by_cases hi2 : i = 6
    · subst hi2
      have h2 := w_liken_le hS (q := q) (e := e) (by omega) n
      have h3 : z_sum (fun k => min (m 236 (177 + 6 * n + k)) (m 236 (87 + 6 * e + k))) 6 ≤ 54 := w_would_le hS (e := e) (t := n) (by omega)
      refine ⟨k - 3, 4, _, _, by omega, ⟨rfl, Or.inl ⟨n + 1, .int (nI (z_sum (fun k => min (m 236 (177 + 6 * n + k)) (m 236 (87 + 6 * e + k))) 6)), .int (nI 6), rfl, by omega, by omega, rfl⟩⟩, Or.inl ?_⟩
      simp (disch := omega) only [s_Mo_greater, ↓bc_234, ↓br_234_6, ↓bc_236, ↓bx_236, bl_236, ↓b_t0, ↓b_t1, ↓b_t2, ↓b_t3, ↓b_t4, ↓b_t5, ↓b_t6, Nat.zero_add, Nat.le_refl, b_rs, b_rn, b_r2, b_ss, b_sn, b_bt, b_bf, b_b0, b_b1, b_bw, b_shl, b_or, b_iv, b_jv, b_sI, b_sJ, ↓z_hl, z_b0, z_b1, z_b2, b_and1c, b_and1z, if_true, if_false, nI_add, pk_mul, b_cl, b_lt, b_le, b_eq, b_eq0, b_le0, b_0lt, b_0le, b_lt0]
      show _ = a_go X tx (a_ex X tx a_T d) k_Mo_likesOf_0 f 4 [.ref 234, .int (nI q), .int (nI e), .int (nI (if m 236 (11 + n) = q ∧ w_fit (m 236) e n = true then max (w_liken (m 236) q e n) (w_would (m 236) e n) else w_liken (m 236) q e n)), .int (nI (n + 1)), _, _] (b_h m j w)
      rw [if_pos ⟨c1, c2⟩]
      rfl
    · refine ⟨k - 1, 28, _, _, by omega, ⟨rfl, Or.inr ⟨n, i + 1, rfl, by omega, hn, by omega, c1, c2, rfl⟩⟩, Or.inl ?_⟩
      have h2 := i_D_op hI n (by omega) i (by omega)
      have h3 := i_S_cl hS e (by omega) i (by omega)
      simp (disch := omega) only [s_Mo_closed, s_Mo_lesser, ↓bc_234, ↓br_234_6, ↓bc_236, ↓bx_236, bl_236, ↓b_t0, ↓b_t1, ↓b_t2, ↓b_t3, ↓b_t4, ↓b_t5, ↓b_t6, Nat.zero_add, Nat.le_refl, b_rs, b_rn, b_r2, b_ss, b_sn, b_bt, b_bf, b_b0, b_b1, b_bw, b_shl, b_or, b_iv, b_jv, b_sI, b_sJ, ↓z_hl, z_b0, z_b1, z_b2, b_and1c, b_and1z, if_true, if_false, nI_add, pk_mul, b_cl, b_lt, b_le, b_eq, b_eq0, b_le0, b_0lt, b_0le, b_lt0]
      rw [if_neg (by omega)]
      rfl
theorem s_Mo_likes (hS : i_S (m 236)) (hI : i_D (m 236)) (hD : 5 ≤ D) {q e : Nat} (hq : q < 4294967296) (he : e < 4294967296) : a_ex X tx a_T D 283 [.ref 234, .int (nI q), .int (nI e)] (b_h m j w) = some ((b_h (b_r m 234 (b_s (m 234) 0 0)) j w), some (.int (nI (w_qlikes (m 236) q e)))) := by
  obtain ⟨d, rfl⟩ : ∃ d, D = d + 1 := ⟨D - 1, by omega⟩
  rw [e_Mo_likes, q_Mo_likes_0]
  have hS2 : i_S ((b_r m 234 (b_s (m 234) 0 0)) 236) := by rw [b_rn (by decide)]; exact hS
  have hI2 : i_D ((b_r m 234 (b_s (m 234) 0 0)) 236) := by rw [b_rn (by decide)]; exact hI
  have qq : (b_r m 234 (b_s (m 234) 0 0)) 236 = m 236 := b_rn (by decide)
  have q0 : (b_r m 234 (b_s (m 234) 0 0)) 236 0 = m 236 0 := by rw [qq]
  have q1 : (b_r m 234 (b_s (m 234) 0 0)) 236 1 = m 236 1 := by rw [qq]
  have q2 : (b_r m 234 (b_s (m 234) 0 0)) 236 2 = m 236 2 := by rw [qq]
  have q3 : (b_r m 234 (b_s (m 234) 0 0)) 236 3 = m 236 3 := by rw [qq]
  have hK := i_S_K hS
  have hM := i_S_M hS
  have hT := i_S_T hS
  have hE := i_S_E hS
  unfold w_qlikes
  by_cases c1 : q < m 236 1
  · by_cases c2 : e < m 236 3
    · by_cases c3 : m 236 (241 + e) = 4294967295
      · rw [if_neg (fun h => h.2.2 c3)]
        simp (disch := omega) only [s_Mo_isEnding hS2, s_Mo_isMan hS2, s_Mo_isPut hS2 hI2, decide_eq_false_iff_not, ↓bc_234, ↓b_t0, ↓b_t1, ↓b_t2, ↓b_t3, ↓b_t4, ↓b_t5, ↓b_t6, Nat.zero_add, Nat.le_refl, b_rs, b_rn, b_r2, b_ss, b_sn, b_bt, b_bf, b_b0, b_b1, b_bw, b_shl, b_or, b_iv, b_jv, b_sI, b_sJ, ↓z_hl, z_b0, z_b1, z_b2, b_and1c, b_and1z, if_true, if_false, nI_add, pk_mul, b_cl, b_lt, b_le, b_eq, b_eq0, b_le0, b_0lt, b_0le, b_lt0]
        rw [if_neg (fun h => h c1), if_neg (fun h => h c2), if_neg (fun h => h c3)]
      · rw [if_pos ⟨c1, c2, c3⟩]
        simp (disch := omega) only [s_Mo_isEnding hS2, s_Mo_isMan hS2, s_Mo_isPut hS2 hI2, s_Mo_likesOf hS2 hI2, decide_eq_false_iff_not, ↓bc_234, ↓b_t0, ↓b_t1, ↓b_t2, ↓b_t3, ↓b_t4, ↓b_t5, ↓b_t6, Nat.zero_add, Nat.le_refl, b_rs, b_rn, b_r2, b_ss, b_sn, b_bt, b_bf, b_b0, b_b1, b_bw, b_shl, b_or, b_iv, b_jv, b_sI, b_sJ, ↓z_hl, z_b0, z_b1, z_b2, b_and1c, b_and1z, if_true, if_false, nI_add, pk_mul, b_cl, b_lt, b_le, b_eq, b_eq0, b_le0, b_0lt, b_0le, b_lt0]
        rw [if_neg (fun h => h c1), if_neg (fun h => h c2), if_pos c3]
    · rw [if_neg (fun h => c2 h.2.1)]
      simp (disch := omega) only [s_Mo_isEnding hS2, s_Mo_isMan hS2, decide_eq_false_iff_not, ↓bc_234, ↓b_t0, ↓b_t1, ↓b_t2, ↓b_t3, ↓b_t4, ↓b_t5, ↓b_t6, Nat.zero_add, Nat.le_refl, b_rs, b_rn, b_r2, b_ss, b_sn, b_bt, b_bf, b_b0, b_b1, b_bw, b_shl, b_or, b_iv, b_jv, b_sI, b_sJ, ↓z_hl, z_b0, z_b1, z_b2, b_and1c, b_and1z, if_true, if_false, nI_add, pk_mul, b_cl, b_lt, b_le, b_eq, b_eq0, b_le0, b_0lt, b_0le, b_lt0]
      rw [if_neg (fun h => h c1), if_pos c2]
  · rw [if_neg (fun h => c1 h.1)]
    simp (disch := omega) only [s_Mo_isMan hS2, decide_eq_false_iff_not, ↓bc_234, ↓b_t0, ↓b_t1, ↓b_t2, ↓b_t3, ↓b_t4, ↓b_t5, ↓b_t6, Nat.zero_add, Nat.le_refl, b_rs, b_rn, b_r2, b_ss, b_sn, b_bt, b_bf, b_b0, b_b1, b_bw, b_shl, b_or, b_iv, b_jv, b_sI, b_sJ, ↓z_hl, z_b0, z_b1, z_b2, b_and1c, b_and1z, if_true, if_false, nI_add, pk_mul, b_cl, b_lt, b_le, b_eq, b_eq0, b_le0, b_0lt, b_0le, b_lt0]
    rw [if_pos c1]
theorem s_Mo_dark (hS : i_S (m 236)) (hI : i_D (m 236)) (hD : 3 ≤ D) : a_ex X tx a_T D 291 [.ref 234] (b_h m j w) = some ((b_h (b_r m 234 (b_s (m 234) 0 0)) j w), some (.int (nI (w_waits (m 236))))) := by
  obtain ⟨d, rfl⟩ : ∃ d, D = d + 1 := ⟨D - 1, by omega⟩
  rw [e_Mo_dark, q_Mo_dark_0]
  have hS2 : i_S ((b_r m 234 (b_s (m 234) 0 0)) 236) := by rw [b_rn (by decide)]; exact hS
  have hI2 : i_D ((b_r m 234 (b_s (m 234) 0 0)) 236) := by rw [b_rn (by decide)]; exact hI
  have qq : (b_r m 234 (b_s (m 234) 0 0)) 236 = m 236 := b_rn (by decide)
  have q0 : (b_r m 234 (b_s (m 234) 0 0)) 236 0 = m 236 0 := by rw [qq]
  have q1 : (b_r m 234 (b_s (m 234) 0 0)) 236 1 = m 236 1 := by rw [qq]
  have q2 : (b_r m 234 (b_s (m 234) 0 0)) 236 2 = m 236 2 := by rw [qq]
  have q3 : (b_r m 234 (b_s (m 234) 0 0)) 236 3 = m 236 3 := by rw [qq]
  have hK := i_S_K hS
  have hM := i_S_M hS
  have hT := i_S_T hS
  have hE := i_S_E hS
  have hw := i_D_we hI
  simp (disch := omega) only [↓bc_234, ↓br_234_6, ↓bc_236, ↓bx_236, bl_236, ↓b_t0, ↓b_t1, ↓b_t2, ↓b_t3, ↓b_t4, ↓b_t5, ↓b_t6, Nat.zero_add, Nat.le_refl, b_rs, b_rn, b_r2, b_ss, b_sn, b_bt, b_bf, b_b0, b_b1, b_bw, b_shl, b_or, b_iv, b_jv, b_sI, b_sJ, ↓z_hl, z_b0, z_b1, z_b2, b_and1c, b_and1z, if_true, if_false, nI_add, pk_mul, b_cl, b_lt, b_le, b_eq, b_eq0, b_le0, b_0lt, b_0le, b_lt0]
  rw [← l_Mo_dark_7]
  refine z_loop (fun n => [.ref 234, .int (nI (z_set (fun e => w_wait (m 236) e) n)), .int (nI n)]) (fun n => b_h (b_r m 234 (b_s (m 234) 0 0)) j w) (m 236 3) 0 ?_ ?_ _ (z_fu (by omega))
  · intro n hn f _
    rw [l_Mo_dark_7, q_Mo_dark_7]
    have h1 := i_S_fd hS n (by omega)
    simp (disch := omega) only [s_Mo_isPut hS2 hI2, s_Mo_bitOf, decide_eq_false_iff_not, ↓bc_234, ↓br_234_6, ↓bc_236, ↓bx_236, bl_236, ↓b_t0, ↓b_t1, ↓b_t2, ↓b_t3, ↓b_t4, ↓b_t5, ↓b_t6, Nat.zero_add, Nat.le_refl, b_rs, b_rn, b_r2, b_ss, b_sn, b_bt, b_bf, b_b0, b_b1, b_bw, b_shl, b_or, b_iv, b_jv, b_sI, b_sJ, ↓z_hl, z_b0, z_b1, z_b2, b_and1c, b_and1z, if_true, if_false, nI_add, pk_mul, b_cl, b_lt, b_le, b_eq, b_eq0, b_le0, b_0lt, b_0le, b_lt0]
    rw [if_neg (by omega)]
    by_cases c1 : m 236 (147 + n) = 0
    · rw [if_pos c1, z_set_f (by unfold w_wait; simp [c1]), Nat.or_zero]
    · rw [if_neg c1]
      by_cases c2 : m 236 (241 + n) = 4294967295
      · rw [if_neg (fun h => h c2)]
        by_cases c3 : (m 236 281).testBit n = false
        · rw [if_pos c3, z_set_t (by unfold w_wait; simp [c2, c3, Nat.pos_of_ne_zero c1])]
        · rw [if_neg c3, z_set_f (by unfold w_wait; simp [show (m 236 281).testBit n = true by simpa using c3]), Nat.or_zero]
      · rw [if_pos c2, z_set_f (by unfold w_wait; simp [c2]), Nat.or_zero]
  · intro f _
    rw [l_Mo_dark_7, q_Mo_dark_7]
    simp (disch := omega) only [↓bc_234, ↓br_234_6, ↓bc_236, ↓bx_236, bl_236, ↓b_t0, ↓b_t1, ↓b_t2, ↓b_t3, ↓b_t4, ↓b_t5, ↓b_t6, Nat.zero_add, Nat.le_refl, b_rs, b_rn, b_r2, b_ss, b_sn, b_bt, b_bf, b_b0, b_b1, b_bw, b_shl, b_or, b_iv, b_jv, b_sI, b_sJ, ↓z_hl, z_b0, z_b1, z_b2, b_and1c, b_and1z, if_true, if_false, nI_add, pk_mul, b_cl, b_lt, b_le, b_eq, b_eq0, b_le0, b_0lt, b_0le, b_lt0]
    rfl
theorem s_Mo_cheapest (hS : i_S (m 236)) (hI : i_D (m 236)) (hD : 4 ≤ D) {t : Nat} (ht : t < 4294967296) : a_ex X tx a_T D 292 [.ref 234, .int (nI t)] (b_h m j w) = some ((b_h (b_r m 234 (b_s (m 234) 0 0)) j w), some (.int (nI (w_qcheap (m 236) t)))) := by
  obtain ⟨d, rfl⟩ : ∃ d, D = d + 1 := ⟨D - 1, by omega⟩
  rw [e_Mo_cheapest, q_Mo_cheapest_0]
  have hS2 : i_S ((b_r m 234 (b_s (m 234) 0 0)) 236) := by rw [b_rn (by decide)]; exact hS
  have hI2 : i_D ((b_r m 234 (b_s (m 234) 0 0)) 236) := by rw [b_rn (by decide)]; exact hI
  have qq : (b_r m 234 (b_s (m 234) 0 0)) 236 = m 236 := b_rn (by decide)
  have q0 : (b_r m 234 (b_s (m 234) 0 0)) 236 0 = m 236 0 := by rw [qq]
  have q1 : (b_r m 234 (b_s (m 234) 0 0)) 236 1 = m 236 1 := by rw [qq]
  have q2 : (b_r m 234 (b_s (m 234) 0 0)) 236 2 = m 236 2 := by rw [qq]
  have q3 : (b_r m 234 (b_s (m 234) 0 0)) 236 3 = m 236 3 := by rw [qq]
  have hK := i_S_K hS
  have hM := i_S_M hS
  have hT := i_S_T hS
  have hE := i_S_E hS
  unfold w_qcheap
  by_cases c1 : t < m 236 2
  · rw [if_pos c1]
    simp (disch := omega) only [s_Mo_isThing hS2, decide_eq_false_iff_not, ↓bc_234, ↓br_234_6, ↓bc_236, ↓bx_236, bl_236, ↓b_t0, ↓b_t1, ↓b_t2, ↓b_t3, ↓b_t4, ↓b_t5, ↓b_t6, Nat.zero_add, Nat.le_refl, b_rs, b_rn, b_r2, b_ss, b_sn, b_bt, b_bf, b_b0, b_b1, b_bw, b_shl, b_or, b_iv, b_jv, b_sI, b_sJ, ↓z_hl, z_b0, z_b1, z_b2, b_and1c, b_and1z, if_true, if_false, nI_add, pk_mul, b_cl, b_lt, b_le, b_eq, b_eq0, b_le0, b_0lt, b_0le, b_lt0]
    rw [if_neg (fun h => h c1), ← l_Mo_cheapest_13]
    refine z_loop (fun n => [.ref 234, .int (nI t), .int (nI (w_cheapn (m 236) t n)), .int (nI n)]) (fun n => b_h (b_r m 234 (b_s (m 234) 0 0)) j w) (m 236 3) 0 ?_ ?_ _ (z_fu (by omega))
    · intro n hn f _
      rw [l_Mo_cheapest_13, q_Mo_cheapest_13]
      have h5 := i_S_wh hS t c1
      have h6 := i_hlt hS hI hn
      have h8 := i_D_pr hI n (by omega)
      have h9 := w_cheapn_lt (s := m 236) (t := t) n
      show _ = a_go X tx (a_ex X tx a_T d) k_Mo_cheapest_0 f 13 [.ref 234, .int (nI t), .int (nI (if w_fit (m 236) n t = true ∧ m 236 (241 + n) ≠ m 236 (11 + t) ∧ (w_cheapn (m 236) t n = 4294967295 ∨ m 236 (251 + n) < m 236 (251 + w_cheapn (m 236) t n)) then n else w_cheapn (m 236) t n)), .int (nI (n + 1))] _
      by_cases d1 : w_fit (m 236) n t = true
      · by_cases d2 : m 236 (241 + n) = m 236 (11 + t)
        · simp (disch := omega) only [s_Mo_doesFit hS2 hI2, d1, d2, ↓bc_234, ↓br_234_6, ↓bc_236, ↓bx_236, bl_236, ↓b_t0, ↓b_t1, ↓b_t2, ↓b_t3, ↓b_t4, ↓b_t5, ↓b_t6, Nat.zero_add, Nat.le_refl, b_rs, b_rn, b_r2, b_ss, b_sn, b_bt, b_bf, b_b0, b_b1, b_bw, b_shl, b_or, b_iv, b_jv, b_sI, b_sJ, ↓z_hl, z_b0, z_b1, z_b2, b_and1c, b_and1z, if_true, if_false, nI_add, pk_mul, b_cl, b_lt, b_le, b_eq, b_eq0, b_le0, b_0lt, b_0le, b_lt0]
          rw [if_neg (by omega), if_neg (by decide), if_neg (fun h => h.2.1 rfl)]
        · by_cases d3 : w_cheapn (m 236) t n = 4294967295
          · have e1 : (nI 4294967295 < 0) = True := b_lt0n (by decide) (by decide)
            simp (disch := omega) only [s_Mo_doesFit hS2 hI2, d1, d3, e1, ↓bc_234, ↓br_234_6, ↓bc_236, ↓bx_236, bl_236, ↓b_t0, ↓b_t1, ↓b_t2, ↓b_t3, ↓b_t4, ↓b_t5, ↓b_t6, Nat.zero_add, Nat.le_refl, b_rs, b_rn, b_r2, b_ss, b_sn, b_bt, b_bf, b_b0, b_b1, b_bw, b_shl, b_or, b_iv, b_jv, b_sI, b_sJ, ↓z_hl, z_b0, z_b1, z_b2, b_and1c, b_and1z, if_true, if_false, nI_add, pk_mul, b_cl, b_lt, b_le, b_eq, b_eq0, b_le0, b_0lt, b_0le, b_lt0]
            rw [if_neg (by omega), if_neg (by decide), if_neg d2, if_pos ⟨trivial, d2, Or.inl trivial⟩]
          · have h12 := i_D_pr hI (w_cheapn (m 236) t n) (by omega)
            simp (disch := omega) only [s_Mo_doesFit hS2 hI2, d1, ↓bc_234, ↓br_234_6, ↓bc_236, ↓bx_236, bl_236, ↓b_t0, ↓b_t1, ↓b_t2, ↓b_t3, ↓b_t4, ↓b_t5, ↓b_t6, Nat.zero_add, Nat.le_refl, b_rs, b_rn, b_r2, b_ss, b_sn, b_bt, b_bf, b_b0, b_b1, b_bw, b_shl, b_or, b_iv, b_jv, b_sI, b_sJ, ↓z_hl, z_b0, z_b1, z_b2, b_and1c, b_and1z, if_true, if_false, nI_add, pk_mul, b_cl, b_lt, b_le, b_eq, b_eq0, b_le0, b_0lt, b_0le, b_lt0]
            rw [if_neg (by omega), if_neg (by decide), if_neg d2]
            by_cases d4 : m 236 (251 + n) < m 236 (251 + w_cheapn (m 236) t n)
            · rw [if_neg (by omega), if_pos ⟨trivial, d2, Or.inr d4⟩]
            · rw [if_pos (by omega), if_neg (fun h => h.2.2.elim d3 d4)]
      · simp (disch := omega) only [s_Mo_doesFit hS2 hI2, Bool.eq_false_iff.mpr d1, ↓bc_234, ↓br_234_6, ↓bc_236, ↓bx_236, bl_236, ↓b_t0, ↓b_t1, ↓b_t2, ↓b_t3, ↓b_t4, ↓b_t5, ↓b_t6, Nat.zero_add, Nat.le_refl, b_rs, b_rn, b_r2, b_ss, b_sn, b_bt, b_bf, b_b0, b_b1, b_bw, b_shl, b_or, b_iv, b_jv, b_sI, b_sJ, ↓z_hl, z_b0, z_b1, z_b2, b_and1c, b_and1z, if_true, if_false, nI_add, pk_mul, b_cl, b_lt, b_le, b_eq, b_eq0, b_le0, b_0lt, b_0le, b_lt0]
        rw [if_neg (by omega), if_neg (fun h => by cases h.1)]
    · intro f _
      rw [l_Mo_cheapest_13, q_Mo_cheapest_13]
      simp (disch := omega) only [↓bc_234, ↓br_234_6, ↓bc_236, ↓bx_236, bl_236, ↓b_t0, ↓b_t1, ↓b_t2, ↓b_t3, ↓b_t4, ↓b_t5, ↓b_t6, Nat.zero_add, Nat.le_refl, b_rs, b_rn, b_r2, b_ss, b_sn, b_bt, b_bf, b_b0, b_b1, b_bw, b_shl, b_or, b_iv, b_jv, b_sI, b_sJ, ↓z_hl, z_b0, z_b1, z_b2, b_and1c, b_and1z, if_true, if_false, nI_add, pk_mul, b_cl, b_lt, b_le, b_eq, b_eq0, b_le0, b_0lt, b_0le, b_lt0]
  · rw [if_neg c1]
    simp (disch := omega) only [s_Mo_isThing hS2, decide_eq_false_iff_not, ↓bc_234, ↓br_234_6, ↓bc_236, ↓bx_236, bl_236, ↓b_t0, ↓b_t1, ↓b_t2, ↓b_t3, ↓b_t4, ↓b_t5, ↓b_t6, Nat.zero_add, Nat.le_refl, b_rs, b_rn, b_r2, b_ss, b_sn, b_bt, b_bf, b_b0, b_b1, b_bw, b_shl, b_or, b_iv, b_jv, b_sI, b_sJ, ↓z_hl, z_b0, z_b1, z_b2, b_and1c, b_and1z, if_true, if_false, nI_add, pk_mul, b_cl, b_lt, b_le, b_eq, b_eq0, b_le0, b_0lt, b_0le, b_lt0]
    rw [if_pos c1]
end MQ
