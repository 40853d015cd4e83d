/-! THE REFERENCE: small methods -/
theorem s_Mo_isIn {X : Nat × (Nat → Int32)} {tx : List Int32} {D : Nat} {m j : Nat → Nat → Nat} {w : (Nat × Nat) × Bool} (hD : 1 ≤ D) {n lo hi : Nat} (hn : n < 4294967296) (hl : lo < 2147483648) (hh : hi < 2147483648) : a_ex X tx a_T D 201 [.int (nI n), .int (nI lo), .int (nI hi)] (b_h m j w) = some ((b_h m j w), some (.int (nI (b_b (decide (lo ≤ n ∧ n ≤ hi)))))) := by
  obtain ⟨d, rfl⟩ : ∃ d, D = d + 1 := ⟨D - 1, by omega⟩
  rw [e_Mo_isIn, q_Mo_isIn_0]
  by_cases h : n < 2147483648
  · simp (disch := omega) only [↓b_t0, ↓b_t1, ↓b_t2, ↓b_t3, ↓b_t4, ↓b_t5, ↓b_t6, Nat.zero_add, Nat.le_refl, b_rs, b_rn, b_r2, b_ss, b_sn, b_bt, b_bf, b_b0, b_b1, b_bw, b_shl, b_or, b_iv, b_jv, b_sI, b_sJ, ↓z_hl, z_b0, z_b1, z_b2, b_and1c, b_and1z, if_true, if_false, nI_add, pk_mul, b_cl, b_lt, b_le, b_eq, b_eq0, b_le0, b_0lt, b_0le, b_lt0]
    split
    · rw [decide_eq_false (by omega)]; rfl
    · split
      · rw [decide_eq_false (by omega)]; rfl
      · rw [decide_eq_true (by omega)]; rfl
  · rw [if_pos (by rw [b_ltn (by omega) hn hl]; trivial), decide_eq_false (by omega)]
    rfl
theorem s_Mo_isIn1 {X : Nat × (Nat → Int32)} {tx : List Int32} {D : Nat} {m j : Nat → Nat → Nat} {w : (Nat × Nat) × Bool} (hD : 1 ≤ D) {n k : Nat} (hn : n < 4294967296) (hk : k < 2147483648) : a_ex X tx a_T D 201 [.int (nI n), .int (nI 0), .int (nI k - nI 1)] (b_h m j w) = some ((b_h m j w), some (.int (nI (b_b (decide (n < k)))))) := by
  by_cases h0 : k = 0
  · subst h0
    rw [b_pred0]
    obtain ⟨d, rfl⟩ : ∃ d, D = d + 1 := ⟨D - 1, by omega⟩
    rw [e_Mo_isIn, q_Mo_isIn_0]
    by_cases h : n < 2147483648
    · rw [if_neg (by rw [b_lt h (by decide)]; omega), if_pos (by rw [b_ltn (by decide) (by decide) h]; trivial)]
      rfl
    · rw [if_pos (by rw [b_ltn (by omega) hn (by decide)]; trivial), decide_eq_false (by omega)]
      rfl
  · rw [b_sub (by omega), s_Mo_isIn hD hn (by decide) (by omega)]
    have : decide (0 ≤ n ∧ n ≤ k - 1) = decide (n < k) := by
      rw [Bool.eq_iff_iff, decide_eq_true_eq, decide_eq_true_eq]; omega
    rw [this]
theorem s_Mo_bitOf {X : Nat × (Nat → Int32)} {tx : List Int32} {D : Nat} {m j : Nat → Nat → Nat} {w : (Nat × Nat) × Bool} (hD : 1 ≤ D) {S i : Nat} (hs : S < 2147483648) (hi : i < 32) : a_ex X tx a_T D 202 [.int (nI S), .int (nI i)] (b_h m j w) = some ((b_h m j w), some (.int (nI (b_b (S.testBit i))))) := by
  obtain ⟨d, rfl⟩ : ∃ d, D = d + 1 := ⟨D - 1, by omega⟩
  rw [e_Mo_bitOf, q_Mo_bitOf_0]
  by_cases h : S.testBit i = true
  · rw [if_pos (by rw [b_bit1 hs hi]; exact h), h]; rfl
  · rw [if_neg (by rw [b_bit1 hs hi]; exact h), Bool.eq_false_iff.mpr h]; rfl
theorem s_Mo_lesser {X : Nat × (Nat → Int32)} {tx : List Int32} {D : Nat} {m j : Nat → Nat → Nat} {w : (Nat × Nat) × Bool} (hD : 1 ≤ D) {a b : Nat} (ha : a < 2147483648) (hb : b < 2147483648) : a_ex X tx a_T D 203 [.int (nI a), .int (nI b)] (b_h m j w) = some ((b_h m j w), some (.int (nI (min a b)))) := by
  obtain ⟨d, rfl⟩ : ∃ d, D = d + 1 := ⟨D - 1, by omega⟩
  rw [e_Mo_lesser, q_Mo_lesser_0]
  simp (disch := omega) only [↓b_t0, ↓b_t1, ↓b_t2, ↓b_t3, ↓b_t4, ↓b_t5, ↓b_t6, Nat.zero_add, Nat.le_refl, b_rs, b_rn, b_r2, b_ss, b_sn, b_bt, b_bf, b_b0, b_b1, b_bw, b_shl, b_or, b_iv, b_jv, b_sI, b_sJ, ↓z_hl, z_b0, z_b1, z_b2, b_and1c, b_and1z, if_true, if_false, nI_add, pk_mul, b_cl, b_lt, b_le, b_eq, b_eq0, b_le0, b_0lt, b_0le, b_lt0]
  split
  · rw [Nat.min_eq_right (by omega)]
  · rw [Nat.min_eq_left (by omega)]
theorem s_Mo_greater {X : Nat × (Nat → Int32)} {tx : List Int32} {D : Nat} {m j : Nat → Nat → Nat} {w : (Nat × Nat) × Bool} (hD : 1 ≤ D) {a b : Nat} (ha : a < 2147483648) (hb : b < 2147483648) : a_ex X tx a_T D 204 [.int (nI a), .int (nI b)] (b_h m j w) = some ((b_h m j w), some (.int (nI (max a b)))) := by
  obtain ⟨d, rfl⟩ : ∃ d, D = d + 1 := ⟨D - 1, by omega⟩
  rw [e_Mo_greater, q_Mo_greater_0]
  simp (disch := omega) only [↓b_t0, ↓b_t1, ↓b_t2, ↓b_t3, ↓b_t4, ↓b_t5, ↓b_t6, Nat.zero_add, Nat.le_refl, b_rs, b_rn, b_r2, b_ss, b_sn, b_bt, b_bf, b_b0, b_b1, b_bw, b_shl, b_or, b_iv, b_jv, b_sI, b_sJ, ↓z_hl, z_b0, z_b1, z_b2, b_and1c, b_and1z, if_true, if_false, nI_add, pk_mul, b_cl, b_lt, b_le, b_eq, b_eq0, b_le0, b_0lt, b_0le, b_lt0]
  split
  · rw [Nat.max_eq_right (by omega)]
  · rw [Nat.max_eq_left (by omega)]
theorem s_Mo_thrown {X : Nat × (Nat → Int32)} {tx : List Int32} {D : Nat} {m j : Nat → Nat → Nat} {w : (Nat × Nat) × Bool} (hD : 1 ≤ D) : a_ex X tx a_T D 195 [.ref 234] (b_h m j w) = some ((b_h m j w), some (.int (nI (m 234 0)))) := by
  obtain ⟨d, rfl⟩ : ∃ d, D = d + 1 := ⟨D - 1, by omega⟩
  rw [e_Mo_thrown, q_Mo_thrown_0]
  simp (disch := omega) only [↓bc_234, ↓b_t0, ↓b_t1, ↓b_t2, ↓b_t3, ↓b_t4, ↓b_t5, ↓b_t6, Nat.zero_add, Nat.le_refl, b_rs, b_rn, b_r2, b_ss, b_sn, b_bt, b_bf, b_b0, b_b1, b_bw, b_shl, b_or, b_iv, b_jv, b_sI, b_sJ, ↓z_hl, z_b0, z_b1, z_b2, b_and1c, b_and1z, if_true, if_false, nI_add, pk_mul, b_cl, b_lt, b_le, b_eq, b_eq0, b_le0, b_0lt, b_0le, b_lt0]
theorem s_Mo_throwsIf {X : Nat × (Nat → Int32)} {tx : List Int32} {D : Nat} {m j : Nat → Nat → Nat} {w : (Nat × Nat) × Bool} (hD : 1 ≤ D) {c : Bool} : a_ex X tx a_T D 196 [.ref 234, .int (nI (b_b c))] (b_h m j w) = some ((b_h (b_r m 234 (b_s (m 234) 0 (b_b c))) j w), some (.int (nI (b_b (c))))) := by
  obtain ⟨d, rfl⟩ : ∃ d, D = d + 1 := ⟨D - 1, by omega⟩
  rw [e_Mo_throwsIf, q_Mo_throwsIf_0]
  simp (disch := omega) only [↓bc_234, ↓b_t0, ↓b_t1, ↓b_t2, ↓b_t3, ↓b_t4, ↓b_t5, ↓b_t6, Nat.zero_add, Nat.le_refl, b_rs, b_rn, b_r2, b_ss, b_sn, b_bt, b_bf, b_b0, b_b1, b_bw, b_shl, b_or, b_iv, b_jv, b_sI, b_sJ, ↓z_hl, z_b0, z_b1, z_b2, b_and1c, b_and1z, if_true, if_false, nI_add, pk_mul, b_cl, b_lt, b_le, b_eq, b_eq0, b_le0, b_0lt, b_0le, b_lt0]
  cases c <;> rfl
theorem s_Mo_isKind {X : Nat × (Nat → Int32)} {tx : List Int32} {D : Nat} {m j : Nat → Nat → Nat} {w : (Nat × Nat) × Bool} (hS : i_S (m 236)) (hD : 2 ≤ D) {n : Nat} (hn : n < 4294967296) : a_ex X tx a_T D 227 [.ref 234, .int (nI n)] (b_h m j w) = some ((b_h m j w), some (.int (nI (b_b (decide (n < m 236 0)))))) := by
  obtain ⟨d, rfl⟩ : ∃ d, D = d + 1 := ⟨D - 1, by omega⟩
  rw [e_Mo_isKind, q_Mo_isKind_0]
  have := i_S_K hS
  simp (disch := omega) only [s_Mo_isIn1, ↓bc_234, ↓br_234_6, ↓bc_236, ↓bx_236, bl_236, ↓b_t0, ↓b_t1, ↓b_t2, ↓b_t3, ↓b_t4, ↓b_t5, ↓b_t6, Nat.zero_add, Nat.le_refl, b_rs, b_rn, b_r2, b_ss, b_sn, b_bt, b_bf, b_b0, b_b1, b_bw, b_shl, b_or, b_iv, b_jv, b_sI, b_sJ, ↓z_hl, z_b0, z_b1, z_b2, b_and1c, b_and1z, if_true, if_false, nI_add, pk_mul, b_cl, b_lt, b_le, b_eq, b_eq0, b_le0, b_0lt, b_0le, b_lt0]
theorem s_Mo_isMan {X : Nat × (Nat → Int32)} {tx : List Int32} {D : Nat} {m j : Nat → Nat → Nat} {w : (Nat × Nat) × Bool} (hS : i_S (m 236)) (hD : 2 ≤ D) {n : Nat} (hn : n < 4294967296) : a_ex X tx a_T D 228 [.ref 234, .int (nI n)] (b_h m j w) = some ((b_h m j w), some (.int (nI (b_b (decide (n < m 236 1)))))) := by
  obtain ⟨d, rfl⟩ : ∃ d, D = d + 1 := ⟨D - 1, by omega⟩
  rw [e_Mo_isMan, q_Mo_isMan_0]
  have := i_S_M hS
  simp (disch := omega) only [s_Mo_isIn1, ↓bc_234, ↓br_234_6, ↓bc_236, ↓bx_236, bl_236, ↓b_t0, ↓b_t1, ↓b_t2, ↓b_t3, ↓b_t4, ↓b_t5, ↓b_t6, Nat.zero_add, Nat.le_refl, b_rs, b_rn, b_r2, b_ss, b_sn, b_bt, b_bf, b_b0, b_b1, b_bw, b_shl, b_or, b_iv, b_jv, b_sI, b_sJ, ↓z_hl, z_b0, z_b1, z_b2, b_and1c, b_and1z, if_true, if_false, nI_add, pk_mul, b_cl, b_lt, b_le, b_eq, b_eq0, b_le0, b_0lt, b_0le, b_lt0]
theorem s_Mo_isThing {X : Nat × (Nat → Int32)} {tx : List Int32} {D : Nat} {m j : Nat → Nat → Nat} {w : (Nat × Nat) × Bool} (hS : i_S (m 236)) (hD : 2 ≤ D) {n : Nat} (hn : n < 4294967296) : a_ex X tx a_T D 229 [.ref 234, .int (nI n)] (b_h m j w) = some ((b_h m j w), some (.int (nI (b_b (decide (n < m 236 2)))))) := by
  obtain ⟨d, rfl⟩ : ∃ d, D = d + 1 := ⟨D - 1, by omega⟩
  rw [e_Mo_isThing, q_Mo_isThing_0]
  have := i_S_T hS
  simp (disch := omega) only [s_Mo_isIn1, ↓bc_234, ↓br_234_6, ↓bc_236, ↓bx_236, bl_236, ↓b_t0, ↓b_t1, ↓b_t2, ↓b_t3, ↓b_t4, ↓b_t5, ↓b_t6, Nat.zero_add, Nat.le_refl, b_rs, b_rn, b_r2, b_ss, b_sn, b_bt, b_bf, b_b0, b_b1, b_bw, b_shl, b_or, b_iv, b_jv, b_sI, b_sJ, ↓z_hl, z_b0, z_b1, z_b2, b_and1c, b_and1z, if_true, if_false, nI_add, pk_mul, b_cl, b_lt, b_le, b_eq, b_eq0, b_le0, b_0lt, b_0le, b_lt0]
theorem s_Mo_isEnding {X : Nat × (Nat → Int32)} {tx : List Int32} {D : Nat} {m j : Nat → Nat → Nat} {w : (Nat × Nat) × Bool} (hS : i_S (m 236)) (hD : 2 ≤ D) {n : Nat} (hn : n < 4294967296) : a_ex X tx a_T D 230 [.ref 234, .int (nI n)] (b_h m j w) = some ((b_h m j w), some (.int (nI (b_b (decide (n < m 236 3)))))) := by
  obtain ⟨d, rfl⟩ : ∃ d, D = d + 1 := ⟨D - 1, by omega⟩
  rw [e_Mo_isEnding, q_Mo_isEnding_0]
  have := i_S_E hS
  simp (disch := omega) only [s_Mo_isIn1, ↓bc_234, ↓br_234_6, ↓bc_236, ↓bx_236, bl_236, ↓b_t0, ↓b_t1, ↓b_t2, ↓b_t3, ↓b_t4, ↓b_t5, ↓b_t6, Nat.zero_add, Nat.le_refl, b_rs, b_rn, b_r2, b_ss, b_sn, b_bt, b_bf, b_b0, b_b1, b_bw, b_shl, b_or, b_iv, b_jv, b_sI, b_sJ, ↓z_hl, z_b0, z_b1, z_b2, b_and1c, b_and1z, if_true, if_false, nI_add, pk_mul, b_cl, b_lt, b_le, b_eq, b_eq0, b_le0, b_0lt, b_0le, b_lt0]
theorem b_0leD {a : Nat} (h : a = 4294967295 ∨ a < 2147483648) : (0 ≤ nI a) = (a ≠ 4294967295) := by
  rcases h with h | h
  · subst h
    rw [b_0len (by decide) (by decide)]
    simp
  · rw [b_0le h]
    have : a ≠ 4294967295 := by omega
    simp [this]
theorem i_has {s : Nat → Nat} (hS : i_S s) (hI : i_D s) {e : Nat} (he : e < s 3) : s (241 + e) = 4294967295 ∨ s (241 + e) < 2147483648 := by
  have h1 := i_D_ha hI e he
  have h2 := i_S_M hS
  omega
theorem s_Mo_isPut {X : Nat × (Nat → Int32)} {tx : List Int32} {D : Nat} {m j : Nat → Nat → Nat} {w : (Nat × Nat) × Bool} (hS : i_S (m 236)) (hI : i_D (m 236)) (hD : 1 ≤ D) {e : Nat} (he : e < m 236 3) : a_ex X tx a_T D 231 [.ref 234, .int (nI e)] (b_h m j w) = some ((b_h m j w), some (.int (nI (b_b (decide (m 236 (241 + e) = 4294967295)))))) := by
  obtain ⟨d, rfl⟩ : ∃ d, D = d + 1 := ⟨D - 1, by omega⟩
  rw [e_Mo_isPut, q_Mo_isPut_0]
  have := i_S_E hS
  have h1 := i_has hS hI he
  simp (disch := omega) only [b_0leD h1, ↓bc_234, ↓br_234_6, ↓bc_236, ↓bx_236, bl_236, ↓b_t0, ↓b_t1, ↓b_t2, ↓b_t3, ↓b_t4, ↓b_t5, ↓b_t6, Nat.zero_add, Nat.le_refl, b_rs, b_rn, b_r2, b_ss, b_sn, b_bt, b_bf, b_b0, b_b1, b_bw, b_shl, b_or, b_iv, b_jv, b_sI, b_sJ, ↓z_hl, z_b0, z_b1, z_b2, b_and1c, b_and1z, if_true, if_false, nI_add, pk_mul, b_cl, b_lt, b_le, b_eq, b_eq0, b_le0, b_0lt, b_0le, b_lt0]
  split
  · rw [decide_eq_false (by omega)]; rfl
  · rw [decide_eq_true (by omega)]; rfl
theorem s_Mo_closed {X : Nat × (Nat → Int32)} {tx : List Int32} {D : Nat} {m j : Nat → Nat → Nat} {w : (Nat × Nat) × Bool} (hD : 1 ≤ D) {e k : Nat} (he : e < 10) (hk : k < 6) : a_ex X tx a_T D 233 [.ref 234, .int (nI e), .int (nI k)] (b_h m j w) = some ((b_h m j w), some (.int (nI (m 236 (87 + 6 * e + k))))) := by
  obtain ⟨d, rfl⟩ : ∃ d, D = d + 1 := ⟨D - 1, by omega⟩
  rw [e_Mo_closed, q_Mo_closed_0]
  simp (disch := omega) only [↓bc_234, ↓br_234_6, ↓bc_236, ↓bx_236, bl_236, ↓b_t0, ↓b_t1, ↓b_t2, ↓b_t3, ↓b_t4, ↓b_t5, ↓b_t6, Nat.zero_add, Nat.le_refl, b_rs, b_rn, b_r2, b_ss, b_sn, b_bt, b_bf, b_b0, b_b1, b_bw, b_shl, b_or, b_iv, b_jv, b_sI, b_sJ, ↓z_hl, z_b0, z_b1, z_b2, b_and1c, b_and1z, if_true, if_false, nI_add, pk_mul, b_cl, b_lt, b_le, b_eq, b_eq0, b_le0, b_0lt, b_0le, b_lt0]
def w_open (s : Nat → Nat) (t : Nat) : Nat := z_sum (fun k => s (177 + 6 * t + k)) 6
theorem w_open_le {s : Nat → Nat} (hI : i_D s) {t : Nat} (ht : t < 8) : w_open s t ≤ 594 := z_sum_le (b := 99) 6 (fun k hk => i_D_op hI t ht k hk)
theorem s_Mo_openOf {X : Nat × (Nat → Int32)} {tx : List Int32} {D : Nat} {m j : Nat → Nat → Nat} {w : (Nat × Nat) × Bool} (hD : 1 ≤ D) {t : Nat} (ht : t < 8) : a_ex X tx a_T D 232 [.ref 234, .int (nI t)] (b_h m j w) = some ((b_h m j w), some (.int (nI (w_open (m 236) t)))) := by
  obtain ⟨d, rfl⟩ : ∃ d, D = d + 1 := ⟨D - 1, by omega⟩
  rw [e_Mo_openOf, q_Mo_openOf_0]
  rw [← l_Mo_openOf_4]
  refine z_loop (fun n => [.ref 234, .int (nI t), .int (nI (z_sum (fun k => m 236 (177 + 6 * t + k)) n)), .int (nI n)]) (fun n => (b_h m j w)) (6) (0) ?_ ?_ _ (z_fu (by omega))
  · intro n hn f _
    rw [l_Mo_openOf_4, q_Mo_openOf_4]
    simp (disch := omega) only [↓bc_234, ↓br_234_6, ↓bc_236, ↓bx_236, bl_236, ↓b_t0, ↓b_t1, ↓b_t2, ↓b_t3, ↓b_t4, ↓b_t5, ↓b_t6, Nat.zero_add, Nat.le_refl, b_rs, b_rn, b_r2, b_ss, b_sn, b_bt, b_bf, b_b0, b_b1, b_bw, b_shl, b_or, b_iv, b_jv, b_sI, b_sJ, ↓z_hl, z_b0, z_b1, z_b2, b_and1c, b_and1z, if_true, if_false, nI_add, pk_mul, b_cl, b_lt, b_le, b_eq, b_eq0, b_le0, b_0lt, b_0le, b_lt0]
    rw [if_neg (by omega)]
    rfl
  · intro f _
    rw [l_Mo_openOf_4, q_Mo_openOf_4]
    simp (disch := omega) only [↓bc_234, ↓br_234_6, ↓bc_236, ↓bx_236, bl_236, ↓b_t0, ↓b_t1, ↓b_t2, ↓b_t3, ↓b_t4, ↓b_t5, ↓b_t6, Nat.zero_add, Nat.le_refl, b_rs, b_rn, b_r2, b_ss, b_sn, b_bt, b_bf, b_b0, b_b1, b_bw, b_shl, b_or, b_iv, b_jv, b_sI, b_sJ, ↓z_hl, z_b0, z_b1, z_b2, b_and1c, b_and1z, if_true, if_false, nI_add, pk_mul, b_cl, b_lt, b_le, b_eq, b_eq0, b_le0, b_0lt, b_0le, b_lt0]
    try rfl
def w_fitsRow (s : Nat → Nat) (e row : Nat) : Bool := z_all (fun k => decide (s (87 + 6 * e + k) = 0 ∨ s (row + k) ≠ 0)) 6 && z_any (fun k => decide (s (87 + 6 * e + k) ≠ 0)) 6
theorem s_Mo_fitsRow {X : Nat × (Nat → Int32)} {tx : List Int32} {D : Nat} {m j : Nat → Nat → Nat} {w : (Nat × Nat) × Bool} (hS : i_S (m 236)) (hD : 2 ≤ D) {e row : Nat} (he : e < 10) (hr0 : row + 6 ≤ 533) (hr : ∀ k, k < 6 → m 236 (row + k) < 4294967296) : a_ex X tx a_T D 234 [.ref 234, .int (nI e), .int (nI row)] (b_h m j w) = some ((b_h m j w), some (.int (nI (b_b (w_fitsRow (m 236) e row))))) := by
  obtain ⟨d, rfl⟩ : ∃ d, D = d + 1 := ⟨D - 1, by omega⟩
  rw [e_Mo_fitsRow, q_Mo_fitsRow_0]
  rw [← l_Mo_fitsRow_4]
  refine (z_alls (r0 := some ((b_h m j w), some (.int (nI (0))))) (r1 := some ((b_h m j w), some (.int (nI (b_b (z_any (fun k => decide (m 236 (87 + 6 * e + k) ≠ 0)) 6)))))) (fun n => [.ref 234, .int (nI e), .int (nI row), .int (nI (b_b (z_any (fun k => decide (m 236 (87 + 6 * e + k) ≠ 0)) n))), .int (nI n)]) (fun n => (b_h m j w)) (fun k => decide (m 236 (87 + 6 * e + k) = 0 ∨ m 236 (row + k) ≠ 0)) (6) (0) ?_ ?_ _ (z_fu (by omega))).trans ?_
  · intro n hn f _
    rw [l_Mo_fitsRow_4, q_Mo_fitsRow_4]
    have b1 := i_S_cl hS e he n hn
    have b2 := hr n hn
    simp (disch := omega) only [s_Mo_closed, ↓bc_234, ↓br_234_6, ↓bc_236, ↓bx_236, bl_236, ↓b_t0, ↓b_t1, ↓b_t2, ↓b_t3, ↓b_t4, ↓b_t5, ↓b_t6, Nat.zero_add, Nat.le_refl, b_rs, b_rn, b_r2, b_ss, b_sn, b_bt, b_bf, b_b0, b_b1, b_bw, b_shl, b_or, b_iv, b_jv, b_sI, b_sJ, ↓z_hl, z_b0, z_b1, z_b2, b_and1c, b_and1z, if_true, if_false, nI_add, pk_mul, b_cl, b_lt, b_le, b_eq, b_eq0, b_le0, b_0lt, b_0le, b_lt0]
    rw [if_neg (by omega)]
    by_cases h1 : m 236 (87 + 6 * e + n) = 0
    · simp [h1, z_any]
    · by_cases h2 : m 236 (row + n) = 0
      · simp [h1, h2]
      · simp [h1, h2, z_any, b_b]
  · intro f _
    rw [l_Mo_fitsRow_4, q_Mo_fitsRow_4]
    simp (disch := omega) only [↓bc_234, ↓br_234_6, ↓bc_236, ↓bx_236, bl_236, ↓b_t0, ↓b_t1, ↓b_t2, ↓b_t3, ↓b_t4, ↓b_t5, ↓b_t6, Nat.zero_add, Nat.le_refl, b_rs, b_rn, b_r2, b_ss, b_sn, b_bt, b_bf, b_b0, b_b1, b_bw, b_shl, b_or, b_iv, b_jv, b_sI, b_sJ, ↓z_hl, z_b0, z_b1, z_b2, b_and1c, b_and1z, if_true, if_false, nI_add, pk_mul, b_cl, b_lt, b_le, b_eq, b_eq0, b_le0, b_0lt, b_0le, b_lt0]
    try rfl
  · unfold w_fitsRow
    split
    · rename_i h; rw [h, Bool.true_and]
    · rename_i h; rw [Bool.eq_false_iff.mpr h, Bool.false_and]; rfl
def w_fit (s : Nat → Nat) (e t : Nat) : Bool := decide (s (241 + e) ≠ 4294967295) && w_fitsRow s e (177 + 6 * t)
theorem s_Mo_doesFit {X : Nat × (Nat → Int32)} {tx : List Int32} {D : Nat} {m j : Nat → Nat → Nat} {w : (Nat × Nat) × Bool} (hS : i_S (m 236)) (hI : i_D (m 236)) (hD : 3 ≤ D) {e t : Nat} (he : e < m 236 3) (ht : t < 8) : a_ex X tx a_T D 235 [.ref 234, .int (nI e), .int (nI t)] (b_h m j w) = some ((b_h m j w), some (.int (nI (b_b (w_fit (m 236) e t))))) := by
  obtain ⟨d, rfl⟩ : ∃ d, D = d + 1 := ⟨D - 1, by omega⟩
  rw [e_Mo_doesFit, q_Mo_doesFit_0]
  have hE := i_S_E hS
  have h1 : ∀ k, k < 6 → m 236 (177 + 6 * t + k) < 4294967296 := fun k hk => by have := i_D_op hI t ht k hk; omega
  simp (disch := omega) only [s_Mo_isPut hS hI, s_Mo_fitsRow hS _ _ _ h1, ↓bc_234, ↓b_t0, ↓b_t1, ↓b_t2, ↓b_t3, ↓b_t4, ↓b_t5, ↓b_t6, Nat.zero_add, Nat.le_refl, b_rs, b_rn, b_r2, b_ss, b_sn, b_bt, b_bf, b_b0, b_b1, b_bw, b_shl, b_or, b_iv, b_jv, b_sI, b_sJ, ↓z_hl, z_b0, z_b1, z_b2, b_and1c, b_and1z, if_true, if_false, nI_add, pk_mul, b_cl, b_lt, b_le, b_eq, b_eq0, b_le0, b_0lt, b_0le, b_lt0]
  unfold w_fit
  by_cases h2 : m 236 (241 + e) = 4294967295
  · simp [h2, b_b]
  · by_cases h3 : w_fitsRow (m 236) e (177 + 6 * t) = true
    · simp [h2, h3, b_b]
    · simp [h2, h3, b_b]
