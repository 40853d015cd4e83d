/-! THE CLASS: what its facts and affairs answer -/
theorem s_EM_isIn {X : Nat × (Nat → Int32)} {tx : List Int32} {D : Nat} {m j : Nat → Nat → Nat} {w : (Nat × Nat) × Bool} (hD : 1 ≤ D) {S i : Nat} (hs : S < 2147483648) (hi : i < 32) : a_ex X tx a_T D 194 [.int (nI S), .int (nI i)] (b_h m j w) = some ((b_h m j w), some (.int (nI (b_b (S.testBit i))))) := by
  obtain ⟨d, rfl⟩ : ∃ d, D = d + 1 := ⟨D - 1, by omega⟩
  rw [e_EM_isIn, q_EM_isIn_0]
  by_cases h : S.testBit i = true
  · rw [if_neg (by rw [b_bit hs hi, h]; decide), h]; rfl
  · rw [if_pos (by rw [b_bit hs hi]; exact Bool.eq_false_iff.mpr h), Bool.eq_false_iff.mpr h]; rfl
theorem s_Fa_isKind {X : Nat × (Nat → Int32)} {tx : List Int32} {D : Nat} {m j : Nat → Nat → Nat} {w : (Nat × Nat) × Bool} {s : Nat → Nat} (hF : c_F m 4 s) (hS : i_S s) (hD : 1 ≤ D) {n : Nat} (hn : n < 4294967296) : a_ex X tx a_T D 21 [.ref 4, .int (nI n)] (b_h m j w) = some ((b_h m j w), some (.int (nI (b_b (decide (n < s 0)))))) := by
  obtain ⟨d, rfl⟩ : ∃ d, D = d + 1 := ⟨D - 1, by omega⟩
  rw [e_Fa_isKind, q_Fa_isKind_0]
  have h1 := c_F4_K hF
  have h2 := i_S_K hS
  by_cases h : n < 2147483648
  · simp (disch := omega) only [h1, ↓bc_4, ↓b_t0, ↓b_t1, ↓b_t2, ↓b_t3, ↓b_t4, ↓b_t5, ↓b_t6, Nat.zero_add, Nat.le_refl, b_rs, b_rn, b_r2, b_ss, b_sn, b_bt, b_bf, b_b0, b_b1, b_bw, b_shl, b_or, b_iv, b_jv, b_sI, b_sJ, ↓z_hl, z_b0, z_b1, z_b2, b_and1c, b_and1z, if_true, if_false, nI_add, pk_mul, b_cl, b_lt, b_le, b_eq, b_eq0, b_le0, b_0lt, b_0le, b_lt0]
    by_cases c : n < s 0
    · rw [if_neg (by omega), if_neg (by omega), decide_eq_true c]; rfl
    · rw [if_pos (by omega), decide_eq_false c]; rfl
  · rw [if_pos (b_neg (by omega) hn), decide_eq_false (by omega)]; rfl
theorem s_Fa_isMan {X : Nat × (Nat → Int32)} {tx : List Int32} {D : Nat} {m j : Nat → Nat → Nat} {w : (Nat × Nat) × Bool} {s : Nat → Nat} (hF : c_F m 4 s) (hS : i_S s) (hD : 1 ≤ D) {n : Nat} (hn : n < 4294967296) : a_ex X tx a_T D 22 [.ref 4, .int (nI n)] (b_h m j w) = some ((b_h m j w), some (.int (nI (b_b (decide (n < s 1)))))) := by
  obtain ⟨d, rfl⟩ : ∃ d, D = d + 1 := ⟨D - 1, by omega⟩
  rw [e_Fa_isMan, q_Fa_isMan_0]
  have h1 := c_F4_M hF
  have h2 := i_S_M hS
  by_cases h : n < 2147483648
  · simp (disch := omega) only [h1, ↓bc_4, ↓b_t0, ↓b_t1, ↓b_t2, ↓b_t3, ↓b_t4, ↓b_t5, ↓b_t6, Nat.zero_add, Nat.le_refl, b_rs, b_rn, b_r2, b_ss, b_sn, b_bt, b_bf, b_b0, b_b1, b_bw, b_shl, b_or, b_iv, b_jv, b_sI, b_sJ, ↓z_hl, z_b0, z_b1, z_b2, b_and1c, b_and1z, if_true, if_false, nI_add, pk_mul, b_cl, b_lt, b_le, b_eq, b_eq0, b_le0, b_0lt, b_0le, b_lt0]
    by_cases c : n < s 1
    · rw [if_neg (by omega), if_neg (by omega), decide_eq_true c]; rfl
    · rw [if_pos (by omega), decide_eq_false c]; rfl
  · rw [if_pos (b_neg (by omega) hn), decide_eq_false (by omega)]; rfl
theorem s_Fa_isThing {X : Nat × (Nat → Int32)} {tx : List Int32} {D : Nat} {m j : Nat → Nat → Nat} {w : (Nat × Nat) × Bool} {s : Nat → Nat} (hF : c_F m 4 s) (hS : i_S s) (hD : 1 ≤ D) {n : Nat} (hn : n < 4294967296) : a_ex X tx a_T D 23 [.ref 4, .int (nI n)] (b_h m j w) = some ((b_h m j w), some (.int (nI (b_b (decide (n < s 2)))))) := by
  obtain ⟨d, rfl⟩ : ∃ d, D = d + 1 := ⟨D - 1, by omega⟩
  rw [e_Fa_isThing, q_Fa_isThing_0]
  have h1 := c_F4_T hF
  have h2 := i_S_T hS
  by_cases h : n < 2147483648
  · simp (disch := omega) only [h1, ↓bc_4, ↓b_t0, ↓b_t1, ↓b_t2, ↓b_t3, ↓b_t4, ↓b_t5, ↓b_t6, Nat.zero_add, Nat.le_refl, b_rs, b_rn, b_r2, b_ss, b_sn, b_bt, b_bf, b_b0, b_b1, b_bw, b_shl, b_or, b_iv, b_jv, b_sI, b_sJ, ↓z_hl, z_b0, z_b1, z_b2, b_and1c, b_and1z, if_true, if_false, nI_add, pk_mul, b_cl, b_lt, b_le, b_eq, b_eq0, b_le0, b_0lt, b_0le, b_lt0]
    by_cases c : n < s 2
    · rw [if_neg (by omega), if_neg (by omega), decide_eq_true c]; rfl
    · rw [if_pos (by omega), decide_eq_false c]; rfl
  · rw [if_pos (b_neg (by omega) hn), decide_eq_false (by omega)]; rfl
theorem s_Fa_isEnding {X : Nat × (Nat → Int32)} {tx : List Int32} {D : Nat} {m j : Nat → Nat → Nat} {w : (Nat × Nat) × Bool} {s : Nat → Nat} (hF : c_F m 4 s) (hS : i_S s) (hD : 1 ≤ D) {n : Nat} (hn : n < 4294967296) : a_ex X tx a_T D 24 [.ref 4, .int (nI n)] (b_h m j w) = some ((b_h m j w), some (.int (nI (b_b (decide (n < s 3)))))) := by
  obtain ⟨d, rfl⟩ : ∃ d, D = d + 1 := ⟨D - 1, by omega⟩
  rw [e_Fa_isEnding, q_Fa_isEnding_0]
  have h1 := c_F4_E hF
  have h2 := i_S_E hS
  by_cases h : n < 2147483648
  · simp (disch := omega) only [h1, ↓bc_4, ↓b_t0, ↓b_t1, ↓b_t2, ↓b_t3, ↓b_t4, ↓b_t5, ↓b_t6, Nat.zero_add, Nat.le_refl, b_rs, b_rn, b_r2, b_ss, b_sn, b_bt, b_bf, b_b0, b_b1, b_bw, b_shl, b_or, b_iv, b_jv, b_sI, b_sJ, ↓z_hl, z_b0, z_b1, z_b2, b_and1c, b_and1z, if_true, if_false, nI_add, pk_mul, b_cl, b_lt, b_le, b_eq, b_eq0, b_le0, b_0lt, b_0le, b_lt0]
    by_cases c : n < s 3
    · rw [if_neg (by omega), if_neg (by omega), decide_eq_true c]; rfl
    · rw [if_pos (by omega), decide_eq_false c]; rfl
  · rw [if_pos (b_neg (by omega) hn), decide_eq_false (by omega)]; rfl
theorem s_Fa_areThings {X : Nat × (Nat → Int32)} {tx : List Int32} {D : Nat} {m j : Nat → Nat → Nat} {w : (Nat × Nat) × Bool} {s : Nat → Nat} (hF : c_F m 4 s) (hS : i_S s) (hD : 1 ≤ D) {n : Nat} (hn : n < 4294967296) : a_ex X tx a_T D 25 [.ref 4, .int (nI n)] (b_h m j w) = some ((b_h m j w), some (.int (nI (b_b (decide (n < 2 ^ s 2)))))) := by
  obtain ⟨d, rfl⟩ : ∃ d, D = d + 1 := ⟨D - 1, by omega⟩
  rw [e_Fa_areThings, q_Fa_areThings_0]
  have h1 := c_F4_T hF
  have h2 := i_S_T hS
  have h3 : 2 ^ s 2 ≤ 2 ^ 8 := Nat.pow_le_pow_right (by decide) h2
  have h4 : (2 : Nat) ^ 8 = 256 := by decide
  by_cases h : n < 2147483648
  · simp (disch := omega) only [h1, ↓bc_4, ↓b_t0, ↓b_t1, ↓b_t2, ↓b_t3, ↓b_t4, ↓b_t5, ↓b_t6, Nat.zero_add, Nat.le_refl, b_rs, b_rn, b_r2, b_ss, b_sn, b_bt, b_bf, b_b0, b_b1, b_bw, b_shl, b_or, b_iv, b_jv, b_sI, b_sJ, ↓z_hl, z_b0, z_b1, z_b2, b_and1c, b_and1z, if_true, if_false, nI_add, pk_mul, b_cl, b_lt, b_le, b_eq, b_eq0, b_le0, b_0lt, b_0le, b_lt0]
    by_cases c : n < 2 ^ s 2
    · rw [if_neg (by omega), decide_eq_true c]; rfl
    · rw [if_pos (by omega), decide_eq_false c]; rfl
  · rw [if_pos (b_neg (by omega) hn), decide_eq_false (by omega)]; rfl
theorem s_Fa_closed {X : Nat × (Nat → Int32)} {tx : List Int32} {D : Nat} {m j : Nat → Nat → Nat} {w : (Nat × Nat) × Bool} {s : Nat → Nat} (hF : c_F m 4 s) (hD : 1 ≤ D) {e k : Nat} (he : e < 10) (hk : k < 6) : a_ex X tx a_T D 26 [.ref 4, .int (nI e), .int (nI k)] (b_h m j w) = some ((b_h m j w), some (.int (nI (s (87 + 6 * e + k))))) := by
  obtain ⟨d, rfl⟩ : ∃ d, D = d + 1 := ⟨D - 1, by omega⟩
  rw [e_Fa_closed, q_Fa_closed_0]
  simp (disch := omega) only [c_F4_cl hF, ↓bc_4, ↓br_4_15, ↓bc_13, ↓bx_13, bl_13, ↓b_t0, ↓b_t1, ↓b_t2, ↓b_t3, ↓b_t4, ↓b_t5, ↓b_t6, Nat.zero_add, Nat.le_refl, b_rs, b_rn, b_r2, b_ss, b_sn, b_bt, b_bf, b_b0, b_b1, b_bw, b_shl, b_or, b_iv, b_jv, b_sI, b_sJ, ↓z_hl, z_b0, z_b1, z_b2, b_and1c, b_and1z, if_true, if_false, nI_add, pk_mul, b_cl, b_lt, b_le, b_eq, b_eq0, b_le0, b_0lt, b_0le, b_lt0]
  rw [if_neg (by omega), if_neg (by omega)]
theorem s_Fa_firstOpen {X : Nat × (Nat → Int32)} {tx : List Int32} {D : Nat} {m j : Nat → Nat → Nat} {w : (Nat × Nat) × Bool} {s : Nat → Nat} (hF : c_F m 4 s) (hD : 1 ≤ D) {t k : Nat} (ht : t < 8) (hk : k < 6) : a_ex X tx a_T D 27 [.ref 4, .int (nI t), .int (nI k)] (b_h m j w) = some ((b_h m j w), some (.int (nI (s (19 + 6 * t + k))))) := by
  obtain ⟨d, rfl⟩ : ∃ d, D = d + 1 := ⟨D - 1, by omega⟩
  rw [e_Fa_firstOpen, q_Fa_firstOpen_0]
  simp (disch := omega) only [c_F4_ot hF, ↓bc_4, ↓br_4_12, ↓bc_10, ↓bx_10, bl_10, ↓b_t0, ↓b_t1, ↓b_t2, ↓b_t3, ↓b_t4, ↓b_t5, ↓b_t6, Nat.zero_add, Nat.le_refl, b_rs, b_rn, b_r2, b_ss, b_sn, b_bt, b_bf, b_b0, b_b1, b_bw, b_shl, b_or, b_iv, b_jv, b_sI, b_sJ, ↓z_hl, z_b0, z_b1, z_b2, b_and1c, b_and1z, if_true, if_false, nI_add, pk_mul, b_cl, b_lt, b_le, b_eq, b_eq0, b_le0, b_0lt, b_0le, b_lt0]
  rw [if_neg (by omega), if_neg (by omega)]
def w_closes (s : Nat → Nat) (e : Nat) : Nat := z_sum (fun k => s (87 + 6 * e + k)) 6
theorem s_Fa_closesInAll {X : Nat × (Nat → Int32)} {tx : List Int32} {D : Nat} {m j : Nat → Nat → Nat} {w : (Nat × Nat) × Bool} {s : Nat → Nat} (hF : c_F m 4 s) (hS : i_S s) (hD : 2 ≤ D) {e : Nat} (he : e < 10) : a_ex X tx a_T D 28 [.ref 4, .int (nI e)] (b_h m j w) = some ((b_h m j w), some (.int (nI (w_closes s e)))) := by
  obtain ⟨d, rfl⟩ : ∃ d, D = d + 1 := ⟨D - 1, by omega⟩
  rw [e_Fa_closesInAll, q_Fa_closesInAll_0]
  have h1 := c_F4_K hF
  have h2 := i_S_K hS
  rw [← l_Fa_closesInAll_4]
  refine z_loop (fun n => [.ref 4, .int (nI e), .int (nI (z_sum (fun k => s (87 + 6 * e + k)) n)), .int (nI n)]) (fun n => (b_h m j w)) (s 0) (0) ?_ ?_ _ (z_fu (by omega))
  · intro n hn f _
    rw [l_Fa_closesInAll_4, q_Fa_closesInAll_4]
    simp (disch := omega) only [h1, s_Fa_closed hF, ↓bc_4, ↓b_t0, ↓b_t1, ↓b_t2, ↓b_t3, ↓b_t4, ↓b_t5, ↓b_t6, Nat.zero_add, Nat.le_refl, b_rs, b_rn, b_r2, b_ss, b_sn, b_bt, b_bf, b_b0, b_b1, b_bw, b_shl, b_or, b_iv, b_jv, b_sI, b_sJ, ↓z_hl, z_b0, z_b1, z_b2, b_and1c, b_and1z, if_true, if_false, nI_add, pk_mul, b_cl, b_lt, b_le, b_eq, b_eq0, b_le0, b_0lt, b_0le, b_lt0]
    rw [if_neg (by omega)]
    rfl
  · intro f _
    rw [l_Fa_closesInAll_4, q_Fa_closesInAll_4]
    simp (disch := omega) only [h1, ↓bc_4, ↓b_t0, ↓b_t1, ↓b_t2, ↓b_t3, ↓b_t4, ↓b_t5, ↓b_t6, Nat.zero_add, Nat.le_refl, b_rs, b_rn, b_r2, b_ss, b_sn, b_bt, b_bf, b_b0, b_b1, b_bw, b_shl, b_or, b_iv, b_jv, b_sI, b_sJ, ↓z_hl, z_b0, z_b1, z_b2, b_and1c, b_and1z, if_true, if_false, nI_add, pk_mul, b_cl, b_lt, b_le, b_eq, b_eq0, b_le0, b_0lt, b_0le, b_lt0]
    unfold w_closes
    rw [z_sum_pad2 h2 (fun k h3 h4 => i_S_clk hS e he k h3 h4)]
def w_thingsOf (s : Nat → Nat) (q : Nat) : Nat := z_set (fun t => decide (s (11 + t) = q)) (s 2)
theorem s_Fa_thingsOf {X : Nat × (Nat → Int32)} {tx : List Int32} {D : Nat} {m j : Nat → Nat → Nat} {w : (Nat × Nat) × Bool} {s : Nat → Nat} (hF : c_F m 4 s) (hS : i_S s) (hD : 1 ≤ D) {q : Nat} (hq : q < 4294967296) : a_ex X tx a_T D 29 [.ref 4, .int (nI q)] (b_h m j w) = some ((b_h m j w), some (.int (nI (w_thingsOf s q)))) := by
  obtain ⟨d, rfl⟩ : ∃ d, D = d + 1 := ⟨D - 1, by omega⟩
  rw [e_Fa_thingsOf, q_Fa_thingsOf_0]
  have h1 := c_F4_T hF
  have h2 := i_S_T hS
  have hM := i_S_M hS
  rw [← l_Fa_thingsOf_4]
  refine z_loop (fun n => [.ref 4, .int (nI q), .int (nI (z_set (fun t => decide (s (11 + t) = q)) n)), .int (nI n)]) (fun n => (b_h m j w)) (s 2) (0) ?_ ?_ _ (z_fu (by omega))
  · intro n hn f _
    rw [l_Fa_thingsOf_4, q_Fa_thingsOf_4]
    have h3 := c_F4_wh hF n hn
    have h4 := i_S_wh hS n hn
    simp (disch := omega) only [h1, h3, ↓bc_4, ↓br_4_11, ↓bc_9, ↓bx_9, bl_9, ↓b_t0, ↓b_t1, ↓b_t2, ↓b_t3, ↓b_t4, ↓b_t5, ↓b_t6, Nat.zero_add, Nat.le_refl, b_rs, b_rn, b_r2, b_ss, b_sn, b_bt, b_bf, b_b0, b_b1, b_bw, b_shl, b_or, b_iv, b_jv, b_sI, b_sJ, ↓z_hl, z_b0, z_b1, z_b2, b_and1c, b_and1z, if_true, if_false, nI_add, pk_mul, b_cl, b_lt, b_le, b_eq, b_eq0, b_le0, b_0lt, b_0le, b_lt0]
    rw [if_neg (by omega)]
    by_cases h : s (11 + n) = q
    · rw [if_pos h, z_set_t (by simpa using h)]
    · rw [if_neg h, z_set_f (by simpa using h)]
  · intro f _
    rw [l_Fa_thingsOf_4, q_Fa_thingsOf_4]
    simp (disch := omega) only [h1, ↓bc_4, ↓br_4_11, ↓bc_9, ↓bx_9, bl_9, ↓b_t0, ↓b_t1, ↓b_t2, ↓b_t3, ↓b_t4, ↓b_t5, ↓b_t6, Nat.zero_add, Nat.le_refl, b_rs, b_rn, b_r2, b_ss, b_sn, b_bt, b_bf, b_b0, b_b1, b_bw, b_shl, b_or, b_iv, b_jv, b_sI, b_sJ, ↓z_hl, z_b0, z_b1, z_b2, b_and1c, b_and1z, if_true, if_false, nI_add, pk_mul, b_cl, b_lt, b_le, b_eq, b_eq0, b_le0, b_0lt, b_0le, b_lt0]
    rfl
/-! affairs -/
def w_would (s : Nat → Nat) (e t : Nat) : Nat := z_sum (fun k => min (s (177 + 6 * t + k)) (s (87 + 6 * e + k))) 6
theorem w_would_le {s : Nat → Nat} (hS : i_S s) {e t : Nat} (he : e < 10) : w_would s e t ≤ 54 := z_sum_le (b := 9) 6 (fun k hk => by
  have := i_S_cl hS e he k hk
  omega)
def w_fitting (s : Nat → Nat) (t : Nat) : Nat := z_set (fun e => w_fit s e t) (s 3)
theorem w_pl_ne {s : Nat → Nat} (hS : i_S s) (hI : i_D s) {e : Nat} (he : e < s 3) : ((if s (241 + e) = 4294967295 then s (261 + e) - 1 else 4294967295) = 4294967295) = (s (241 + e) ≠ 4294967295) := by
  have hT := i_S_T hS
  have h1 := i_D_pu hI e he
  by_cases c : s (241 + e) = 4294967295
  · rw [if_pos c]
    exact propext ⟨fun h => by omega, fun h => absurd c h⟩
  · rw [if_neg c]
    exact propext ⟨fun _ => c, fun _ => rfl⟩
def w_wait (s : Nat → Nat) (e : Nat) : Bool := decide (0 < s (147 + e)) && decide (s (241 + e) = 4294967295) && !(s 281).testBit e
theorem s_Af_daysLeft26 {X : Nat × (Nat → Int32)} {tx : List Int32} {D : Nat} {m j : Nat → Nat → Nat} {w : (Nat × Nat) × Bool} {s : Nat → Nat} (hA : c_A m 26 s) (hI : i_D s) (hD : 1 ≤ D) : a_ex X tx a_T D 48 [.ref 26] (b_h m j w) = some ((b_h m j w), some (.int (nI (400 - s 157)))) := by
  obtain ⟨d, rfl⟩ : ∃ d, D = d + 1 := ⟨D - 1, by omega⟩
  rw [e_Af_daysLeft, q_Af_daysLeft_0]
  have h1 := i_D_da hI
  simp (disch := omega) only [c_A26_da hA, b_sub, ↓bc_26, ↓b_t0, ↓b_t1, ↓b_t2, ↓b_t3, ↓b_t4, ↓b_t5, ↓b_t6, Nat.zero_add, Nat.le_refl, b_rs, b_rn, b_r2, b_ss, b_sn, b_bt, b_bf, b_b0, b_b1, b_bw, b_shl, b_or, b_iv, b_jv, b_sI, b_sJ, ↓z_hl, z_b0, z_b1, z_b2, b_and1c, b_and1z, if_true, if_false, nI_add, pk_mul, b_cl, b_lt, b_le, b_eq, b_eq0, b_le0, b_0lt, b_0le, b_lt0]
theorem s_Af_amount26 {X : Nat × (Nat → Int32)} {tx : List Int32} {D : Nat} {m j : Nat → Nat → Nat} {w : (Nat × Nat) × Bool} {s : Nat → Nat} (hA : c_A m 26 s) (hD : 1 ≤ D) {t k : Nat} (ht : t < 8) (hk : k < 6) : a_ex X tx a_T D 49 [.ref 26, .int (nI t), .int (nI k)] (b_h m j w) = some ((b_h m j w), some (.int (nI (s (177 + 6 * t + k))))) := by
  obtain ⟨d, rfl⟩ : ∃ d, D = d + 1 := ⟨D - 1, by omega⟩
  rw [e_Af_amount, q_Af_amount_0]
  simp (disch := omega) only [c_A26_op hA, ↓bc_26, ↓br_26_5, ↓bc_30, ↓bx_30, bl_30, ↓b_t0, ↓b_t1, ↓b_t2, ↓b_t3, ↓b_t4, ↓b_t5, ↓b_t6, Nat.zero_add, Nat.le_refl, b_rs, b_rn, b_r2, b_ss, b_sn, b_bt, b_bf, b_b0, b_b1, b_bw, b_shl, b_or, b_iv, b_jv, b_sI, b_sJ, ↓z_hl, z_b0, z_b1, z_b2, b_and1c, b_and1z, if_true, if_false, nI_add, pk_mul, b_cl, b_lt, b_le, b_eq, b_eq0, b_le0, b_0lt, b_0le, b_lt0]
  rw [if_neg (by omega), if_neg (by omega)]
theorem s_Af_shutBy26 {X : Nat × (Nat → Int32)} {tx : List Int32} {D : Nat} {m j : Nat → Nat → Nat} {w : (Nat × Nat) × Bool} {s : Nat → Nat} (hA : c_A m 26 s) (hS : i_S s) (hD : 1 ≤ D) {e k : Nat} (he : e < s 3) (hp : s (241 + e) = 4294967295) (hk : k < s 0) : a_ex X tx a_T D 51 [.ref 26, .int (nI e), .int (nI k)] (b_h m j w) = some ((b_h m j w), some (.int (nI (s (292 + 6 * e + k))))) := by
  obtain ⟨d, rfl⟩ : ∃ d, D = d + 1 := ⟨D - 1, by omega⟩
  rw [e_Af_shutBy, q_Af_shutBy_0]
  have hE := i_S_E hS
  have hK := i_S_K hS
  have h1 := c_A26_sh hA e he hp k hk
  simp (disch := omega) only [h1, ↓bc_26, ↓br_26_12, ↓bc_37, ↓bx_37, bl_37, ↓b_t0, ↓b_t1, ↓b_t2, ↓b_t3, ↓b_t4, ↓b_t5, ↓b_t6, Nat.zero_add, Nat.le_refl, b_rs, b_rn, b_r2, b_ss, b_sn, b_bt, b_bf, b_b0, b_b1, b_bw, b_shl, b_or, b_iv, b_jv, b_sI, b_sJ, ↓z_hl, z_b0, z_b1, z_b2, b_and1c, b_and1z, if_true, if_false, nI_add, pk_mul, b_cl, b_lt, b_le, b_eq, b_eq0, b_le0, b_0lt, b_0le, b_lt0]
  rw [if_neg (by omega), if_neg (by omega)]
theorem s_Af_isPut26 {X : Nat × (Nat → Int32)} {tx : List Int32} {D : Nat} {m j : Nat → Nat → Nat} {w : (Nat × Nat) × Bool} {s : Nat → Nat} (hA : c_A m 26 s) (hS : i_S s) (hI : i_D s) (hD : 1 ≤ D) {e : Nat} (he : e < s 3) : a_ex X tx a_T D 52 [.ref 26, .int (nI e)] (b_h m j w) = some ((b_h m j w), some (.int (nI (b_b (decide (s (241 + e) = 4294967295)))))) := by
  obtain ⟨d, rfl⟩ : ∃ d, D = d + 1 := ⟨D - 1, by omega⟩
  rw [e_Af_isPut, q_Af_isPut_0]
  have hE := i_S_E hS
  have hT := i_S_T hS
  have h1 := c_A26_pl hA e he
  have h2 := w_pl_ne hS hI he
  have h3 : (if s (241 + e) = 4294967295 then s (261 + e) - 1 else 4294967295) < 4294967296 := by
    have := i_D_pu hI e he
    split <;> omega
  simp (disch := omega) only [h1, h2, ↓bc_26, ↓br_26_8, ↓bc_33, ↓bx_33, bl_33, ↓b_t0, ↓b_t1, ↓b_t2, ↓b_t3, ↓b_t4, ↓b_t5, ↓b_t6, Nat.zero_add, Nat.le_refl, b_rs, b_rn, b_r2, b_ss, b_sn, b_bt, b_bf, b_b0, b_b1, b_bw, b_shl, b_or, b_iv, b_jv, b_sI, b_sJ, ↓z_hl, z_b0, z_b1, z_b2, b_and1c, b_and1z, if_true, if_false, nI_add, pk_mul, b_cl, b_lt, b_le, b_eq, b_eq0, b_le0, b_0lt, b_0le, b_lt0]
  rw [if_neg (by omega)]
  by_cases c : s (241 + e) = 4294967295
  · rw [if_neg (fun h => h c), decide_eq_true c]; rfl
  · rw [if_pos c, decide_eq_false c]; rfl
theorem s_Af_allOpen26 {X : Nat × (Nat → Int32)} {tx : List Int32} {D : Nat} {m j : Nat → Nat → Nat} {w : (Nat × Nat) × Bool} {s : Nat → Nat} (hF : c_F m 4 s) (hA : c_A m 26 s) (hS : i_S s) (hI : i_D s) (hD : 2 ≤ D) {t : Nat} (ht : t < 8) : a_ex X tx a_T D 53 [.ref 26, .int (nI t)] (b_h m j w) = some ((b_h m j w), some (.int (nI (w_open s t)))) := by
  obtain ⟨d, rfl⟩ : ∃ d, D = d + 1 := ⟨D - 1, by omega⟩
  rw [e_Af_allOpen, q_Af_allOpen_0]
  have h1 := c_F4_K hF
  have h2 := i_S_K hS
  rw [← l_Af_allOpen_4]
  refine z_loop (fun n => [.ref 26, .int (nI t), .int (nI (z_sum (fun k => s (177 + 6 * t + k)) n)), .int (nI n)]) (fun n => (b_h m j w)) (s 0) (0) ?_ ?_ _ (z_fu (by omega))
  · intro n hn f _
    rw [l_Af_allOpen_4, q_Af_allOpen_4]
    simp (disch := omega) only [h1, s_Af_amount26 hA, ↓bc_26, ↓br_26_0, ↓bc_4, ↓b_t0, ↓b_t1, ↓b_t2, ↓b_t3, ↓b_t4, ↓b_t5, ↓b_t6, Nat.zero_add, Nat.le_refl, b_rs, b_rn, b_r2, b_ss, b_sn, b_bt, b_bf, b_b0, b_b1, b_bw, b_shl, b_or, b_iv, b_jv, b_sI, b_sJ, ↓z_hl, z_b0, z_b1, z_b2, b_and1c, b_and1z, if_true, if_false, nI_add, pk_mul, b_cl, b_lt, b_le, b_eq, b_eq0, b_le0, b_0lt, b_0le, b_lt0]
    rw [if_neg (by omega)]
    rfl
  · intro f _
    rw [l_Af_allOpen_4, q_Af_allOpen_4]
    simp (disch := omega) only [h1, ↓bc_26, ↓br_26_0, ↓bc_4, ↓b_t0, ↓b_t1, ↓b_t2, ↓b_t3, ↓b_t4, ↓b_t5, ↓b_t6, Nat.zero_add, Nat.le_refl, b_rs, b_rn, b_r2, b_ss, b_sn, b_bt, b_bf, b_b0, b_b1, b_bw, b_shl, b_or, b_iv, b_jv, b_sI, b_sJ, ↓z_hl, z_b0, z_b1, z_b2, b_and1c, b_and1z, if_true, if_false, nI_add, pk_mul, b_cl, b_lt, b_le, b_eq, b_eq0, b_le0, b_0lt, b_0le, b_lt0]
    unfold w_open
    rw [z_sum_pad2 h2 (fun k h3 h4 => i_D_opk hI t ht k h3 h4)]
theorem s_Af_ended26 {X : Nat × (Nat → Int32)} {tx : List Int32} {D : Nat} {m j : Nat → Nat → Nat} {w : (Nat × Nat) × Bool} {s : Nat → Nat} (hF : c_F m 4 s) (hA : c_A m 26 s) (hS : i_S s) (hI : i_D s) (hD : 3 ≤ D) : a_ex X tx a_T D 56 [.ref 26] (b_h m j w) = some ((b_h m j w), some (.int (nI (w_ended s)))) := by
  obtain ⟨d, rfl⟩ : ∃ d, D = d + 1 := ⟨D - 1, by omega⟩
  rw [e_Af_ended, q_Af_ended_0]
  have h1 := c_F4_T hF
  have h2 := i_S_T hS
  rw [← l_Af_ended_4]
  refine z_loop (fun n => [.ref 26, .int (nI (z_set (fun t => decide (w_open s t = 0)) n)), .int (nI n)]) (fun n => (b_h m j w)) (s 2) (0) ?_ ?_ _ (z_fu (by omega))
  · intro n hn f _
    rw [l_Af_ended_4, q_Af_ended_4]
    have h3 := w_open_le hI (t := n) (by omega)
    simp (disch := omega) only [h1, s_Af_allOpen26 hF hA hS hI, ↓bc_26, ↓br_26_0, ↓bc_4, ↓b_t0, ↓b_t1, ↓b_t2, ↓b_t3, ↓b_t4, ↓b_t5, ↓b_t6, Nat.zero_add, Nat.le_refl, b_rs, b_rn, b_r2, b_ss, b_sn, b_bt, b_bf, b_b0, b_b1, b_bw, b_shl, b_or, b_iv, b_jv, b_sI, b_sJ, ↓z_hl, z_b0, z_b1, z_b2, b_and1c, b_and1z, if_true, if_false, nI_add, pk_mul, b_cl, b_lt, b_le, b_eq, b_eq0, b_le0, b_0lt, b_0le, b_lt0]
    rw [if_neg (by omega)]
    by_cases h : w_open s n = 0
    · rw [if_pos h, z_set_t (by simpa using h)]
    · rw [if_neg h, z_set_f (by simpa using h)]
  · intro f _
    rw [l_Af_ended_4, q_Af_ended_4]
    simp (disch := omega) only [h1, ↓bc_26, ↓br_26_0, ↓bc_4, ↓b_t0, ↓b_t1, ↓b_t2, ↓b_t3, ↓b_t4, ↓b_t5, ↓b_t6, Nat.zero_add, Nat.le_refl, b_rs, b_rn, b_r2, b_ss, b_sn, b_bt, b_bf, b_b0, b_b1, b_bw, b_shl, b_or, b_iv, b_jv, b_sI, b_sJ, ↓z_hl, z_b0, z_b1, z_b2, b_and1c, b_and1z, if_true, if_false, nI_add, pk_mul, b_cl, b_lt, b_le, b_eq, b_eq0, b_le0, b_0lt, b_0le, b_lt0]
    rfl
theorem s_Af_suits26 {X : Nat × (Nat → Int32)} {tx : List Int32} {D : Nat} {m j : Nat → Nat → Nat} {w : (Nat × Nat) × Bool} {s : Nat → Nat} (hF : c_F m 4 s) (hA : c_A m 26 s) (hS : i_S s) (hI : i_D s) (hD : 2 ≤ D) {e t : Nat} (he : e < 10) (ht : t < 8) : a_ex X tx a_T D 63 [.ref 26, .int (nI e), .int (nI t)] (b_h m j w) = some ((b_h m j w), some (.int (nI (b_b (w_fitsRow s e (177 + 6 * t)))))) := by
  obtain ⟨d, rfl⟩ : ∃ d, D = d + 1 := ⟨D - 1, by omega⟩
  rw [e_Af_suits, q_Af_suits_0]
  have h1 := c_F4_K hF
  have h2 := i_S_K hS
  rw [← l_Af_suits_4]
  refine (z_alls (r0 := some ((b_h m j w), some (.int (nI (0))))) (r1 := some ((b_h m j w), some (.int (nI (b_b (z_any (fun k => decide (s (87 + 6 * e + k) ≠ 0)) (s 0))))))) (fun n => [.ref 26, .int (nI e), .int (nI t), .int (nI (b_b (z_any (fun k => decide (s (87 + 6 * e + k) ≠ 0)) n))), .int (nI n)]) (fun n => (b_h m j w)) (fun k => decide (s (87 + 6 * e + k) = 0 ∨ s (177 + 6 * t + k) ≠ 0)) (s 0) (0) ?_ ?_ _ (z_fu (by omega))).trans ?_
  · intro n hn f _
    rw [l_Af_suits_4, q_Af_suits_4]
    have b1 := i_S_cl hS e he n (by omega)
    have b2 := i_D_op hI t ht n (by omega)
    simp (disch := omega) only [h1, s_Fa_closed hF, s_Af_amount26 hA, ↓bc_26, ↓br_26_0, ↓bc_4, ↓b_t0, ↓b_t1, ↓b_t2, ↓b_t3, ↓b_t4, ↓b_t5, ↓b_t6, Nat.zero_add, Nat.le_refl, b_rs, b_rn, b_r2, b_ss, b_sn, b_bt, b_bf, b_b0, b_b1, b_bw, b_shl, b_or, b_iv, b_jv, b_sI, b_sJ, ↓z_hl, z_b0, z_b1, z_b2, b_and1c, b_and1z, if_true, if_false, nI_add, pk_mul, b_cl, b_lt, b_le, b_eq, b_eq0, b_le0, b_0lt, b_0le, b_lt0]
    rw [if_neg (by omega)]
    by_cases c1 : s (87 + 6 * e + n) = 0
    · simp [c1, z_any]
    · by_cases c2 : s (177 + 6 * t + n) = 0
      · simp [c1, c2]
      · simp [c1, c2, z_any, b_b]
  · intro f _
    rw [l_Af_suits_4, q_Af_suits_4]
    simp (disch := omega) only [h1, ↓bc_26, ↓br_26_0, ↓bc_4, ↓b_t0, ↓b_t1, ↓b_t2, ↓b_t3, ↓b_t4, ↓b_t5, ↓b_t6, Nat.zero_add, Nat.le_refl, b_rs, b_rn, b_r2, b_ss, b_sn, b_bt, b_bf, b_b0, b_b1, b_bw, b_shl, b_or, b_iv, b_jv, b_sI, b_sJ, ↓z_hl, z_b0, z_b1, z_b2, b_and1c, b_and1z, if_true, if_false, nI_add, pk_mul, b_cl, b_lt, b_le, b_eq, b_eq0, b_le0, b_0lt, b_0le, b_lt0]
    try rfl
  · unfold w_fitsRow
    rw [z_all_pad h2 (fun k h3 h4 => by rw [i_S_clk hS e he k h3 h4]; rfl), z_any_pad h2 (fun k h3 h4 => by rw [i_S_clk hS e he k h3 h4]; rfl)]
    split
    · rename_i h; rw [h, Bool.true_and]
    · rename_i h; rw [Bool.eq_false_iff.mpr h, Bool.false_and]; rfl
theorem s_Af_whyNotBuy26 {X : Nat × (Nat → Int32)} {tx : List Int32} {D : Nat} {m j : Nat → Nat → Nat} {w : (Nat × Nat) × Bool} {s : Nat → Nat} (hF : c_F m 4 s) (hA : c_A m 26 s) (hS : i_S s) (hI : i_D s) (hD : 2 ≤ D) {q e : Nat} (hq : q < 4294967296) (he : e < 4294967296) : a_ex X tx a_T D 69 [.ref 26, .int (nI q), .int (nI e)] (b_h m j w) = some ((b_h m j w), some (.int (nI (if q < s 1 ∧ e < s 3 then w_whyBuy s q e else 4294967295)))) := by
  obtain ⟨d, rfl⟩ : ∃ d, D = d + 1 := ⟨D - 1, by omega⟩
  rw [e_Af_whyNotBuy, q_Af_whyNotBuy_0]
  have hE := i_S_E hS
  have hM := i_S_M hS
  by_cases c1 : q < s 1
  · by_cases c2 : e < s 3
    · have h1 := c_A26_ha hA e c2
      have h2 := c_A26_co hA q c1
      have h3 := c_A26_pr hA e c2
      have h4 := i_coin hI (i := q) (by omega)
      have h5 := i_D_pr hI e (by omega)
      have h6 := i_hlt hS hI c2
      rw [if_pos ⟨c1, c2⟩]
      simp (disch := omega) only [s_Fa_isMan hF hS, s_Fa_isEnding hF hS, s_Af_isPut26 hA hS hI, h1, h2, h3, decide_eq_false_iff_not, ↓bc_26, ↓br_26_0, ↓bc_4, ↓br_26_6, ↓bc_31, ↓bx_31, bl_31, ↓br_26_2, ↓bc_27, ↓bx_27, bl_27, ↓br_26_7, ↓bc_32, ↓bx_32, bl_32, ↓b_t0, ↓b_t1, ↓b_t2, ↓b_t3, ↓b_t4, ↓b_t5, ↓b_t6, Nat.zero_add, Nat.le_refl, b_rs, b_rn, b_r2, b_ss, b_sn, b_bt, b_bf, b_b0, b_b1, b_bw, b_shl, b_or, b_iv, b_jv, b_sI, b_sJ, ↓z_hl, z_b0, z_b1, z_b2, b_and1c, b_and1z, if_true, if_false, nI_add, pk_mul, b_cl, b_lt, b_le, b_eq, b_eq0, b_le0, b_0lt, b_0le, b_lt0]
      rw [if_neg (fun h => h c1), if_neg (fun h => h c2)]
      unfold w_whyBuy
      by_cases d1 : s (241 + e) = 4294967295
      · simp [d1]
      · by_cases d2 : s (241 + e) = q
        · simp [d2, show ¬ q = 4294967295 by omega]
        · by_cases d3 : s (159 + q) < s (251 + e)
          · simp [d1, d2, d3, Nat.not_le.mpr d3]
          · simp [d1, d2, d3, Nat.not_lt.mp d3]
    · rw [if_neg (fun h => c2 h.2)]
      simp (disch := omega) only [s_Fa_isMan hF hS, s_Fa_isEnding hF hS, decide_eq_false_iff_not, ↓bc_26, ↓br_26_0, ↓bc_4, ↓br_26_6, ↓bc_31, ↓bx_31, bl_31, ↓br_26_2, ↓bc_27, ↓bx_27, bl_27, ↓br_26_7, ↓bc_32, ↓bx_32, bl_32, ↓b_t0, ↓b_t1, ↓b_t2, ↓b_t3, ↓b_t4, ↓b_t5, ↓b_t6, Nat.zero_add, Nat.le_refl, b_rs, b_rn, b_r2, b_ss, b_sn, b_bt, b_bf, b_b0, b_b1, b_bw, b_shl, b_or, b_iv, b_jv, b_sI, b_sJ, ↓z_hl, z_b0, z_b1, z_b2, b_and1c, b_and1z, if_true, if_false, nI_add, pk_mul, b_cl, b_lt, b_le, b_eq, b_eq0, b_le0, b_0lt, b_0le, b_lt0]
      rw [if_neg (fun h => h c1), if_pos c2]
  · rw [if_neg (fun h => c1 h.1)]
    simp (disch := omega) only [s_Fa_isMan hF hS, decide_eq_false_iff_not, ↓bc_26, ↓br_26_0, ↓bc_4, ↓br_26_6, ↓bc_31, ↓bx_31, bl_31, ↓br_26_2, ↓bc_27, ↓bx_27, bl_27, ↓br_26_7, ↓bc_32, ↓bx_32, bl_32, ↓b_t0, ↓b_t1, ↓b_t2, ↓b_t3, ↓b_t4, ↓b_t5, ↓b_t6, Nat.zero_add, Nat.le_refl, b_rs, b_rn, b_r2, b_ss, b_sn, b_bt, b_bf, b_b0, b_b1, b_bw, b_shl, b_or, b_iv, b_jv, b_sI, b_sJ, ↓z_hl, z_b0, z_b1, z_b2, b_and1c, b_and1z, if_true, if_false, nI_add, pk_mul, b_cl, b_lt, b_le, b_eq, b_eq0, b_le0, b_0lt, b_0le, b_lt0]
    rw [if_pos c1]
theorem s_Af_whyNotPut26 {X : Nat × (Nat → Int32)} {tx : List Int32} {D : Nat} {m j : Nat → Nat → Nat} {w : (Nat × Nat) × Bool} {s : Nat → Nat} (hF : c_F m 4 s) (hA : c_A m 26 s) (hS : i_S s) (hI : i_D s) (hD : 3 ≤ D) {q e t : Nat} (hq : q < 4294967296) (he : e < 4294967296) (ht : t < 4294967296) : a_ex X tx a_T D 71 [.ref 26, .int (nI q), .int (nI e), .int (nI t)] (b_h m j w) = some ((b_h m j w), some (.int (nI (if q < s 1 ∧ e < s 3 ∧ t < s 2 then w_whyPut s q e t else 4294967295)))) := by
  obtain ⟨d, rfl⟩ : ∃ d, D = d + 1 := ⟨D - 1, by omega⟩
  rw [e_Af_whyNotPut, q_Af_whyNotPut_0]
  have hE := i_S_E hS
  have hM := i_S_M hS
  have hT := i_S_T hS
  by_cases c1 : q < s 1
  · by_cases c2 : e < s 3
    · by_cases c3 : t < s 2
      · have h1 := c_A26_ha hA e c2
        have h2 := c_F4_wh hF t c3
        have h5 := i_S_wh hS t c3
        have h6 := i_hlt hS hI c2
        rw [if_pos ⟨c1, c2, c3⟩]
        simp (disch := omega) only [s_Fa_isMan hF hS, s_Fa_isEnding hF hS, s_Fa_isThing hF hS, s_Af_isPut26 hA hS hI, s_Af_suits26 hF hA hS hI, h1, h2, decide_eq_false_iff_not, ↓bc_26, ↓br_26_0, ↓bc_4, ↓br_26_6, ↓bc_31, ↓bx_31, bl_31, ↓br_4_11, ↓bc_9, ↓bx_9, bl_9, ↓b_t0, ↓b_t1, ↓b_t2, ↓b_t3, ↓b_t4, ↓b_t5, ↓b_t6, Nat.zero_add, Nat.le_refl, b_rs, b_rn, b_r2, b_ss, b_sn, b_bt, b_bf, b_b0, b_b1, b_bw, b_shl, b_or, b_iv, b_jv, b_sI, b_sJ, ↓z_hl, z_b0, z_b1, z_b2, b_and1c, b_and1z, if_true, if_false, nI_add, pk_mul, b_cl, b_lt, b_le, b_eq, b_eq0, b_le0, b_0lt, b_0le, b_lt0]
        rw [if_neg (fun h => h c1), if_neg (fun h => h c2), if_neg (fun h => h c3)]
        unfold w_whyPut
        by_cases d1 : s (241 + e) = 4294967295
        · simp [d1]
        · by_cases d2 : s (241 + e) = q
          · by_cases d3 : s (11 + t) = q
            · by_cases d4 : w_fitsRow s e (177 + 6 * t) = true
              · simp [d2, d3, d4, show ¬ q = 4294967295 by omega]
              · simp [d2, d3, d4, show ¬ q = 4294967295 by omega]
            · simp [d2, d3, show ¬ q = 4294967295 by omega]
          · simp [d1, d2]
      · rw [if_neg (fun h => c3 h.2.2)]
        simp (disch := omega) only [s_Fa_isMan hF hS, s_Fa_isEnding hF hS, s_Fa_isThing hF hS, decide_eq_false_iff_not, ↓bc_26, ↓br_26_0, ↓bc_4, ↓br_26_6, ↓bc_31, ↓bx_31, bl_31, ↓br_4_11, ↓bc_9, ↓bx_9, bl_9, ↓b_t0, ↓b_t1, ↓b_t2, ↓b_t3, ↓b_t4, ↓b_t5, ↓b_t6, Nat.zero_add, Nat.le_refl, b_rs, b_rn, b_r2, b_ss, b_sn, b_bt, b_bf, b_b0, b_b1, b_bw, b_shl, b_or, b_iv, b_jv, b_sI, b_sJ, ↓z_hl, z_b0, z_b1, z_b2, b_and1c, b_and1z, if_true, if_false, nI_add, pk_mul, b_cl, b_lt, b_le, b_eq, b_eq0, b_le0, b_0lt, b_0le, b_lt0]
        rw [if_neg (fun h => h c1), if_neg (fun h => h c2), if_pos c3]
    · rw [if_neg (fun h => c2 h.2.1)]
      simp (disch := omega) only [s_Fa_isMan hF hS, s_Fa_isEnding hF hS, decide_eq_false_iff_not, ↓bc_26, ↓br_26_0, ↓bc_4, ↓br_26_6, ↓bc_31, ↓bx_31, bl_31, ↓br_4_11, ↓bc_9, ↓bx_9, bl_9, ↓b_t0, ↓b_t1, ↓b_t2, ↓b_t3, ↓b_t4, ↓b_t5, ↓b_t6, Nat.zero_add, Nat.le_refl, b_rs, b_rn, b_r2, b_ss, b_sn, b_bt, b_bf, b_b0, b_b1, b_bw, b_shl, b_or, b_iv, b_jv, b_sI, b_sJ, ↓z_hl, z_b0, z_b1, z_b2, b_and1c, b_and1z, if_true, if_false, nI_add, pk_mul, b_cl, b_lt, b_le, b_eq, b_eq0, b_le0, b_0lt, b_0le, b_lt0]
      rw [if_neg (fun h => h c1), if_pos c2]
  · rw [if_neg (fun h => c1 h.1)]
    simp (disch := omega) only [s_Fa_isMan hF hS, decide_eq_false_iff_not, ↓bc_26, ↓br_26_0, ↓bc_4, ↓br_26_6, ↓bc_31, ↓bx_31, bl_31, ↓br_4_11, ↓bc_9, ↓bx_9, bl_9, ↓b_t0, ↓b_t1, ↓b_t2, ↓b_t3, ↓b_t4, ↓b_t5, ↓b_t6, Nat.zero_add, Nat.le_refl, b_rs, b_rn, b_r2, b_ss, b_sn, b_bt, b_bf, b_b0, b_b1, b_bw, b_shl, b_or, b_iv, b_jv, b_sI, b_sJ, ↓z_hl, z_b0, z_b1, z_b2, b_and1c, b_and1z, if_true, if_false, nI_add, pk_mul, b_cl, b_lt, b_le, b_eq, b_eq0, b_le0, b_0lt, b_0le, b_lt0]
    rw [if_pos c1]
theorem s_Af_isWaiting26 {X : Nat × (Nat → Int32)} {tx : List Int32} {D : Nat} {m j : Nat → Nat → Nat} {w : (Nat × Nat) × Bool} {s : Nat → Nat} (hF : c_F m 4 s) (hA : c_A m 26 s) (hS : i_S s) (hI : i_D s) (hD : 2 ≤ D) {e : Nat} (he : e < s 3) : a_ex X tx a_T D 75 [.ref 26, .int (nI e)] (b_h m j w) = some ((b_h m j w), some (.int (nI (b_b (w_wait s e))))) := by
  obtain ⟨d, rfl⟩ : ∃ d, D = d + 1 := ⟨D - 1, by omega⟩
  rw [e_Af_isWaiting, q_Af_isWaiting_0]
  have hE := i_S_E hS
  have h1 := c_F4_fd hF e (by omega)
  have h2 := i_S_fd hS e (by omega)
  have h3 := c_A26_we hA e he
  simp (disch := omega) only [h1, h3, s_Af_isPut26 hA hS hI, decide_eq_false_iff_not, ↓bc_26, ↓br_26_0, ↓bc_4, ↓br_4_16, ↓bc_14, ↓bx_14, bl_14, ↓br_26_10, ↓bc_35, ↓bx_35, bl_35, ↓b_t0, ↓b_t1, ↓b_t2, ↓b_t3, ↓b_t4, ↓b_t5, ↓b_t6, Nat.zero_add, Nat.le_refl, b_rs, b_rn, b_r2, b_ss, b_sn, b_bt, b_bf, b_b0, b_b1, b_bw, b_shl, b_or, b_iv, b_jv, b_sI, b_sJ, ↓z_hl, z_b0, z_b1, z_b2, b_and1c, b_and1z, if_true, if_false, nI_add, pk_mul, b_cl, b_lt, b_le, b_eq, b_eq0, b_le0, b_0lt, b_0le, b_lt0]
  unfold w_wait
  by_cases c1 : s (147 + e) = 0
  · simp [c1, b_b]
  · by_cases c2 : s (241 + e) = 4294967295
    · cases c3 : (s 281).testBit e <;> simp [c1, c2, c3, b_b, Nat.pos_of_ne_zero c1]
    · simp [c1, c2, b_b]
theorem s_Af_lastQuietDay26 {X : Nat × (Nat → Int32)} {tx : List Int32} {D : Nat} {m j : Nat → Nat → Nat} {w : (Nat × Nat) × Bool} {s : Nat → Nat} (hF : c_F m 4 s) (hA : c_A m 26 s) (hS : i_S s) (hI : i_D s) (hD : 1 ≤ D) {e : Nat} (he : e < s 3) (hp : s (241 + e) = 4294967295) (hf : 0 < s (147 + e)) : a_ex X tx a_T D 76 [.ref 26, .int (nI e)] (b_h m j w) = some ((b_h m j w), some (.int (nI (s (271 + e) + s (147 + e) - 1)))) := by
  obtain ⟨d, rfl⟩ : ∃ d, D = d + 1 := ⟨D - 1, by omega⟩
  rw [e_Af_lastQuietDay, q_Af_lastQuietDay_0]
  have hE := i_S_E hS
  have h1 := c_F4_fd hF e (by omega)
  have h3 := c_A26_pd hA e he
  rw [if_pos hp] at h3
  simp (disch := omega) only [h1, h3, b_sub, ↓bc_26, ↓br_26_9, ↓bc_34, ↓bx_34, bl_34, ↓br_26_0, ↓bc_4, ↓br_4_16, ↓bc_14, ↓bx_14, bl_14, ↓b_t0, ↓b_t1, ↓b_t2, ↓b_t3, ↓b_t4, ↓b_t5, ↓b_t6, Nat.zero_add, Nat.le_refl, b_rs, b_rn, b_r2, b_ss, b_sn, b_bt, b_bf, b_b0, b_b1, b_bw, b_shl, b_or, b_iv, b_jv, b_sI, b_sJ, ↓z_hl, z_b0, z_b1, z_b2, b_and1c, b_and1z, if_true, if_false, nI_add, pk_mul, b_cl, b_lt, b_le, b_eq, b_eq0, b_le0, b_0lt, b_0le, b_lt0]
theorem s_Af_daysLeft38 {X : Nat × (Nat → Int32)} {tx : List Int32} {D : Nat} {m j : Nat → Nat → Nat} {w : (Nat × Nat) × Bool} {s : Nat → Nat} (hA : c_A m 38 s) (hI : i_D s) (hD : 1 ≤ D) : a_ex X tx a_T D 48 [.ref 38] (b_h m j w) = some ((b_h m j w), some (.int (nI (400 - s 157)))) := by
  obtain ⟨d, rfl⟩ : ∃ d, D = d + 1 := ⟨D - 1, by omega⟩
  rw [e_Af_daysLeft, q_Af_daysLeft_0]
  have h1 := i_D_da hI
  simp (disch := omega) only [c_A38_da hA, b_sub, ↓bc_38, ↓b_t0, ↓b_t1, ↓b_t2, ↓b_t3, ↓b_t4, ↓b_t5, ↓b_t6, Nat.zero_add, Nat.le_refl, b_rs, b_rn, b_r2, b_ss, b_sn, b_bt, b_bf, b_b0, b_b1, b_bw, b_shl, b_or, b_iv, b_jv, b_sI, b_sJ, ↓z_hl, z_b0, z_b1, z_b2, b_and1c, b_and1z, if_true, if_false, nI_add, pk_mul, b_cl, b_lt, b_le, b_eq, b_eq0, b_le0, b_0lt, b_0le, b_lt0]
theorem s_Af_amount38 {X : Nat × (Nat → Int32)} {tx : List Int32} {D : Nat} {m j : Nat → Nat → Nat} {w : (Nat × Nat) × Bool} {s : Nat → Nat} (hA : c_A m 38 s) (hD : 1 ≤ D) {t k : Nat} (ht : t < 8) (hk : k < 6) : a_ex X tx a_T D 49 [.ref 38, .int (nI t), .int (nI k)] (b_h m j w) = some ((b_h m j w), some (.int (nI (s (177 + 6 * t + k))))) := by
  obtain ⟨d, rfl⟩ : ∃ d, D = d + 1 := ⟨D - 1, by omega⟩
  rw [e_Af_amount, q_Af_amount_0]
  simp (disch := omega) only [c_A38_op hA, ↓bc_38, ↓br_38_5, ↓bc_42, ↓bx_42, bl_42, ↓b_t0, ↓b_t1, ↓b_t2, ↓b_t3, ↓b_t4, ↓b_t5, ↓b_t6, Nat.zero_add, Nat.le_refl, b_rs, b_rn, b_r2, b_ss, b_sn, b_bt, b_bf, b_b0, b_b1, b_bw, b_shl, b_or, b_iv, b_jv, b_sI, b_sJ, ↓z_hl, z_b0, z_b1, z_b2, b_and1c, b_and1z, if_true, if_false, nI_add, pk_mul, b_cl, b_lt, b_le, b_eq, b_eq0, b_le0, b_0lt, b_0le, b_lt0]
  rw [if_neg (by omega), if_neg (by omega)]
theorem s_Af_shutBy38 {X : Nat × (Nat → Int32)} {tx : List Int32} {D : Nat} {m j : Nat → Nat → Nat} {w : (Nat × Nat) × Bool} {s : Nat → Nat} (hA : c_A m 38 s) (hS : i_S s) (hD : 1 ≤ D) {e k : Nat} (he : e < s 3) (hp : s (241 + e) = 4294967295) (hk : k < s 0) : a_ex X tx a_T D 51 [.ref 38, .int (nI e), .int (nI k)] (b_h m j w) = some ((b_h m j w), some (.int (nI (s (292 + 6 * e + k))))) := by
  obtain ⟨d, rfl⟩ : ∃ d, D = d + 1 := ⟨D - 1, by omega⟩
  rw [e_Af_shutBy, q_Af_shutBy_0]
  have hE := i_S_E hS
  have hK := i_S_K hS
  have h1 := c_A38_sh hA e he hp k hk
  simp (disch := omega) only [h1, ↓bc_38, ↓br_38_12, ↓bc_49, ↓bx_49, bl_49, ↓b_t0, ↓b_t1, ↓b_t2, ↓b_t3, ↓b_t4, ↓b_t5, ↓b_t6, Nat.zero_add, Nat.le_refl, b_rs, b_rn, b_r2, b_ss, b_sn, b_bt, b_bf, b_b0, b_b1, b_bw, b_shl, b_or, b_iv, b_jv, b_sI, b_sJ, ↓z_hl, z_b0, z_b1, z_b2, b_and1c, b_and1z, if_true, if_false, nI_add, pk_mul, b_cl, b_lt, b_le, b_eq, b_eq0, b_le0, b_0lt, b_0le, b_lt0]
  rw [if_neg (by omega), if_neg (by omega)]
theorem s_Af_isPut38 {X : Nat × (Nat → Int32)} {tx : List Int32} {D : Nat} {m j : Nat → Nat → Nat} {w : (Nat × Nat) × Bool} {s : Nat → Nat} (hA : c_A m 38 s) (hS : i_S s) (hI : i_D s) (hD : 1 ≤ D) {e : Nat} (he : e < s 3) : a_ex X tx a_T D 52 [.ref 38, .int (nI e)] (b_h m j w) = some ((b_h m j w), some (.int (nI (b_b (decide (s (241 + e) = 4294967295)))))) := by
  obtain ⟨d, rfl⟩ : ∃ d, D = d + 1 := ⟨D - 1, by omega⟩
  rw [e_Af_isPut, q_Af_isPut_0]
  have hE := i_S_E hS
  have hT := i_S_T hS
  have h1 := c_A38_pl hA e he
  have h2 := w_pl_ne hS hI he
  have h3 : (if s (241 + e) = 4294967295 then s (261 + e) - 1 else 4294967295) < 4294967296 := by
    have := i_D_pu hI e he
    split <;> omega
  simp (disch := omega) only [h1, h2, ↓bc_38, ↓br_38_8, ↓bc_45, ↓bx_45, bl_45, ↓b_t0, ↓b_t1, ↓b_t2, ↓b_t3, ↓b_t4, ↓b_t5, ↓b_t6, Nat.zero_add, Nat.le_refl, b_rs, b_rn, b_r2, b_ss, b_sn, b_bt, b_bf, b_b0, b_b1, b_bw, b_shl, b_or, b_iv, b_jv, b_sI, b_sJ, ↓z_hl, z_b0, z_b1, z_b2, b_and1c, b_and1z, if_true, if_false, nI_add, pk_mul, b_cl, b_lt, b_le, b_eq, b_eq0, b_le0, b_0lt, b_0le, b_lt0]
  rw [if_neg (by omega)]
  by_cases c : s (241 + e) = 4294967295
  · rw [if_neg (fun h => h c), decide_eq_true c]; rfl
  · rw [if_pos c, decide_eq_false c]; rfl
theorem s_Af_allOpen38 {X : Nat × (Nat → Int32)} {tx : List Int32} {D : Nat} {m j : Nat → Nat → Nat} {w : (Nat × Nat) × Bool} {s : Nat → Nat} (hF : c_F m 4 s) (hA : c_A m 38 s) (hS : i_S s) (hI : i_D s) (hD : 2 ≤ D) {t : Nat} (ht : t < 8) : a_ex X tx a_T D 53 [.ref 38, .int (nI t)] (b_h m j w) = some ((b_h m j w), some (.int (nI (w_open s t)))) := by
  obtain ⟨d, rfl⟩ : ∃ d, D = d + 1 := ⟨D - 1, by omega⟩
  rw [e_Af_allOpen, q_Af_allOpen_0]
  have h1 := c_F4_K hF
  have h2 := i_S_K hS
  rw [← l_Af_allOpen_4]
  refine z_loop (fun n => [.ref 38, .int (nI t), .int (nI (z_sum (fun k => s (177 + 6 * t + k)) n)), .int (nI n)]) (fun n => (b_h m j w)) (s 0) (0) ?_ ?_ _ (z_fu (by omega))
  · intro n hn f _
    rw [l_Af_allOpen_4, q_Af_allOpen_4]
    simp (disch := omega) only [h1, s_Af_amount38 hA, ↓bc_38, ↓br_38_0, ↓bc_4, ↓b_t0, ↓b_t1, ↓b_t2, ↓b_t3, ↓b_t4, ↓b_t5, ↓b_t6, Nat.zero_add, Nat.le_refl, b_rs, b_rn, b_r2, b_ss, b_sn, b_bt, b_bf, b_b0, b_b1, b_bw, b_shl, b_or, b_iv, b_jv, b_sI, b_sJ, ↓z_hl, z_b0, z_b1, z_b2, b_and1c, b_and1z, if_true, if_false, nI_add, pk_mul, b_cl, b_lt, b_le, b_eq, b_eq0, b_le0, b_0lt, b_0le, b_lt0]
    rw [if_neg (by omega)]
    rfl
  · intro f _
    rw [l_Af_allOpen_4, q_Af_allOpen_4]
    simp (disch := omega) only [h1, ↓bc_38, ↓br_38_0, ↓bc_4, ↓b_t0, ↓b_t1, ↓b_t2, ↓b_t3, ↓b_t4, ↓b_t5, ↓b_t6, Nat.zero_add, Nat.le_refl, b_rs, b_rn, b_r2, b_ss, b_sn, b_bt, b_bf, b_b0, b_b1, b_bw, b_shl, b_or, b_iv, b_jv, b_sI, b_sJ, ↓z_hl, z_b0, z_b1, z_b2, b_and1c, b_and1z, if_true, if_false, nI_add, pk_mul, b_cl, b_lt, b_le, b_eq, b_eq0, b_le0, b_0lt, b_0le, b_lt0]
    unfold w_open
    rw [z_sum_pad2 h2 (fun k h3 h4 => i_D_opk hI t ht k h3 h4)]
theorem s_Af_ended38 {X : Nat × (Nat → Int32)} {tx : List Int32} {D : Nat} {m j : Nat → Nat → Nat} {w : (Nat × Nat) × Bool} {s : Nat → Nat} (hF : c_F m 4 s) (hA : c_A m 38 s) (hS : i_S s) (hI : i_D s) (hD : 3 ≤ D) : a_ex X tx a_T D 56 [.ref 38] (b_h m j w) = some ((b_h m j w), some (.int (nI (w_ended s)))) := by
  obtain ⟨d, rfl⟩ : ∃ d, D = d + 1 := ⟨D - 1, by omega⟩
  rw [e_Af_ended, q_Af_ended_0]
  have h1 := c_F4_T hF
  have h2 := i_S_T hS
  rw [← l_Af_ended_4]
  refine z_loop (fun n => [.ref 38, .int (nI (z_set (fun t => decide (w_open s t = 0)) n)), .int (nI n)]) (fun n => (b_h m j w)) (s 2) (0) ?_ ?_ _ (z_fu (by omega))
  · intro n hn f _
    rw [l_Af_ended_4, q_Af_ended_4]
    have h3 := w_open_le hI (t := n) (by omega)
    simp (disch := omega) only [h1, s_Af_allOpen38 hF hA hS hI, ↓bc_38, ↓br_38_0, ↓bc_4, ↓b_t0, ↓b_t1, ↓b_t2, ↓b_t3, ↓b_t4, ↓b_t5, ↓b_t6, Nat.zero_add, Nat.le_refl, b_rs, b_rn, b_r2, b_ss, b_sn, b_bt, b_bf, b_b0, b_b1, b_bw, b_shl, b_or, b_iv, b_jv, b_sI, b_sJ, ↓z_hl, z_b0, z_b1, z_b2, b_and1c, b_and1z, if_true, if_false, nI_add, pk_mul, b_cl, b_lt, b_le, b_eq, b_eq0, b_le0, b_0lt, b_0le, b_lt0]
    rw [if_neg (by omega)]
    by_cases h : w_open s n = 0
    · rw [if_pos h, z_set_t (by simpa using h)]
    · rw [if_neg h, z_set_f (by simpa using h)]
  · intro f _
    rw [l_Af_ended_4, q_Af_ended_4]
    simp (disch := omega) only [h1, ↓bc_38, ↓br_38_0, ↓bc_4, ↓b_t0, ↓b_t1, ↓b_t2, ↓b_t3, ↓b_t4, ↓b_t5, ↓b_t6, Nat.zero_add, Nat.le_refl, b_rs, b_rn, b_r2, b_ss, b_sn, b_bt, b_bf, b_b0, b_b1, b_bw, b_shl, b_or, b_iv, b_jv, b_sI, b_sJ, ↓z_hl, z_b0, z_b1, z_b2, b_and1c, b_and1z, if_true, if_false, nI_add, pk_mul, b_cl, b_lt, b_le, b_eq, b_eq0, b_le0, b_0lt, b_0le, b_lt0]
    rfl
theorem s_Af_suits38 {X : Nat × (Nat → Int32)} {tx : List Int32} {D : Nat} {m j : Nat → Nat → Nat} {w : (Nat × Nat) × Bool} {s : Nat → Nat} (hF : c_F m 4 s) (hA : c_A m 38 s) (hS : i_S s) (hI : i_D s) (hD : 2 ≤ D) {e t : Nat} (he : e < 10) (ht : t < 8) : a_ex X tx a_T D 63 [.ref 38, .int (nI e), .int (nI t)] (b_h m j w) = some ((b_h m j w), some (.int (nI (b_b (w_fitsRow s e (177 + 6 * t)))))) := by
  obtain ⟨d, rfl⟩ : ∃ d, D = d + 1 := ⟨D - 1, by omega⟩
  rw [e_Af_suits, q_Af_suits_0]
  have h1 := c_F4_K hF
  have h2 := i_S_K hS
  rw [← l_Af_suits_4]
  refine (z_alls (r0 := some ((b_h m j w), some (.int (nI (0))))) (r1 := some ((b_h m j w), some (.int (nI (b_b (z_any (fun k => decide (s (87 + 6 * e + k) ≠ 0)) (s 0))))))) (fun n => [.ref 38, .int (nI e), .int (nI t), .int (nI (b_b (z_any (fun k => decide (s (87 + 6 * e + k) ≠ 0)) n))), .int (nI n)]) (fun n => (b_h m j w)) (fun k => decide (s (87 + 6 * e + k) = 0 ∨ s (177 + 6 * t + k) ≠ 0)) (s 0) (0) ?_ ?_ _ (z_fu (by omega))).trans ?_
  · intro n hn f _
    rw [l_Af_suits_4, q_Af_suits_4]
    have b1 := i_S_cl hS e he n (by omega)
    have b2 := i_D_op hI t ht n (by omega)
    simp (disch := omega) only [h1, s_Fa_closed hF, s_Af_amount38 hA, ↓bc_38, ↓br_38_0, ↓bc_4, ↓b_t0, ↓b_t1, ↓b_t2, ↓b_t3, ↓b_t4, ↓b_t5, ↓b_t6, Nat.zero_add, Nat.le_refl, b_rs, b_rn, b_r2, b_ss, b_sn, b_bt, b_bf, b_b0, b_b1, b_bw, b_shl, b_or, b_iv, b_jv, b_sI, b_sJ, ↓z_hl, z_b0, z_b1, z_b2, b_and1c, b_and1z, if_true, if_false, nI_add, pk_mul, b_cl, b_lt, b_le, b_eq, b_eq0, b_le0, b_0lt, b_0le, b_lt0]
    rw [if_neg (by omega)]
    by_cases c1 : s (87 + 6 * e + n) = 0
    · simp [c1, z_any]
    · by_cases c2 : s (177 + 6 * t + n) = 0
      · simp [c1, c2]
      · simp [c1, c2, z_any, b_b]
  · intro f _
    rw [l_Af_suits_4, q_Af_suits_4]
    simp (disch := omega) only [h1, ↓bc_38, ↓br_38_0, ↓bc_4, ↓b_t0, ↓b_t1, ↓b_t2, ↓b_t3, ↓b_t4, ↓b_t5, ↓b_t6, Nat.zero_add, Nat.le_refl, b_rs, b_rn, b_r2, b_ss, b_sn, b_bt, b_bf, b_b0, b_b1, b_bw, b_shl, b_or, b_iv, b_jv, b_sI, b_sJ, ↓z_hl, z_b0, z_b1, z_b2, b_and1c, b_and1z, if_true, if_false, nI_add, pk_mul, b_cl, b_lt, b_le, b_eq, b_eq0, b_le0, b_0lt, b_0le, b_lt0]
    try rfl
  · unfold w_fitsRow
    rw [z_all_pad h2 (fun k h3 h4 => by rw [i_S_clk hS e he k h3 h4]; rfl), z_any_pad h2 (fun k h3 h4 => by rw [i_S_clk hS e he k h3 h4]; rfl)]
    split
    · rename_i h; rw [h, Bool.true_and]
    · rename_i h; rw [Bool.eq_false_iff.mpr h, Bool.false_and]; rfl
theorem s_Af_whyNotBuy38 {X : Nat × (Nat → Int32)} {tx : List Int32} {D : Nat} {m j : Nat → Nat → Nat} {w : (Nat × Nat) × Bool} {s : Nat → Nat} (hF : c_F m 4 s) (hA : c_A m 38 s) (hS : i_S s) (hI : i_D s) (hD : 2 ≤ D) {q e : Nat} (hq : q < 4294967296) (he : e < 4294967296) : a_ex X tx a_T D 69 [.ref 38, .int (nI q), .int (nI e)] (b_h m j w) = some ((b_h m j w), some (.int (nI (if q < s 1 ∧ e < s 3 then w_whyBuy s q e else 4294967295)))) := by
  obtain ⟨d, rfl⟩ : ∃ d, D = d + 1 := ⟨D - 1, by omega⟩
  rw [e_Af_whyNotBuy, q_Af_whyNotBuy_0]
  have hE := i_S_E hS
  have hM := i_S_M hS
  by_cases c1 : q < s 1
  · by_cases c2 : e < s 3
    · have h1 := c_A38_ha hA e c2
      have h2 := c_A38_co hA q c1
      have h3 := c_A38_pr hA e c2
      have h4 := i_coin hI (i := q) (by omega)
      have h5 := i_D_pr hI e (by omega)
      have h6 := i_hlt hS hI c2
      rw [if_pos ⟨c1, c2⟩]
      simp (disch := omega) only [s_Fa_isMan hF hS, s_Fa_isEnding hF hS, s_Af_isPut38 hA hS hI, h1, h2, h3, decide_eq_false_iff_not, ↓bc_38, ↓br_38_0, ↓bc_4, ↓br_38_6, ↓bc_43, ↓bx_43, bl_43, ↓br_38_2, ↓bc_39, ↓bx_39, bl_39, ↓br_38_7, ↓bc_44, ↓bx_44, bl_44, ↓b_t0, ↓b_t1, ↓b_t2, ↓b_t3, ↓b_t4, ↓b_t5, ↓b_t6, Nat.zero_add, Nat.le_refl, b_rs, b_rn, b_r2, b_ss, b_sn, b_bt, b_bf, b_b0, b_b1, b_bw, b_shl, b_or, b_iv, b_jv, b_sI, b_sJ, ↓z_hl, z_b0, z_b1, z_b2, b_and1c, b_and1z, if_true, if_false, nI_add, pk_mul, b_cl, b_lt, b_le, b_eq, b_eq0, b_le0, b_0lt, b_0le, b_lt0]
      rw [if_neg (fun h => h c1), if_neg (fun h => h c2)]
      unfold w_whyBuy
      by_cases d1 : s (241 + e) = 4294967295
      · simp [d1]
      · by_cases d2 : s (241 + e) = q
        · simp [d2, show ¬ q = 4294967295 by omega]
        · by_cases d3 : s (159 + q) < s (251 + e)
          · simp [d1, d2, d3, Nat.not_le.mpr d3]
          · simp [d1, d2, d3, Nat.not_lt.mp d3]
    · rw [if_neg (fun h => c2 h.2)]
      simp (disch := omega) only [s_Fa_isMan hF hS, s_Fa_isEnding hF hS, decide_eq_false_iff_not, ↓bc_38, ↓br_38_0, ↓bc_4, ↓br_38_6, ↓bc_43, ↓bx_43, bl_43, ↓br_38_2, ↓bc_39, ↓bx_39, bl_39, ↓br_38_7, ↓bc_44, ↓bx_44, bl_44, ↓b_t0, ↓b_t1, ↓b_t2, ↓b_t3, ↓b_t4, ↓b_t5, ↓b_t6, Nat.zero_add, Nat.le_refl, b_rs, b_rn, b_r2, b_ss, b_sn, b_bt, b_bf, b_b0, b_b1, b_bw, b_shl, b_or, b_iv, b_jv, b_sI, b_sJ, ↓z_hl, z_b0, z_b1, z_b2, b_and1c, b_and1z, if_true, if_false, nI_add, pk_mul, b_cl, b_lt, b_le, b_eq, b_eq0, b_le0, b_0lt, b_0le, b_lt0]
      rw [if_neg (fun h => h c1), if_pos c2]
  · rw [if_neg (fun h => c1 h.1)]
    simp (disch := omega) only [s_Fa_isMan hF hS, decide_eq_false_iff_not, ↓bc_38, ↓br_38_0, ↓bc_4, ↓br_38_6, ↓bc_43, ↓bx_43, bl_43, ↓br_38_2, ↓bc_39, ↓bx_39, bl_39, ↓br_38_7, ↓bc_44, ↓bx_44, bl_44, ↓b_t0, ↓b_t1, ↓b_t2, ↓b_t3, ↓b_t4, ↓b_t5, ↓b_t6, Nat.zero_add, Nat.le_refl, b_rs, b_rn, b_r2, b_ss, b_sn, b_bt, b_bf, b_b0, b_b1, b_bw, b_shl, b_or, b_iv, b_jv, b_sI, b_sJ, ↓z_hl, z_b0, z_b1, z_b2, b_and1c, b_and1z, if_true, if_false, nI_add, pk_mul, b_cl, b_lt, b_le, b_eq, b_eq0, b_le0, b_0lt, b_0le, b_lt0]
    rw [if_pos c1]
theorem s_Af_whyNotPut38 {X : Nat × (Nat → Int32)} {tx : List Int32} {D : Nat} {m j : Nat → Nat → Nat} {w : (Nat × Nat) × Bool} {s : Nat → Nat} (hF : c_F m 4 s) (hA : c_A m 38 s) (hS : i_S s) (hI : i_D s) (hD : 3 ≤ D) {q e t : Nat} (hq : q < 4294967296) (he : e < 4294967296) (ht : t < 4294967296) : a_ex X tx a_T D 71 [.ref 38, .int (nI q), .int (nI e), .int (nI t)] (b_h m j w) = some ((b_h m j w), some (.int (nI (if q < s 1 ∧ e < s 3 ∧ t < s 2 then w_whyPut s q e t else 4294967295)))) := by
  obtain ⟨d, rfl⟩ : ∃ d, D = d + 1 := ⟨D - 1, by omega⟩
  rw [e_Af_whyNotPut, q_Af_whyNotPut_0]
  have hE := i_S_E hS
  have hM := i_S_M hS
  have hT := i_S_T hS
  by_cases c1 : q < s 1
  · by_cases c2 : e < s 3
    · by_cases c3 : t < s 2
      · have h1 := c_A38_ha hA e c2
        have h2 := c_F4_wh hF t c3
        have h5 := i_S_wh hS t c3
        have h6 := i_hlt hS hI c2
        rw [if_pos ⟨c1, c2, c3⟩]
        simp (disch := omega) only [s_Fa_isMan hF hS, s_Fa_isEnding hF hS, s_Fa_isThing hF hS, s_Af_isPut38 hA hS hI, s_Af_suits38 hF hA hS hI, h1, h2, decide_eq_false_iff_not, ↓bc_38, ↓br_38_0, ↓bc_4, ↓br_38_6, ↓bc_43, ↓bx_43, bl_43, ↓br_4_11, ↓bc_9, ↓bx_9, bl_9, ↓b_t0, ↓b_t1, ↓b_t2, ↓b_t3, ↓b_t4, ↓b_t5, ↓b_t6, Nat.zero_add, Nat.le_refl, b_rs, b_rn, b_r2, b_ss, b_sn, b_bt, b_bf, b_b0, b_b1, b_bw, b_shl, b_or, b_iv, b_jv, b_sI, b_sJ, ↓z_hl, z_b0, z_b1, z_b2, b_and1c, b_and1z, if_true, if_false, nI_add, pk_mul, b_cl, b_lt, b_le, b_eq, b_eq0, b_le0, b_0lt, b_0le, b_lt0]
        rw [if_neg (fun h => h c1), if_neg (fun h => h c2), if_neg (fun h => h c3)]
        unfold w_whyPut
        by_cases d1 : s (241 + e) = 4294967295
        · simp [d1]
        · by_cases d2 : s (241 + e) = q
          · by_cases d3 : s (11 + t) = q
            · by_cases d4 : w_fitsRow s e (177 + 6 * t) = true
              · simp [d2, d3, d4, show ¬ q = 4294967295 by omega]
              · simp [d2, d3, d4, show ¬ q = 4294967295 by omega]
            · simp [d2, d3, show ¬ q = 4294967295 by omega]
          · simp [d1, d2]
      · rw [if_neg (fun h => c3 h.2.2)]
        simp (disch := omega) only [s_Fa_isMan hF hS, s_Fa_isEnding hF hS, s_Fa_isThing hF hS, decide_eq_false_iff_not, ↓bc_38, ↓br_38_0, ↓bc_4, ↓br_38_6, ↓bc_43, ↓bx_43, bl_43, ↓br_4_11, ↓bc_9, ↓bx_9, bl_9, ↓b_t0, ↓b_t1, ↓b_t2, ↓b_t3, ↓b_t4, ↓b_t5, ↓b_t6, Nat.zero_add, Nat.le_refl, b_rs, b_rn, b_r2, b_ss, b_sn, b_bt, b_bf, b_b0, b_b1, b_bw, b_shl, b_or, b_iv, b_jv, b_sI, b_sJ, ↓z_hl, z_b0, z_b1, z_b2, b_and1c, b_and1z, if_true, if_false, nI_add, pk_mul, b_cl, b_lt, b_le, b_eq, b_eq0, b_le0, b_0lt, b_0le, b_lt0]
        rw [if_neg (fun h => h c1), if_neg (fun h => h c2), if_pos c3]
    · rw [if_neg (fun h => c2 h.2.1)]
      simp (disch := omega) only [s_Fa_isMan hF hS, s_Fa_isEnding hF hS, decide_eq_false_iff_not, ↓bc_38, ↓br_38_0, ↓bc_4, ↓br_38_6, ↓bc_43, ↓bx_43, bl_43, ↓br_4_11, ↓bc_9, ↓bx_9, bl_9, ↓b_t0, ↓b_t1, ↓b_t2, ↓b_t3, ↓b_t4, ↓b_t5, ↓b_t6, Nat.zero_add, Nat.le_refl, b_rs, b_rn, b_r2, b_ss, b_sn, b_bt, b_bf, b_b0, b_b1, b_bw, b_shl, b_or, b_iv, b_jv, b_sI, b_sJ, ↓z_hl, z_b0, z_b1, z_b2, b_and1c, b_and1z, if_true, if_false, nI_add, pk_mul, b_cl, b_lt, b_le, b_eq, b_eq0, b_le0, b_0lt, b_0le, b_lt0]
      rw [if_neg (fun h => h c1), if_pos c2]
  · rw [if_neg (fun h => c1 h.1)]
    simp (disch := omega) only [s_Fa_isMan hF hS, decide_eq_false_iff_not, ↓bc_38, ↓br_38_0, ↓bc_4, ↓br_38_6, ↓bc_43, ↓bx_43, bl_43, ↓br_4_11, ↓bc_9, ↓bx_9, bl_9, ↓b_t0, ↓b_t1, ↓b_t2, ↓b_t3, ↓b_t4, ↓b_t5, ↓b_t6, Nat.zero_add, Nat.le_refl, b_rs, b_rn, b_r2, b_ss, b_sn, b_bt, b_bf, b_b0, b_b1, b_bw, b_shl, b_or, b_iv, b_jv, b_sI, b_sJ, ↓z_hl, z_b0, z_b1, z_b2, b_and1c, b_and1z, if_true, if_false, nI_add, pk_mul, b_cl, b_lt, b_le, b_eq, b_eq0, b_le0, b_0lt, b_0le, b_lt0]
    rw [if_pos c1]
theorem s_Af_isWaiting38 {X : Nat × (Nat → Int32)} {tx : List Int32} {D : Nat} {m j : Nat → Nat → Nat} {w : (Nat × Nat) × Bool} {s : Nat → Nat} (hF : c_F m 4 s) (hA : c_A m 38 s) (hS : i_S s) (hI : i_D s) (hD : 2 ≤ D) {e : Nat} (he : e < s 3) : a_ex X tx a_T D 75 [.ref 38, .int (nI e)] (b_h m j w) = some ((b_h m j w), some (.int (nI (b_b (w_wait s e))))) := by
  obtain ⟨d, rfl⟩ : ∃ d, D = d + 1 := ⟨D - 1, by omega⟩
  rw [e_Af_isWaiting, q_Af_isWaiting_0]
  have hE := i_S_E hS
  have h1 := c_F4_fd hF e (by omega)
  have h2 := i_S_fd hS e (by omega)
  have h3 := c_A38_we hA e he
  simp (disch := omega) only [h1, h3, s_Af_isPut38 hA hS hI, decide_eq_false_iff_not, ↓bc_38, ↓br_38_0, ↓bc_4, ↓br_4_16, ↓bc_14, ↓bx_14, bl_14, ↓br_38_10, ↓bc_47, ↓bx_47, bl_47, ↓b_t0, ↓b_t1, ↓b_t2, ↓b_t3, ↓b_t4, ↓b_t5, ↓b_t6, Nat.zero_add, Nat.le_refl, b_rs, b_rn, b_r2, b_ss, b_sn, b_bt, b_bf, b_b0, b_b1, b_bw, b_shl, b_or, b_iv, b_jv, b_sI, b_sJ, ↓z_hl, z_b0, z_b1, z_b2, b_and1c, b_and1z, if_true, if_false, nI_add, pk_mul, b_cl, b_lt, b_le, b_eq, b_eq0, b_le0, b_0lt, b_0le, b_lt0]
  unfold w_wait
  by_cases c1 : s (147 + e) = 0
  · simp [c1, b_b]
  · by_cases c2 : s (241 + e) = 4294967295
    · cases c3 : (s 281).testBit e <;> simp [c1, c2, c3, b_b, Nat.pos_of_ne_zero c1]
    · simp [c1, c2, b_b]
theorem s_Af_lastQuietDay38 {X : Nat × (Nat → Int32)} {tx : List Int32} {D : Nat} {m j : Nat → Nat → Nat} {w : (Nat × Nat) × Bool} {s : Nat → Nat} (hF : c_F m 4 s) (hA : c_A m 38 s) (hS : i_S s) (hI : i_D s) (hD : 1 ≤ D) {e : Nat} (he : e < s 3) (hp : s (241 + e) = 4294967295) (hf : 0 < s (147 + e)) : a_ex X tx a_T D 76 [.ref 38, .int (nI e)] (b_h m j w) = some ((b_h m j w), some (.int (nI (s (271 + e) + s (147 + e) - 1)))) := by
  obtain ⟨d, rfl⟩ : ∃ d, D = d + 1 := ⟨D - 1, by omega⟩
  rw [e_Af_lastQuietDay, q_Af_lastQuietDay_0]
  have hE := i_S_E hS
  have h1 := c_F4_fd hF e (by omega)
  have h3 := c_A38_pd hA e he
  rw [if_pos hp] at h3
  simp (disch := omega) only [h1, h3, b_sub, ↓bc_38, ↓br_38_9, ↓bc_46, ↓bx_46, bl_46, ↓br_38_0, ↓bc_4, ↓br_4_16, ↓bc_14, ↓bx_14, bl_14, ↓b_t0, ↓b_t1, ↓b_t2, ↓b_t3, ↓b_t4, ↓b_t5, ↓b_t6, Nat.zero_add, Nat.le_refl, b_rs, b_rn, b_r2, b_ss, b_sn, b_bt, b_bf, b_b0, b_b1, b_bw, b_shl, b_or, b_iv, b_jv, b_sI, b_sJ, ↓z_hl, z_b0, z_b1, z_b2, b_and1c, b_and1z, if_true, if_false, nI_add, pk_mul, b_cl, b_lt, b_le, b_eq, b_eq0, b_le0, b_0lt, b_0le, b_lt0]
