/-! QUERIES of the reference, once more -/
def w_qman (s : Nat → Nat) (q what : Nat) : Nat := if q < s 1 then (if what = 0 then s (159 + q) else if what = 1 then w_thingsOf s q else if what = 2 then w_endsOf s q else if what = 3 then s (165 + q) else if what = 4 then s (171 + q) else 4294967295) else 4294967295
def w_qnow (s : Nat → Nat) (what : Nat) : Nat := if what = 0 then s 157 else if what = 1 then w_ended s else if what = 2 then w_endsOf s 4294967295 else if what = 3 then w_allCoin s else if what = 4 then w_openAll s else if what = 5 then s 158 else 4294967295
def w_qthing (s : Nat → Nat) (t what : Nat) : Nat := if what = 0 then s (11 + t) else if what = 1 then w_open s t else if what = 2 then s (225 + t) else if what = 3 then w_openKinds s t else if what = 4 then w_fitting s t else s (233 + t)
def w_place (s : Nat → Nat) (e : Nat) : Nat := if s (241 + e) = 4294967295 then s (261 + e) - 1 else 4294967295
def w_putDay (s : Nat → Nat) (e : Nat) : Nat := if s (241 + e) = 4294967295 then s (271 + e) else 4294967295
def w_qending (s : Nat → Nat) (e what : Nat) : Nat := if what = 0 then s (241 + e) else if what = 1 then s (251 + e) else if what = 2 then w_place s e else if what = 3 then w_putDay s e else if what = 4 then b_b ((s 281).testBit e) else if what = 5 then s (282 + e) else w_closes s e
def w_qcount (s : Nat → Nat) (size what : Nat) : Nat := if what = 5 then size else if what < 5 then s what else 4294967295
section MQ2
variable {X : Nat × (Nat → Int32)} {tx : List Int32} {D : Nat} {m j : Nat → Nat → Nat} {w : (Nat × Nat) × Bool}
theorem s_Mo_man (hS : i_S (m 236)) (hI : i_D (m 236)) (hD : 3 ≤ D) {q what : Nat} (hq : q < 4294967296) (hw : what < 4294967296) : a_ex X tx a_T D 243 [.ref 234, .int (nI q), .int (nI what)] (b_h m j w) = some ((b_h (b_r m 234 (b_s (m 234) 0 0)) j w), some (.int (nI (w_qman (m 236) q what)))) := by
  obtain ⟨d, rfl⟩ : ∃ d, D = d + 1 := ⟨D - 1, by omega⟩
  rw [e_Mo_man, q_Mo_man_0]
  have hS2 : i_S ((b_r m 234 (b_s (m 234) 0 0)) 236) := by rw [b_rn (by decide)]; exact hS
  have hI2 : i_D ((b_r m 234 (b_s (m 234) 0 0)) 236) := by rw [b_rn (by decide)]; exact hI
  have qq : (b_r m 234 (b_s (m 234) 0 0)) 236 = m 236 := b_rn (by decide)
  have q0 : (b_r m 234 (b_s (m 234) 0 0)) 236 0 = m 236 0 := by rw [qq]
  have q1 : (b_r m 234 (b_s (m 234) 0 0)) 236 1 = m 236 1 := by rw [qq]
  have q2 : (b_r m 234 (b_s (m 234) 0 0)) 236 2 = m 236 2 := by rw [qq]
  have q3 : (b_r m 234 (b_s (m 234) 0 0)) 236 3 = m 236 3 := by rw [qq]
  have hK := i_S_K hS
  have hM := i_S_M hS
  have hT := i_S_T hS
  have hE := i_S_E hS
  unfold w_qman
  by_cases c1 : q < m 236 1
  · rw [if_pos c1]
    simp (disch := omega) only [s_Mo_isMan hS2, decide_eq_false_iff_not, ↓bc_234, ↓br_234_6, ↓bc_236, ↓bx_236, bl_236, ↓b_t0, ↓b_t1, ↓b_t2, ↓b_t3, ↓b_t4, ↓b_t5, ↓b_t6, Nat.zero_add, Nat.le_refl, b_rs, b_rn, b_r2, b_ss, b_sn, b_bt, b_bf, b_b0, b_b1, b_bw, b_shl, b_or, b_iv, b_jv, b_sI, b_sJ, ↓z_hl, z_b0, z_b1, z_b2, b_and1c, b_and1z, if_true, if_false, nI_add, pk_mul, b_cl, b_lt, b_le, b_eq, b_eq0, b_le0, b_0lt, b_0le, b_lt0]
    rw [if_neg (fun h => h c1), ← l_Mo_man_13]
    refine z_loop (fun n => [.ref 234, .int (nI q), .int (nI what), .int (nI (z_set (fun t => decide (m 236 (11 + t) = q)) n)), .int (nI n)]) (fun n => b_h (b_r m 234 (b_s (m 234) 0 0)) j w) (m 236 2) 0 ?_ ?_ _ (z_fu (by omega))
    · intro n hn f _
      rw [l_Mo_man_13, q_Mo_man_13]
      have h1 := i_S_wh hS n hn
      simp (disch := omega) only [↓bc_234, ↓br_234_6, ↓bc_236, ↓bx_236, bl_236, ↓b_t0, ↓b_t1, ↓b_t2, ↓b_t3, ↓b_t4, ↓b_t5, ↓b_t6, Nat.zero_add, Nat.le_refl, b_rs, b_rn, b_r2, b_ss, b_sn, b_bt, b_bf, b_b0, b_b1, b_bw, b_shl, b_or, b_iv, b_jv, b_sI, b_sJ, ↓z_hl, z_b0, z_b1, z_b2, b_and1c, b_and1z, if_true, if_false, nI_add, pk_mul, b_cl, b_lt, b_le, b_eq, b_eq0, b_le0, b_0lt, b_0le, b_lt0]
      rw [if_neg (by omega)]
      by_cases h : m 236 (11 + n) = q
      · rw [if_pos h, z_set_t (by simpa using h)]
      · rw [if_neg h, z_set_f (by simpa using h), Nat.or_zero]
    · intro f _
      rw [l_Mo_man_13, q_Mo_man_13]
      obtain h | h | h | h | h | h : what = 0 ∨ what = 1 ∨ what = 2 ∨ what = 3 ∨ what = 4 ∨ 5 ≤ what := by omega
      · subst h; simp (disch := omega) only [↓bc_234, ↓br_234_6, ↓bc_236, ↓bx_236, bl_236, ↓b_t0, ↓b_t1, ↓b_t2, ↓b_t3, ↓b_t4, ↓b_t5, ↓b_t6, Nat.zero_add, Nat.le_refl, b_rs, b_rn, b_r2, b_ss, b_sn, b_bt, b_bf, b_b0, b_b1, b_bw, b_shl, b_or, b_iv, b_jv, b_sI, b_sJ, ↓z_hl, z_b0, z_b1, z_b2, b_and1c, b_and1z, if_true, if_false, nI_add, pk_mul, b_cl, b_lt, b_le, b_eq, b_eq0, b_le0, b_0lt, b_0le, b_lt0]
      · subst h; simp (disch := omega) only [Nat.one_ne_zero, ↓bc_234, ↓br_234_6, ↓bc_236, ↓bx_236, bl_236, ↓b_t0, ↓b_t1, ↓b_t2, ↓b_t3, ↓b_t4, ↓b_t5, ↓b_t6, Nat.zero_add, Nat.le_refl, b_rs, b_rn, b_r2, b_ss, b_sn, b_bt, b_bf, b_b0, b_b1, b_bw, b_shl, b_or, b_iv, b_jv, b_sI, b_sJ, ↓z_hl, z_b0, z_b1, z_b2, b_and1c, b_and1z, if_true, if_false, nI_add, pk_mul, b_cl, b_lt, b_le, b_eq, b_eq0, b_le0, b_0lt, b_0le, b_lt0]; rfl
      · subst h; simp (disch := omega) only [s_Mo_endingsOf hS2 hI2, ↓bc_234, ↓br_234_6, ↓bc_236, ↓bx_236, bl_236, ↓b_t0, ↓b_t1, ↓b_t2, ↓b_t3, ↓b_t4, ↓b_t5, ↓b_t6, Nat.zero_add, Nat.le_refl, b_rs, b_rn, b_r2, b_ss, b_sn, b_bt, b_bf, b_b0, b_b1, b_bw, b_shl, b_or, b_iv, b_jv, b_sI, b_sJ, ↓z_hl, z_b0, z_b1, z_b2, b_and1c, b_and1z, if_true, if_false, nI_add, pk_mul, b_cl, b_lt, b_le, b_eq, b_eq0, b_le0, b_0lt, b_0le, b_lt0]; rfl
      · subst h; simp (disch := omega) only [↓bc_234, ↓br_234_6, ↓bc_236, ↓bx_236, bl_236, ↓b_t0, ↓b_t1, ↓b_t2, ↓b_t3, ↓b_t4, ↓b_t5, ↓b_t6, Nat.zero_add, Nat.le_refl, b_rs, b_rn, b_r2, b_ss, b_sn, b_bt, b_bf, b_b0, b_b1, b_bw, b_shl, b_or, b_iv, b_jv, b_sI, b_sJ, ↓z_hl, z_b0, z_b1, z_b2, b_and1c, b_and1z, if_true, if_false, nI_add, pk_mul, b_cl, b_lt, b_le, b_eq, b_eq0, b_le0, b_0lt, b_0le, b_lt0]; rfl
      · subst h; simp (disch := omega) only [↓bc_234, ↓br_234_6, ↓bc_236, ↓bx_236, bl_236, ↓b_t0, ↓b_t1, ↓b_t2, ↓b_t3, ↓b_t4, ↓b_t5, ↓b_t6, Nat.zero_add, Nat.le_refl, b_rs, b_rn, b_r2, b_ss, b_sn, b_bt, b_bf, b_b0, b_b1, b_bw, b_shl, b_or, b_iv, b_jv, b_sI, b_sJ, ↓z_hl, z_b0, z_b1, z_b2, b_and1c, b_and1z, if_true, if_false, nI_add, pk_mul, b_cl, b_lt, b_le, b_eq, b_eq0, b_le0, b_0lt, b_0le, b_lt0]; rfl
      · rw [if_neg (by omega), if_neg (by omega), if_neg (by omega), if_neg (by omega), if_neg (by omega)]
        simp (disch := omega) only [↓bc_234, ↓br_234_6, ↓bc_236, ↓bx_236, bl_236, ↓b_t0, ↓b_t1, ↓b_t2, ↓b_t3, ↓b_t4, ↓b_t5, ↓b_t6, Nat.zero_add, Nat.le_refl, b_rs, b_rn, b_r2, b_ss, b_sn, b_bt, b_bf, b_b0, b_b1, b_bw, b_shl, b_or, b_iv, b_jv, b_sI, b_sJ, ↓z_hl, z_b0, z_b1, z_b2, b_and1c, b_and1z, if_true, if_false, nI_add, pk_mul, b_cl, b_lt, b_le, b_eq, b_eq0, b_le0, b_0lt, b_0le, b_lt0]
        rw [b_tsd (by simpa using h) hw]
  · rw [if_neg c1]
    simp (disch := omega) only [s_Mo_isMan hS2, decide_eq_false_iff_not, ↓bc_234, ↓br_234_6, ↓bc_236, ↓bx_236, bl_236, ↓b_t0, ↓b_t1, ↓b_t2, ↓b_t3, ↓b_t4, ↓b_t5, ↓b_t6, Nat.zero_add, Nat.le_refl, b_rs, b_rn, b_r2, b_ss, b_sn, b_bt, b_bf, b_b0, b_b1, b_bw, b_shl, b_or, b_iv, b_jv, b_sI, b_sJ, ↓z_hl, z_b0, z_b1, z_b2, b_and1c, b_and1z, if_true, if_false, nI_add, pk_mul, b_cl, b_lt, b_le, b_eq, b_eq0, b_le0, b_0lt, b_0le, b_lt0]
    rw [if_pos c1]
theorem s_Mo_now (hS : i_S (m 236)) (hI : i_D (m 236)) (hD : 4 ≤ D) {what : Nat} (hw : what < 4294967296) : a_ex X tx a_T D 244 [.ref 234, .int (nI what)] (b_h m j w) = some ((b_h (b_r m 234 (b_s (m 234) 0 0)) j w), some (.int (nI (w_qnow (m 236) what)))) := by
  obtain ⟨d, rfl⟩ : ∃ d, D = d + 1 := ⟨D - 1, by omega⟩
  rw [e_Mo_now, q_Mo_now_0]
  have hS2 : i_S ((b_r m 234 (b_s (m 234) 0 0)) 236) := by rw [b_rn (by decide)]; exact hS
  have hI2 : i_D ((b_r m 234 (b_s (m 234) 0 0)) 236) := by rw [b_rn (by decide)]; exact hI
  have qq : (b_r m 234 (b_s (m 234) 0 0)) 236 = m 236 := b_rn (by decide)
  have q0 : (b_r m 234 (b_s (m 234) 0 0)) 236 0 = m 236 0 := by rw [qq]
  have q1 : (b_r m 234 (b_s (m 234) 0 0)) 236 1 = m 236 1 := by rw [qq]
  have q2 : (b_r m 234 (b_s (m 234) 0 0)) 236 2 = m 236 2 := by rw [qq]
  have q3 : (b_r m 234 (b_s (m 234) 0 0)) 236 3 = m 236 3 := by rw [qq]
  have hK := i_S_K hS
  have hM := i_S_M hS
  have hT := i_S_T hS
  have hE := i_S_E hS
  simp (disch := omega) only [↓bc_234, ↓br_234_6, ↓bc_236, ↓bx_236, bl_236, ↓b_t0, ↓b_t1, ↓b_t2, ↓b_t3, ↓b_t4, ↓b_t5, ↓b_t6, Nat.zero_add, Nat.le_refl, b_rs, b_rn, b_r2, b_ss, b_sn, b_bt, b_bf, b_b0, b_b1, b_bw, b_shl, b_or, b_iv, b_jv, b_sI, b_sJ, ↓z_hl, z_b0, z_b1, z_b2, b_and1c, b_and1z, if_true, if_false, nI_add, pk_mul, b_cl, b_lt, b_le, b_eq, b_eq0, b_le0, b_0lt, b_0le, b_lt0]
  rw [← l_Mo_now_9]
  refine z_loop (fun n => [.ref 234, .int (nI what), .int (nI (z_sum (fun i => m 236 (159 + i)) n)), .int (nI 0), .int (nI n)]) (fun n => b_h (b_r m 234 (b_s (m 234) 0 0)) j w) 6 30 ?_ ?_ _ (z_fu (by omega))
  · intro n hn f _
    rw [l_Mo_now_9, q_Mo_now_9]
    simp (disch := omega) only [↓bc_234, ↓br_234_6, ↓bc_236, ↓bx_236, bl_236, ↓b_t0, ↓b_t1, ↓b_t2, ↓b_t3, ↓b_t4, ↓b_t5, ↓b_t6, Nat.zero_add, Nat.le_refl, b_rs, b_rn, b_r2, b_ss, b_sn, b_bt, b_bf, b_b0, b_b1, b_bw, b_shl, b_or, b_iv, b_jv, b_sI, b_sJ, ↓z_hl, z_b0, z_b1, z_b2, b_and1c, b_and1z, if_true, if_false, nI_add, pk_mul, b_cl, b_lt, b_le, b_eq, b_eq0, b_le0, b_0lt, b_0le, b_lt0]
    rw [if_neg (by omega)]
    rfl
  · intro f hf
    rw [l_Mo_now_9, q_Mo_now_9]
    simp (disch := omega) only [↓bc_234, ↓br_234_6, ↓bc_236, ↓bx_236, bl_236, ↓b_t0, ↓b_t1, ↓b_t2, ↓b_t3, ↓b_t4, ↓b_t5, ↓b_t6, Nat.zero_add, Nat.le_refl, b_rs, b_rn, b_r2, b_ss, b_sn, b_bt, b_bf, b_b0, b_b1, b_bw, b_shl, b_or, b_iv, b_jv, b_sI, b_sJ, ↓z_hl, z_b0, z_b1, z_b2, b_and1c, b_and1z, if_true, if_false, nI_add, pk_mul, b_cl, b_lt, b_le, b_eq, b_eq0, b_le0, b_0lt, b_0le, b_lt0]
    rw [← l_Mo_now_25]
    refine z_loop (fun n => [.ref 234, .int (nI what), .int (nI (z_sum (fun i => m 236 (159 + i)) 6)), .int (nI (z_sum (fun t => w_open (m 236) t) n)), .int (nI n)]) (fun n => b_h (b_r m 234 (b_s (m 234) 0 0)) j w) 8 0 ?_ ?_ _ (by omega)
    · intro n hn f _
      rw [l_Mo_now_25, q_Mo_now_25]
      simp (disch := omega) only [s_Mo_openOf, ↓bc_234, ↓br_234_6, ↓bc_236, ↓bx_236, bl_236, ↓b_t0, ↓b_t1, ↓b_t2, ↓b_t3, ↓b_t4, ↓b_t5, ↓b_t6, Nat.zero_add, Nat.le_refl, b_rs, b_rn, b_r2, b_ss, b_sn, b_bt, b_bf, b_b0, b_b1, b_bw, b_shl, b_or, b_iv, b_jv, b_sI, b_sJ, ↓z_hl, z_b0, z_b1, z_b2, b_and1c, b_and1z, if_true, if_false, nI_add, pk_mul, b_cl, b_lt, b_le, b_eq, b_eq0, b_le0, b_0lt, b_0le, b_lt0]
      rw [if_neg (by omega)]
      rfl
    · intro f _
      rw [l_Mo_now_25, q_Mo_now_25]
      unfold w_qnow
      obtain h | h | h | h | h | h | h : what = 0 ∨ what = 1 ∨ what = 2 ∨ what = 3 ∨ what = 4 ∨ what = 5 ∨ 6 ≤ what := by omega
      · subst h; simp (disch := omega) only [↓bc_234, ↓br_234_6, ↓bc_236, ↓bx_236, bl_236, ↓b_t0, ↓b_t1, ↓b_t2, ↓b_t3, ↓b_t4, ↓b_t5, ↓b_t6, Nat.zero_add, Nat.le_refl, b_rs, b_rn, b_r2, b_ss, b_sn, b_bt, b_bf, b_b0, b_b1, b_bw, b_shl, b_or, b_iv, b_jv, b_sI, b_sJ, ↓z_hl, z_b0, z_b1, z_b2, b_and1c, b_and1z, if_true, if_false, nI_add, pk_mul, b_cl, b_lt, b_le, b_eq, b_eq0, b_le0, b_0lt, b_0le, b_lt0]
      · subst h; simp (disch := omega) only [s_Mo_endedSet hS2 hI2, Nat.one_ne_zero, ↓bc_234, ↓br_234_6, ↓bc_236, ↓bx_236, bl_236, ↓b_t0, ↓b_t1, ↓b_t2, ↓b_t3, ↓b_t4, ↓b_t5, ↓b_t6, Nat.zero_add, Nat.le_refl, b_rs, b_rn, b_r2, b_ss, b_sn, b_bt, b_bf, b_b0, b_b1, b_bw, b_shl, b_or, b_iv, b_jv, b_sI, b_sJ, ↓z_hl, z_b0, z_b1, z_b2, b_and1c, b_and1z, if_true, if_false, nI_add, pk_mul, b_cl, b_lt, b_le, b_eq, b_eq0, b_le0, b_0lt, b_0le, b_lt0]
      · subst h; simp (disch := omega) only [s_Mo_putSet hS2 hI2, ↓bc_234, ↓br_234_6, ↓bc_236, ↓bx_236, bl_236, ↓b_t0, ↓b_t1, ↓b_t2, ↓b_t3, ↓b_t4, ↓b_t5, ↓b_t6, Nat.zero_add, Nat.le_refl, b_rs, b_rn, b_r2, b_ss, b_sn, b_bt, b_bf, b_b0, b_b1, b_bw, b_shl, b_or, b_iv, b_jv, b_sI, b_sJ, ↓z_hl, z_b0, z_b1, z_b2, b_and1c, b_and1z, if_true, if_false, nI_add, pk_mul, b_cl, b_lt, b_le, b_eq, b_eq0, b_le0, b_0lt, b_0le, b_lt0]; rfl
      · subst h; simp (disch := omega) only [↓bc_234, ↓br_234_6, ↓bc_236, ↓bx_236, bl_236, ↓b_t0, ↓b_t1, ↓b_t2, ↓b_t3, ↓b_t4, ↓b_t5, ↓b_t6, Nat.zero_add, Nat.le_refl, b_rs, b_rn, b_r2, b_ss, b_sn, b_bt, b_bf, b_b0, b_b1, b_bw, b_shl, b_or, b_iv, b_jv, b_sI, b_sJ, ↓z_hl, z_b0, z_b1, z_b2, b_and1c, b_and1z, if_true, if_false, nI_add, pk_mul, b_cl, b_lt, b_le, b_eq, b_eq0, b_le0, b_0lt, b_0le, b_lt0]; rfl
      · subst h; simp (disch := omega) only [↓bc_234, ↓br_234_6, ↓bc_236, ↓bx_236, bl_236, ↓b_t0, ↓b_t1, ↓b_t2, ↓b_t3, ↓b_t4, ↓b_t5, ↓b_t6, Nat.zero_add, Nat.le_refl, b_rs, b_rn, b_r2, b_ss, b_sn, b_bt, b_bf, b_b0, b_b1, b_bw, b_shl, b_or, b_iv, b_jv, b_sI, b_sJ, ↓z_hl, z_b0, z_b1, z_b2, b_and1c, b_and1z, if_true, if_false, nI_add, pk_mul, b_cl, b_lt, b_le, b_eq, b_eq0, b_le0, b_0lt, b_0le, b_lt0]; rfl
      · subst h; simp (disch := omega) only [↓bc_234, ↓br_234_6, ↓bc_236, ↓bx_236, bl_236, ↓b_t0, ↓b_t1, ↓b_t2, ↓b_t3, ↓b_t4, ↓b_t5, ↓b_t6, Nat.zero_add, Nat.le_refl, b_rs, b_rn, b_r2, b_ss, b_sn, b_bt, b_bf, b_b0, b_b1, b_bw, b_shl, b_or, b_iv, b_jv, b_sI, b_sJ, ↓z_hl, z_b0, z_b1, z_b2, b_and1c, b_and1z, if_true, if_false, nI_add, pk_mul, b_cl, b_lt, b_le, b_eq, b_eq0, b_le0, b_0lt, b_0le, b_lt0]; rfl
      · simp (disch := omega) only [↓bc_234, ↓br_234_6, ↓bc_236, ↓bx_236, bl_236, ↓b_t0, ↓b_t1, ↓b_t2, ↓b_t3, ↓b_t4, ↓b_t5, ↓b_t6, Nat.zero_add, Nat.le_refl, b_rs, b_rn, b_r2, b_ss, b_sn, b_bt, b_bf, b_b0, b_b1, b_bw, b_shl, b_or, b_iv, b_jv, b_sI, b_sJ, ↓z_hl, z_b0, z_b1, z_b2, b_and1c, b_and1z, if_true, if_false, nI_add, pk_mul, b_cl, b_lt, b_le, b_eq, b_eq0, b_le0, b_0lt, b_0le, b_lt0]
        rw [b_tsd (by simpa using h) hw, if_neg (by omega), if_neg (by omega), if_neg (by omega), if_neg (by omega), if_neg (by omega), if_neg (by omega)]
theorem s_Mo_count (hS : i_S (m 236)) (hI : i_D (m 236)) (hD : 2 ≤ D) {what : Nat} (hw : what < 4294967296) : a_ex X tx a_T D 314 [.ref 234, .int (nI what)] (b_h m j w) = some ((b_h (b_r m 234 (b_s (m 234) 0 0)) j w), some (.int (nI (w_qcount (m 236) (m 234 2) what)))) := by
  obtain ⟨d, rfl⟩ : ∃ d, D = d + 1 := ⟨D - 1, by omega⟩
  rw [e_Mo_count, q_Mo_count_0]
  unfold w_qcount
  by_cases c1 : what = 5
  · rw [if_pos c1]
    subst c1
    simp (disch := omega) only [↓bc_234, ↓br_234_6, ↓bc_236, ↓bx_236, bl_236, ↓b_t0, ↓b_t1, ↓b_t2, ↓b_t3, ↓b_t4, ↓b_t5, ↓b_t6, Nat.zero_add, Nat.le_refl, b_rs, b_rn, b_r2, b_ss, b_sn, b_bt, b_bf, b_b0, b_b1, b_bw, b_shl, b_or, b_iv, b_jv, b_sI, b_sJ, ↓z_hl, z_b0, z_b1, z_b2, b_and1c, b_and1z, if_true, if_false, nI_add, pk_mul, b_cl, b_lt, b_le, b_eq, b_eq0, b_le0, b_0lt, b_0le, b_lt0]
  · rw [if_neg c1]
    have e1 : (nI what = nI 5) = False := by rw [b_eq hw (by decide)]; exact propext ⟨fun h => c1 h, fun h => h.elim⟩
    by_cases c2 : what < 5
    · rw [if_pos c2]
      have e2 : decide (0 ≤ what ∧ what ≤ 4) = true := decide_eq_true (by omega)
      simp (disch := omega) only [e1, s_Mo_isIn, e2, ↓bc_234, ↓br_234_6, ↓bc_236, ↓bx_236, bl_236, ↓b_t0, ↓b_t1, ↓b_t2, ↓b_t3, ↓b_t4, ↓b_t5, ↓b_t6, Nat.zero_add, Nat.le_refl, b_rs, b_rn, b_r2, b_ss, b_sn, b_bt, b_bf, b_b0, b_b1, b_bw, b_shl, b_or, b_iv, b_jv, b_sI, b_sJ, ↓z_hl, z_b0, z_b1, z_b2, b_and1c, b_and1z, if_true, if_false, nI_add, pk_mul, b_cl, b_lt, b_le, b_eq, b_eq0, b_le0, b_0lt, b_0le, b_lt0]
      rw [if_neg (by decide)]
    · rw [if_neg c2]
      have e2 : decide (0 ≤ what ∧ what ≤ 4) = false := decide_eq_false (by omega)
      simp (disch := omega) only [e1, s_Mo_isIn, e2, ↓bc_234, ↓br_234_6, ↓bc_236, ↓bx_236, bl_236, ↓b_t0, ↓b_t1, ↓b_t2, ↓b_t3, ↓b_t4, ↓b_t5, ↓b_t6, Nat.zero_add, Nat.le_refl, b_rs, b_rn, b_r2, b_ss, b_sn, b_bt, b_bf, b_b0, b_b1, b_bw, b_shl, b_or, b_iv, b_jv, b_sI, b_sJ, ↓z_hl, z_b0, z_b1, z_b2, b_and1c, b_and1z, if_true, if_false, nI_add, pk_mul, b_cl, b_lt, b_le, b_eq, b_eq0, b_le0, b_0lt, b_0le, b_lt0]
theorem s_Mo_thing23 {d f : Nat} (hS : i_S (m 236)) (hI : i_D (m 236)) (hd : 3 ≤ d) (hf : 50 ≤ f) {t what : Nat} (ht : t < m 236 2) (hw : what < 6) : a_rn X tx (a_ex X tx a_T d) (a_go X tx (a_ex X tx a_T d) k_Mo_thing_0 f) k_Mo_thing_23 0 [.ref 234, .int (nI t), .int (nI what), .int (nI 0), .int (nI 0), .int (nI 0)] [] (b_h m j w) = some (b_h m j w, some (.int (nI (w_qthing (m 236) t what)))) := by
  have hT := i_S_T hS
  have hE := i_S_E hS
  rw [← l_Mo_thing_23]
  refine z_loop (fun n => [.ref 234, .int (nI t), .int (nI what), .int (nI (z_set (fun k => decide (m 236 (177 + 6 * t + k) ≠ 0)) n)), .int (nI 0), .int (nI n)]) (fun n => b_h m j w) 6 30 ?_ ?_ _ (by omega)
  · intro n hn f _
    rw [l_Mo_thing_23, q_Mo_thing_23]
    have h1 := i_D_op hI t (by omega) n hn
    simp (disch := omega) only [↓bc_234, ↓br_234_6, ↓bc_236, ↓bx_236, bl_236, ↓b_t0, ↓b_t1, ↓b_t2, ↓b_t3, ↓b_t4, ↓b_t5, ↓b_t6, Nat.zero_add, Nat.le_refl, b_rs, b_rn, b_r2, b_ss, b_sn, b_bt, b_bf, b_b0, b_b1, b_bw, b_shl, b_or, b_iv, b_jv, b_sI, b_sJ, ↓z_hl, z_b0, z_b1, z_b2, b_and1c, b_and1z, if_true, if_false, nI_add, pk_mul, b_cl, b_lt, b_le, b_eq, b_eq0, b_le0, b_0lt, b_0le, b_lt0]
    rw [if_neg (by omega)]
    by_cases h : m 236 (177 + 6 * t + n) = 0
    · rw [if_pos h, z_set_f (by simpa using h), Nat.or_zero]
    · rw [if_neg h, z_set_t (by simpa using h)]
  · intro f hf
    rw [l_Mo_thing_23, q_Mo_thing_23]
    simp (disch := omega) only [↓bc_234, ↓br_234_6, ↓bc_236, ↓bx_236, bl_236, ↓b_t0, ↓b_t1, ↓b_t2, ↓b_t3, ↓b_t4, ↓b_t5, ↓b_t6, Nat.zero_add, Nat.le_refl, b_rs, b_rn, b_r2, b_ss, b_sn, b_bt, b_bf, b_b0, b_b1, b_bw, b_shl, b_or, b_iv, b_jv, b_sI, b_sJ, ↓z_hl, z_b0, z_b1, z_b2, b_and1c, b_and1z, if_true, if_false, nI_add, pk_mul, b_cl, b_lt, b_le, b_eq, b_eq0, b_le0, b_0lt, b_0le, b_lt0]
    rw [← l_Mo_thing_49]
    refine z_loop (fun n => [.ref 234, .int (nI t), .int (nI what), .int (nI (z_set (fun k => decide (m 236 (177 + 6 * t + k) ≠ 0)) 6)), .int (nI (z_set (fun e => w_fit (m 236) e t) n)), .int (nI n)]) (fun n => b_h m j w) (m 236 3) 0 ?_ ?_ _ (by omega)
    · intro n hn f _
      rw [l_Mo_thing_49, q_Mo_thing_49]
      simp (disch := omega) only [s_Mo_doesFit hS hI, ↓bc_234, ↓br_234_6, ↓bc_236, ↓bx_236, bl_236, ↓b_t0, ↓b_t1, ↓b_t2, ↓b_t3, ↓b_t4, ↓b_t5, ↓b_t6, Nat.zero_add, Nat.le_refl, b_rs, b_rn, b_r2, b_ss, b_sn, b_bt, b_bf, b_b0, b_b1, b_bw, b_shl, b_or, b_iv, b_jv, b_sI, b_sJ, ↓z_hl, z_b0, z_b1, z_b2, b_and1c, b_and1z, if_true, if_false, nI_add, pk_mul, b_cl, b_lt, b_le, b_eq, b_eq0, b_le0, b_0lt, b_0le, b_lt0]
      rw [if_neg (by omega)]
      by_cases h : w_fit (m 236) n t = true
      · rw [if_neg (by rw [h]; decide), z_set_t (c := fun e => w_fit (m 236) e t) h]
      · rw [if_pos (Bool.eq_false_iff.mpr h), z_set_f (c := fun e => w_fit (m 236) e t) (Bool.eq_false_iff.mpr h), Nat.or_zero]
    · intro f _
      rw [l_Mo_thing_49, q_Mo_thing_49]
      unfold w_qthing
      obtain h | h | h | h | h | h : what = 0 ∨ what = 1 ∨ what = 2 ∨ what = 3 ∨ what = 4 ∨ what = 5 := by omega
      · subst h; simp (disch := omega) only [↓bc_234, ↓br_234_6, ↓bc_236, ↓bx_236, bl_236, ↓b_t0, ↓b_t1, ↓b_t2, ↓b_t3, ↓b_t4, ↓b_t5, ↓b_t6, Nat.zero_add, Nat.le_refl, b_rs, b_rn, b_r2, b_ss, b_sn, b_bt, b_bf, b_b0, b_b1, b_bw, b_shl, b_or, b_iv, b_jv, b_sI, b_sJ, ↓z_hl, z_b0, z_b1, z_b2, b_and1c, b_and1z, if_true, if_false, nI_add, pk_mul, b_cl, b_lt, b_le, b_eq, b_eq0, b_le0, b_0lt, b_0le, b_lt0]
      · subst h; simp (disch := omega) only [s_Mo_openOf, Nat.one_ne_zero, ↓bc_234, ↓br_234_6, ↓bc_236, ↓bx_236, bl_236, ↓b_t0, ↓b_t1, ↓b_t2, ↓b_t3, ↓b_t4, ↓b_t5, ↓b_t6, Nat.zero_add, Nat.le_refl, b_rs, b_rn, b_r2, b_ss, b_sn, b_bt, b_bf, b_b0, b_b1, b_bw, b_shl, b_or, b_iv, b_jv, b_sI, b_sJ, ↓z_hl, z_b0, z_b1, z_b2, b_and1c, b_and1z, if_true, if_false, nI_add, pk_mul, b_cl, b_lt, b_le, b_eq, b_eq0, b_le0, b_0lt, b_0le, b_lt0]
      · subst h; simp (disch := omega) only [↓bc_234, ↓br_234_6, ↓bc_236, ↓bx_236, bl_236, ↓b_t0, ↓b_t1, ↓b_t2, ↓b_t3, ↓b_t4, ↓b_t5, ↓b_t6, Nat.zero_add, Nat.le_refl, b_rs, b_rn, b_r2, b_ss, b_sn, b_bt, b_bf, b_b0, b_b1, b_bw, b_shl, b_or, b_iv, b_jv, b_sI, b_sJ, ↓z_hl, z_b0, z_b1, z_b2, b_and1c, b_and1z, if_true, if_false, nI_add, pk_mul, b_cl, b_lt, b_le, b_eq, b_eq0, b_le0, b_0lt, b_0le, b_lt0]; rfl
      · subst h; simp (disch := omega) only [↓bc_234, ↓br_234_6, ↓bc_236, ↓bx_236, bl_236, ↓b_t0, ↓b_t1, ↓b_t2, ↓b_t3, ↓b_t4, ↓b_t5, ↓b_t6, Nat.zero_add, Nat.le_refl, b_rs, b_rn, b_r2, b_ss, b_sn, b_bt, b_bf, b_b0, b_b1, b_bw, b_shl, b_or, b_iv, b_jv, b_sI, b_sJ, ↓z_hl, z_b0, z_b1, z_b2, b_and1c, b_and1z, if_true, if_false, nI_add, pk_mul, b_cl, b_lt, b_le, b_eq, b_eq0, b_le0, b_0lt, b_0le, b_lt0]; rfl
      · subst h; simp (disch := omega) only [↓bc_234, ↓br_234_6, ↓bc_236, ↓bx_236, bl_236, ↓b_t0, ↓b_t1, ↓b_t2, ↓b_t3, ↓b_t4, ↓b_t5, ↓b_t6, Nat.zero_add, Nat.le_refl, b_rs, b_rn, b_r2, b_ss, b_sn, b_bt, b_bf, b_b0, b_b1, b_bw, b_shl, b_or, b_iv, b_jv, b_sI, b_sJ, ↓z_hl, z_b0, z_b1, z_b2, b_and1c, b_and1z, if_true, if_false, nI_add, pk_mul, b_cl, b_lt, b_le, b_eq, b_eq0, b_le0, b_0lt, b_0le, b_lt0]; rfl
      · subst h
        simp (disch := omega) only [↓bc_234, ↓br_234_6, ↓bc_236, ↓bx_236, bl_236, ↓b_t0, ↓b_t1, ↓b_t2, ↓b_t3, ↓b_t4, ↓b_t5, ↓b_t6, Nat.zero_add, Nat.le_refl, b_rs, b_rn, b_r2, b_ss, b_sn, b_bt, b_bf, b_b0, b_b1, b_bw, b_shl, b_or, b_iv, b_jv, b_sI, b_sJ, ↓z_hl, z_b0, z_b1, z_b2, b_and1c, b_and1z, if_true, if_false, nI_add, pk_mul, b_cl, b_lt, b_le, b_eq, b_eq0, b_le0, b_0lt, b_0le, b_lt0]
        rw [b_tsd (by simp) (by decide)]
        rfl
theorem s_Mo_thing (hS : i_S (m 236)) (hI : i_D (m 236)) (hD : 4 ≤ D) {t what : Nat} (ht : t < m 236 2) (hw : what < 6) : a_ex X tx a_T D 239 [.ref 234, .int (nI t), .int (nI what)] (b_h m j w) = some ((b_h (b_r m 234 (b_s (m 234) 0 0)) j w), some (.int (nI (w_qthing (m 236) t what)))) := by
  obtain ⟨d, rfl⟩ : ∃ d, D = d + 1 := ⟨D - 1, by omega⟩
  rw [e_Mo_thing, q_Mo_thing_0]
  have hT := i_S_T hS
  have e1 : decide (t < m 236 2) = true := decide_eq_true ht
  have e2 : decide (0 ≤ what ∧ what ≤ 5) = true := decide_eq_true (by omega)
  have e3 := s_Mo_throwsIf (X := X) (tx := tx) (D := d) (m := m) (j := j) (w := w) (by omega) (c := false)
  rw [b_bf] at e3
  simp (disch := omega) only [s_Mo_isThing hS, s_Mo_isIn, e1, e2, e3, ↓bc_234, ↓br_234_6, ↓bc_236, ↓bx_236, bl_236, ↓b_t0, ↓b_t1, ↓b_t2, ↓b_t3, ↓b_t4, ↓b_t5, ↓b_t6, Nat.zero_add, Nat.le_refl, b_rs, b_rn, b_r2, b_ss, b_sn, b_bt, b_bf, b_b0, b_b1, b_bw, b_shl, b_or, b_iv, b_jv, b_sI, b_sJ, ↓z_hl, z_b0, z_b1, z_b2, b_and1c, b_and1z, if_true, if_false, nI_add, pk_mul, b_cl, b_lt, b_le, b_eq, b_eq0, b_le0, b_0lt, b_0le, b_lt0]
  have h1 := s_Mo_thing23 (X := X) (tx := tx) (m := b_r m 234 (b_s (m 234) 0 0)) (j := j) (w := w) (d := d) (f := a_f1) (t := t) (what := what) (by rw [b_rn (by decide)]; exact hS) (by rw [b_rn (by decide)]; exact hI) (by omega) (Nat.le_of_ble_eq_true rfl) (by rw [b_rn (by decide)]; exact ht) hw
  rw [b_rn (by decide)] at h1
  rw [if_neg (by decide), if_neg (by decide)]
  exact h1
theorem s_Mo_thingT (hS : i_S (m 236)) (hD : 4 ≤ D) {t what : Nat} (ht : t < 4294967296) (hw : what < 4294967296) (hn : ¬ (t < m 236 2 ∧ what < 6)) : a_ex X tx a_T D 239 [.ref 234, .int (nI t), .int (nI what)] (b_h m j w) = some ((b_h (b_r m 234 (b_s (m 234) 0 1)) j w), some (.int (nI (0)))) := by
  obtain ⟨d, rfl⟩ : ∃ d, D = d + 1 := ⟨D - 1, by omega⟩
  rw [e_Mo_thing, q_Mo_thing_0]
  have e3 := s_Mo_throwsIf (X := X) (tx := tx) (D := d) (m := m) (j := j) (w := w) (by omega) (c := true)
  rw [b_bt] at e3
  have e4 : ¬ (1 = 0) := by decide
  by_cases c1 : t < m 236 2
  · have e1 : decide (t < m 236 2) = true := decide_eq_true c1
    have e2 : decide (0 ≤ what ∧ what ≤ 5) = false := decide_eq_false (by omega)
    simp (disch := omega) only [s_Mo_isThing hS, s_Mo_isIn, e1, e2, e3, e4, ↓bc_234, ↓br_234_6, ↓bc_236, ↓bx_236, bl_236, ↓b_t0, ↓b_t1, ↓b_t2, ↓b_t3, ↓b_t4, ↓b_t5, ↓b_t6, Nat.zero_add, Nat.le_refl, b_rs, b_rn, b_r2, b_ss, b_sn, b_bt, b_bf, b_b0, b_b1, b_bw, b_shl, b_or, b_iv, b_jv, b_sI, b_sJ, ↓z_hl, z_b0, z_b1, z_b2, b_and1c, b_and1z, if_true, if_false, nI_add, pk_mul, b_cl, b_lt, b_le, b_eq, b_eq0, b_le0, b_0lt, b_0le, b_lt0]
    try rw [if_neg (by decide)]
  · have e1 : decide (t < m 236 2) = false := decide_eq_false c1
    simp (disch := omega) only [s_Mo_isThing hS, e1, e3, e4, ↓bc_234, ↓br_234_6, ↓bc_236, ↓bx_236, bl_236, ↓b_t0, ↓b_t1, ↓b_t2, ↓b_t3, ↓b_t4, ↓b_t5, ↓b_t6, Nat.zero_add, Nat.le_refl, b_rs, b_rn, b_r2, b_ss, b_sn, b_bt, b_bf, b_b0, b_b1, b_bw, b_shl, b_or, b_iv, b_jv, b_sI, b_sJ, ↓z_hl, z_b0, z_b1, z_b2, b_and1c, b_and1z, if_true, if_false, nI_add, pk_mul, b_cl, b_lt, b_le, b_eq, b_eq0, b_le0, b_0lt, b_0le, b_lt0]
theorem s_Mo_ending21 {d f : Nat} (hS : i_S (m 236)) (hI : i_D (m 236)) (hd : 3 ≤ d) (hf : 50 ≤ f) {e what : Nat} (he : e < m 236 3) (hw : what < 7) : a_rn X tx (a_ex X tx a_T d) (a_go X tx (a_ex X tx a_T d) k_Mo_ending_0 f) k_Mo_ending_21 0 [.ref 234, .int (nI e), .int (nI what), .int (nI 0), .int (nI 0)] [] (b_h m j w) = some (b_h m j w, some (.int (nI (w_qending (m 236) e what)))) := by
  have hE := i_S_E hS
  rw [← l_Mo_ending_21]
  refine z_loop (fun n => [.ref 234, .int (nI e), .int (nI what), .int (nI (z_sum (fun k => m 236 (87 + 6 * e + k)) n)), .int (nI n)]) (fun n => b_h m j w) 6 0 ?_ ?_ _ (by omega)
  · intro n hn f _
    rw [l_Mo_ending_21, q_Mo_ending_21]
    simp (disch := omega) only [s_Mo_closed, ↓bc_234, ↓br_234_6, ↓bc_236, ↓bx_236, bl_236, ↓b_t0, ↓b_t1, ↓b_t2, ↓b_t3, ↓b_t4, ↓b_t5, ↓b_t6, Nat.zero_add, Nat.le_refl, b_rs, b_rn, b_r2, b_ss, b_sn, b_bt, b_bf, b_b0, b_b1, b_bw, b_shl, b_or, b_iv, b_jv, b_sI, b_sJ, ↓z_hl, z_b0, z_b1, z_b2, b_and1c, b_and1z, if_true, if_false, nI_add, pk_mul, b_cl, b_lt, b_le, b_eq, b_eq0, b_le0, b_0lt, b_0le, b_lt0]
    rw [if_neg (by omega)]
    rfl
  · intro f hf
    rw [l_Mo_ending_21, q_Mo_ending_21]
    unfold w_qending
    obtain h | h | h | h | h | h | h : what = 0 ∨ what = 1 ∨ what = 2 ∨ what = 3 ∨ what = 4 ∨ what = 5 ∨ what = 6 := by omega
    · subst h; simp (disch := omega) only [↓bc_234, ↓br_234_6, ↓bc_236, ↓bx_236, bl_236, ↓b_t0, ↓b_t1, ↓b_t2, ↓b_t3, ↓b_t4, ↓b_t5, ↓b_t6, Nat.zero_add, Nat.le_refl, b_rs, b_rn, b_r2, b_ss, b_sn, b_bt, b_bf, b_b0, b_b1, b_bw, b_shl, b_or, b_iv, b_jv, b_sI, b_sJ, ↓z_hl, z_b0, z_b1, z_b2, b_and1c, b_and1z, if_true, if_false, nI_add, pk_mul, b_cl, b_lt, b_le, b_eq, b_eq0, b_le0, b_0lt, b_0le, b_lt0]
    · subst h; simp (disch := omega) only [Nat.one_ne_zero, ↓bc_234, ↓br_234_6, ↓bc_236, ↓bx_236, bl_236, ↓b_t0, ↓b_t1, ↓b_t2, ↓b_t3, ↓b_t4, ↓b_t5, ↓b_t6, Nat.zero_add, Nat.le_refl, b_rs, b_rn, b_r2, b_ss, b_sn, b_bt, b_bf, b_b0, b_b1, b_bw, b_shl, b_or, b_iv, b_jv, b_sI, b_sJ, ↓z_hl, z_b0, z_b1, z_b2, b_and1c, b_and1z, if_true, if_false, nI_add, pk_mul, b_cl, b_lt, b_le, b_eq, b_eq0, b_le0, b_0lt, b_0le, b_lt0]
    · subst h
      simp (disch := omega) only [↓bc_234, ↓br_234_6, ↓bc_236, ↓bx_236, bl_236, ↓b_t0, ↓b_t1, ↓b_t2, ↓b_t3, ↓b_t4, ↓b_t5, ↓b_t6, Nat.zero_add, Nat.le_refl, b_rs, b_rn, b_r2, b_ss, b_sn, b_bt, b_bf, b_b0, b_b1, b_bw, b_shl, b_or, b_iv, b_jv, b_sI, b_sJ, ↓z_hl, z_b0, z_b1, z_b2, b_and1c, b_and1z, if_true, if_false, nI_add, pk_mul, b_cl, b_lt, b_le, b_eq, b_eq0, b_le0, b_0lt, b_0le, b_lt0]
      show some (b_h m j w, some (Value.int (nI (m 236 (261 + e)) - nI 1))) = some (b_h m j w, some (Value.int (nI (w_place (m 236) e))))
      unfold w_place
      by_cases c : m 236 (241 + e) = 4294967295
      · have h2 : m 236 (261 + e) ≠ 0 := fun h => ((i_D_pz hI e he).mp h) c
        rw [if_pos c, b_sub (by omega)]
      · rw [if_neg c, (i_D_pz hI e he).mpr c, b_pred0]
    · subst h
      simp (disch := omega) only [s_Mo_isPut hS hI, decide_eq_false_iff_not, ↓bc_234, ↓br_234_6, ↓bc_236, ↓bx_236, bl_236, ↓b_t0, ↓b_t1, ↓b_t2, ↓b_t3, ↓b_t4, ↓b_t5, ↓b_t6, Nat.zero_add, Nat.le_refl, b_rs, b_rn, b_r2, b_ss, b_sn, b_bt, b_bf, b_b0, b_b1, b_bw, b_shl, b_or, b_iv, b_jv, b_sI, b_sJ, ↓z_hl, z_b0, z_b1, z_b2, b_and1c, b_and1z, if_true, if_false, nI_add, pk_mul, b_cl, b_lt, b_le, b_eq, b_eq0, b_le0, b_0lt, b_0le, b_lt0]
      show _ = some (b_h m j w, some (Value.int (nI (w_putDay (m 236) e))))
      unfold w_putDay
      by_cases c : m 236 (241 + e) = 4294967295
      · rw [if_neg (fun h => h c), if_pos c]
      · rw [if_pos c, if_neg c]
    · subst h
      have h2 := i_D_we hI
      simp (disch := omega) only [↓bc_234, ↓br_234_6, ↓bc_236, ↓bx_236, bl_236, ↓b_t0, ↓b_t1, ↓b_t2, ↓b_t3, ↓b_t4, ↓b_t5, ↓b_t6, Nat.zero_add, Nat.le_refl, b_rs, b_rn, b_r2, b_ss, b_sn, b_bt, b_bf, b_b0, b_b1, b_bw, b_shl, b_or, b_iv, b_jv, b_sI, b_sJ, ↓z_hl, z_b0, z_b1, z_b2, b_and1c, b_and1z, if_true, if_false, nI_add, pk_mul, b_cl, b_lt, b_le, b_eq, b_eq0, b_le0, b_0lt, b_0le, b_lt0]
      rw [b_bitv (by omega) (by omega)]
      rfl
    · subst h; simp (disch := omega) only [↓bc_234, ↓br_234_6, ↓bc_236, ↓bx_236, bl_236, ↓b_t0, ↓b_t1, ↓b_t2, ↓b_t3, ↓b_t4, ↓b_t5, ↓b_t6, Nat.zero_add, Nat.le_refl, b_rs, b_rn, b_r2, b_ss, b_sn, b_bt, b_bf, b_b0, b_b1, b_bw, b_shl, b_or, b_iv, b_jv, b_sI, b_sJ, ↓z_hl, z_b0, z_b1, z_b2, b_and1c, b_and1z, if_true, if_false, nI_add, pk_mul, b_cl, b_lt, b_le, b_eq, b_eq0, b_le0, b_0lt, b_0le, b_lt0]; rfl
    · subst h
      simp (disch := omega) only [↓bc_234, ↓br_234_6, ↓bc_236, ↓bx_236, bl_236, ↓b_t0, ↓b_t1, ↓b_t2, ↓b_t3, ↓b_t4, ↓b_t5, ↓b_t6, Nat.zero_add, Nat.le_refl, b_rs, b_rn, b_r2, b_ss, b_sn, b_bt, b_bf, b_b0, b_b1, b_bw, b_shl, b_or, b_iv, b_jv, b_sI, b_sJ, ↓z_hl, z_b0, z_b1, z_b2, b_and1c, b_and1z, if_true, if_false, nI_add, pk_mul, b_cl, b_lt, b_le, b_eq, b_eq0, b_le0, b_0lt, b_0le, b_lt0]
      rw [b_tsd (by simp) (by decide)]
      rfl
theorem s_Mo_ending (hS : i_S (m 236)) (hI : i_D (m 236)) (hD : 4 ≤ D) {e what : Nat} (he : e < m 236 3) (hw : what < 7) : a_ex X tx a_T D 241 [.ref 234, .int (nI e), .int (nI what)] (b_h m j w) = some ((b_h (b_r m 234 (b_s (m 234) 0 0)) j w), some (.int (nI (w_qending (m 236) e what)))) := by
  obtain ⟨d, rfl⟩ : ∃ d, D = d + 1 := ⟨D - 1, by omega⟩
  rw [e_Mo_ending, q_Mo_ending_0]
  have hE := i_S_E hS
  have e1 : decide (e < m 236 3) = true := decide_eq_true he
  have e2 : decide (0 ≤ what ∧ what ≤ 6) = true := decide_eq_true (by omega)
  have e3 := s_Mo_throwsIf (X := X) (tx := tx) (D := d) (m := m) (j := j) (w := w) (by omega) (c := false)
  rw [b_bf] at e3
  simp (disch := omega) only [s_Mo_isEnding hS, s_Mo_isIn, e1, e2, e3, ↓bc_234, ↓br_234_6, ↓bc_236, ↓bx_236, bl_236, ↓b_t0, ↓b_t1, ↓b_t2, ↓b_t3, ↓b_t4, ↓b_t5, ↓b_t6, Nat.zero_add, Nat.le_refl, b_rs, b_rn, b_r2, b_ss, b_sn, b_bt, b_bf, b_b0, b_b1, b_bw, b_shl, b_or, b_iv, b_jv, b_sI, b_sJ, ↓z_hl, z_b0, z_b1, z_b2, b_and1c, b_and1z, if_true, if_false, nI_add, pk_mul, b_cl, b_lt, b_le, b_eq, b_eq0, b_le0, b_0lt, b_0le, b_lt0]
  have h1 := s_Mo_ending21 (X := X) (tx := tx) (m := b_r m 234 (b_s (m 234) 0 0)) (j := j) (w := w) (d := d) (f := a_f1) (e := e) (what := what) (by rw [b_rn (by decide)]; exact hS) (by rw [b_rn (by decide)]; exact hI) (by omega) (Nat.le_of_ble_eq_true rfl) (by rw [b_rn (by decide)]; exact he) hw
  rw [b_rn (by decide)] at h1
  rw [if_neg (by decide), if_neg (by decide)]
  exact h1
theorem s_Mo_endingT (hS : i_S (m 236)) (hD : 4 ≤ D) {e what : Nat} (he : e < 4294967296) (hw : what < 4294967296) (hn : ¬ (e < m 236 3 ∧ what < 7)) : a_ex X tx a_T D 241 [.ref 234, .int (nI e), .int (nI what)] (b_h m j w) = some ((b_h (b_r m 234 (b_s (m 234) 0 1)) j w), some (.int (nI (0)))) := by
  obtain ⟨d, rfl⟩ : ∃ d, D = d + 1 := ⟨D - 1, by omega⟩
  rw [e_Mo_ending, q_Mo_ending_0]
  have e3 := s_Mo_throwsIf (X := X) (tx := tx) (D := d) (m := m) (j := j) (w := w) (by omega) (c := true)
  rw [b_bt] at e3
  have e4 : ¬ (1 = 0) := by decide
  by_cases c1 : e < m 236 3
  · have e1 : decide (e < m 236 3) = true := decide_eq_true c1
    have e2 : decide (0 ≤ what ∧ what ≤ 6) = false := decide_eq_false (by omega)
    simp (disch := omega) only [s_Mo_isEnding hS, s_Mo_isIn, e1, e2, e3, e4, ↓bc_234, ↓br_234_6, ↓bc_236, ↓bx_236, bl_236, ↓b_t0, ↓b_t1, ↓b_t2, ↓b_t3, ↓b_t4, ↓b_t5, ↓b_t6, Nat.zero_add, Nat.le_refl, b_rs, b_rn, b_r2, b_ss, b_sn, b_bt, b_bf, b_b0, b_b1, b_bw, b_shl, b_or, b_iv, b_jv, b_sI, b_sJ, ↓z_hl, z_b0, z_b1, z_b2, b_and1c, b_and1z, if_true, if_false, nI_add, pk_mul, b_cl, b_lt, b_le, b_eq, b_eq0, b_le0, b_0lt, b_0le, b_lt0]
    try rw [if_neg (by decide)]
  · have e1 : decide (e < m 236 3) = false := decide_eq_false c1
    simp (disch := omega) only [s_Mo_isEnding hS, e1, e3, e4, ↓bc_234, ↓br_234_6, ↓bc_236, ↓bx_236, bl_236, ↓b_t0, ↓b_t1, ↓b_t2, ↓b_t3, ↓b_t4, ↓b_t5, ↓b_t6, Nat.zero_add, Nat.le_refl, b_rs, b_rn, b_r2, b_ss, b_sn, b_bt, b_bf, b_b0, b_b1, b_bw, b_shl, b_or, b_iv, b_jv, b_sI, b_sJ, ↓z_hl, z_b0, z_b1, z_b2, b_and1c, b_and1z, if_true, if_false, nI_add, pk_mul, b_cl, b_lt, b_le, b_eq, b_eq0, b_le0, b_0lt, b_0le, b_lt0]
end MQ2
