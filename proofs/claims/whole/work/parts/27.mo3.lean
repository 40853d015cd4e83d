/-! THE REFERENCE: days, what is kept, draws -/
theorem b_subn {a b : Nat} (h : a < b) (hb : b ≤ 4294967296) : nI a - nI b = nI (a + 4294967296 - b) := by
  have e : nI (a + 4294967296 - b) + nI b = nI a := by
    rw [nI_add, Nat.sub_add_cancel (by omega)]
    unfold nI
    apply Int32.toBitVec_inj.mp
    rw [Int32.toBitVec_ofNat', Int32.toBitVec_ofNat']
    apply BitVec.eq_of_toNat_eq
    rw [BitVec.toNat_ofNat, BitVec.toNat_ofNat]
    omega
  rw [← e, Int32.add_sub_cancel]
theorem s_Mo_greatern {X : Nat × (Nat → Int32)} {tx : List Int32} {D : Nat} {m j : Nat → Nat → Nat} {w : (Nat × Nat) × Bool} (hD : 1 ≤ D) {b : Nat} (h1 : 2147483648 ≤ b) (h2 : b < 4294967296) : a_ex X tx a_T D 204 [.int (nI 0), .int (nI b)] (b_h m j w) = some ((b_h m j w), some (.int (nI (0)))) := by
  obtain ⟨d, rfl⟩ : ∃ d, D = d + 1 := ⟨D - 1, by omega⟩
  rw [e_Mo_greater, q_Mo_greater_0]
  rw [if_neg (by rw [b_len h1 h2 (by decide)]; exact id)]
theorem s_Mo_day {X : Nat × (Nat → Int32)} {tx : List Int32} {D : Nat} {m j : Nat → Nat → Nat} {w : (Nat × Nat) × Bool} (hS : i_S (m 236)) (hI : i_D (m 236)) (hD : 3 ≤ D) : a_ex X tx a_T D 250 [.ref 234] (b_h m j w) = some ((b_h (b_r m 236 (w_day (m 236))) j w), none) := by
  obtain ⟨d, rfl⟩ : ∃ d, D = d + 1 := ⟨D - 1, by omega⟩
  rw [e_Mo_day, q_Mo_day_0]
  rw [← l_Mo_day_2]
  have hE := i_S_E hS
  refine z_lp (fun n => [.ref 234, .int (nI n)]) (fun n => b_h (b_r m 236 (w_dloop (m 236) n)) j w) (m 236 3) 0 rfl (by show _ = b_h (b_r m 236 (m 236)) j w; rw [b_ri rfl]) ?_ ?_ _ (z_fu (by omega))
  · intro n hn f _
    rw [l_Mo_day_2, q_Mo_day_2]
    obtain ⟨h1, h2, h3, -⟩ := w_dloop_ok hS hI n (by omega)
    show _ = a_go X tx (a_ex X tx a_T d) k_Mo_day_0 f 2 [.ref 234, .int (nI (n + 1))] (b_h (b_r m 236 (w_dstep (w_dloop (m 236) n) n)) j w)
    generalize hs : w_dloop (m 236) n = s at h1 h2 h3 ⊢
    have f3 := h3 3 (by omega)
    have g1 := i_D_pr h1 n (by omega)
    have g2 := i_S_fd h2 n (by omega)
    have g3 := i_D_we h1
    have g4 := i_D_da h1
    have g5 := i_S_U h2
    have p1 : i_S ((b_r m 236 s) 236) := by rw [b_rs]; exact h2
    have p2 : i_D ((b_r m 236 s) 236) := by rw [b_rs]; exact h1
    have q3 : (b_r m 236 s) 236 3 = s 3 := by rw [b_rs]
    have q4 : (b_r m 236 s) 236 (241 + n) = s (241 + n) := by rw [b_rs]
    unfold w_dstep
    by_cases c1 : s (241 + n) = 4294967295
    · have g6 := i_D_po h1 n (by omega) c1
      have g7 : s (271 + n) + s (147 + n) < 2147483648 := by omega
      by_cases c2 : 0 < s (147 + n)
      · by_cases c3 : (s 281).testBit n = false
        · by_cases c4 : s 157 + 1 = s (271 + n) + s (147 + n)
          · rw [if_pos c1, if_pos ⟨c2, c3, c4⟩]
            have c5 : s 157 = s (271 + n) + s (147 + n) - 1 := by omega
            simp (disch := omega) only [s_Mo_isPut p1 p2, s_Mo_bitOf, s_Mo_goesOnInDark p1 p2, b_sub, decide_eq_false_iff_not, ↓bc_234, ↓br_234_6, ↓bc_236, ↓bx_236, bl_236, ↓b_t0, ↓b_t1, ↓b_t2, ↓b_t3, ↓b_t4, ↓b_t5, ↓b_t6, Nat.zero_add, Nat.le_refl, b_rs, b_rn, b_r2, b_ss, b_sn, b_bt, b_bf, b_b0, b_b1, b_bw, b_shl, b_or, b_iv, b_jv, b_sI, b_sJ, ↓z_hl, z_b0, z_b1, z_b2, b_and1c, b_and1z, if_true, if_false, nI_add, pk_mul, b_cl, b_lt, b_le, b_eq, b_eq0, b_le0, b_0lt, b_0le, b_lt0]
            rw [if_neg (by omega), if_neg (by simpa using c1), if_neg (by omega), if_pos c3, if_pos c5]
          · rw [if_pos c1, if_neg (fun h => c4 h.2.2)]
            have c5 : ¬ s 157 = s (271 + n) + s (147 + n) - 1 := by omega
            simp (disch := omega) only [s_Mo_isPut p1 p2, s_Mo_bitOf, b_sub, decide_eq_false_iff_not, ↓bc_234, ↓br_234_6, ↓bc_236, ↓bx_236, bl_236, ↓b_t0, ↓b_t1, ↓b_t2, ↓b_t3, ↓b_t4, ↓b_t5, ↓b_t6, Nat.zero_add, Nat.le_refl, b_rs, b_rn, b_r2, b_ss, b_sn, b_bt, b_bf, b_b0, b_b1, b_bw, b_shl, b_or, b_iv, b_jv, b_sI, b_sJ, ↓z_hl, z_b0, z_b1, z_b2, b_and1c, b_and1z, if_true, if_false, nI_add, pk_mul, b_cl, b_lt, b_le, b_eq, b_eq0, b_le0, b_0lt, b_0le, b_lt0]
            rw [if_neg (by omega), if_neg (by simpa using c1), if_neg (by omega), if_pos c3, if_neg c5]
        · rw [if_pos c1, if_neg (fun h => c3 h.2.1)]
          simp (disch := omega) only [s_Mo_isPut p1 p2, s_Mo_bitOf, b_sub, decide_eq_false_iff_not, ↓bc_234, ↓br_234_6, ↓bc_236, ↓bx_236, bl_236, ↓b_t0, ↓b_t1, ↓b_t2, ↓b_t3, ↓b_t4, ↓b_t5, ↓b_t6, Nat.zero_add, Nat.le_refl, b_rs, b_rn, b_r2, b_ss, b_sn, b_bt, b_bf, b_b0, b_b1, b_bw, b_shl, b_or, b_iv, b_jv, b_sI, b_sJ, ↓z_hl, z_b0, z_b1, z_b2, b_and1c, b_and1z, if_true, if_false, nI_add, pk_mul, b_cl, b_lt, b_le, b_eq, b_eq0, b_le0, b_0lt, b_0le, b_lt0]
          rw [if_neg (by omega), if_neg (by simpa using c1), if_neg (by omega), if_neg c3]
      · rw [if_pos c1, if_neg (fun h => c2 h.1)]
        simp (disch := omega) only [s_Mo_isPut p1 p2, s_Mo_bitOf, b_sub, decide_eq_false_iff_not, ↓bc_234, ↓br_234_6, ↓bc_236, ↓bx_236, bl_236, ↓b_t0, ↓b_t1, ↓b_t2, ↓b_t3, ↓b_t4, ↓b_t5, ↓b_t6, Nat.zero_add, Nat.le_refl, b_rs, b_rn, b_r2, b_ss, b_sn, b_bt, b_bf, b_b0, b_b1, b_bw, b_shl, b_or, b_iv, b_jv, b_sI, b_sJ, ↓z_hl, z_b0, z_b1, z_b2, b_and1c, b_and1z, if_true, if_false, nI_add, pk_mul, b_cl, b_lt, b_le, b_eq, b_eq0, b_le0, b_0lt, b_0le, b_lt0]
        rw [if_neg (by omega), if_neg (by simpa using c1), if_pos (by omega)]
    · by_cases c2 : nI (s (282 + n)) = 0
      · rw [if_neg c1, if_pos c2]
        by_cases c5 : s 4 ≤ s (251 + n)
        · simp (disch := omega) only [s_Mo_isPut p1 p2, s_Mo_greater, b_sub, decide_eq_false_iff_not, c2, ↓bc_234, ↓br_234_6, ↓bc_236, ↓bx_236, bl_236, ↓b_t0, ↓b_t1, ↓b_t2, ↓b_t3, ↓b_t4, ↓b_t5, ↓b_t6, Nat.zero_add, Nat.le_refl, b_rs, b_rn, b_r2, b_ss, b_sn, b_bt, b_bf, b_b0, b_b1, b_bw, b_shl, b_or, b_iv, b_jv, b_sI, b_sJ, ↓z_hl, z_b0, z_b1, z_b2, b_and1c, b_and1z, if_true, if_false, nI_add, pk_mul, b_cl, b_lt, b_le, b_eq, b_eq0, b_le0, b_0lt, b_0le, b_lt0]
          rw [if_neg (by omega), if_pos (by simpa using c1), Nat.zero_max]
          rfl
        · simp (disch := omega) only [s_Mo_isPut p1 p2, s_Mo_greatern, b_subn, decide_eq_false_iff_not, c2, ↓bc_234, ↓br_234_6, ↓bc_236, ↓bx_236, bl_236, ↓b_t0, ↓b_t1, ↓b_t2, ↓b_t3, ↓b_t4, ↓b_t5, ↓b_t6, Nat.zero_add, Nat.le_refl, b_rs, b_rn, b_r2, b_ss, b_sn, b_bt, b_bf, b_b0, b_b1, b_bw, b_shl, b_or, b_iv, b_jv, b_sI, b_sJ, ↓z_hl, z_b0, z_b1, z_b2, b_and1c, b_and1z, if_true, if_false, nI_add, pk_mul, b_cl, b_lt, b_le, b_eq, b_eq0, b_le0, b_0lt, b_0le, b_lt0]
          rw [if_neg (by omega), if_pos (by simpa using c1)]
          unfold w_price
          rw [show s (251 + n) - s 4 = 0 by omega]
      · rw [if_neg c1, if_neg c2]
        simp (disch := omega) only [s_Mo_isPut p1 p2, s_Mo_bitOf, b_sub, decide_eq_false_iff_not, c2, ↓bc_234, ↓br_234_6, ↓bc_236, ↓bx_236, bl_236, ↓b_t0, ↓b_t1, ↓b_t2, ↓b_t3, ↓b_t4, ↓b_t5, ↓b_t6, Nat.zero_add, Nat.le_refl, b_rs, b_rn, b_r2, b_ss, b_sn, b_bt, b_bf, b_b0, b_b1, b_bw, b_shl, b_or, b_iv, b_jv, b_sI, b_sJ, ↓z_hl, z_b0, z_b1, z_b2, b_and1c, b_and1z, if_true, if_false, nI_add, pk_mul, b_cl, b_lt, b_le, b_eq, b_eq0, b_le0, b_0lt, b_0le, b_lt0]
        rw [if_neg (by omega), if_pos (by simpa using c1)]
  · intro f _
    rw [l_Mo_day_2, q_Mo_day_2]
    obtain ⟨h1, h2, h3, -⟩ := w_dloop_ok hS hI (m 236 3) (by omega)
    have f3 := h3 3 (by omega)
    have f4 := h3 157 (by omega)
    simp (disch := omega) only [f3, f4, ↓bc_234, ↓br_234_6, ↓bc_236, ↓bx_236, bl_236, ↓b_t0, ↓b_t1, ↓b_t2, ↓b_t3, ↓b_t4, ↓b_t5, ↓b_t6, Nat.zero_add, Nat.le_refl, b_rs, b_rn, b_r2, b_ss, b_sn, b_bt, b_bf, b_b0, b_b1, b_bw, b_shl, b_or, b_iv, b_jv, b_sI, b_sJ, ↓z_hl, z_b0, z_b1, z_b2, b_and1c, b_and1z, if_true, if_false, nI_add, pk_mul, b_cl, b_lt, b_le, b_eq, b_eq0, b_le0, b_0lt, b_0le, b_lt0]
    rfl
theorem s_Mo_goesOn {X : Nat × (Nat → Int32)} {tx : List Int32} {D : Nat} {m j : Nat → Nat → Nat} {w : (Nat × Nat) × Bool} (hS : i_S (m 236)) (hI : i_D (m 236)) (hD : 4 ≤ D) {q : Nat} (hq : q < 2147483648) : a_ex X tx a_T D 251 [.ref 234, .int (nI q)] (b_h m j w) = some ((b_h (b_r m 236 (w_days (m 236) (min q (400 - m 236 157)))) j w), some (.int (nI (min q (400 - m 236 157))))) := by
  obtain ⟨d, rfl⟩ : ∃ d, D = d + 1 := ⟨D - 1, by omega⟩
  rw [e_Mo_goesOn, q_Mo_goesOn_0]
  rw [← l_Mo_goesOn_2]
  have hda := i_D_da hI
  refine z_lp (fun n => [.ref 234, .int (nI q), .int (nI n)]) (fun n => b_h (b_r m 236 (w_days (m 236) n)) j w) (min q (400 - m 236 157)) 0 rfl (by show _ = b_h (b_r m 236 (m 236)) j w; rw [b_ri rfl]) ?_ ?_ _ (z_fu (by omega))
  · intro n hn f _
    rw [l_Mo_goesOn_2, q_Mo_goesOn_2]
    obtain ⟨h1, h2, h3, -⟩ := w_days_ok hS hI n (by omega)
    have p1 : i_S ((b_r m 236 (w_days (m 236) n)) 236) := by rw [b_rs]; exact h1
    have p2 : i_D ((b_r m 236 (w_days (m 236) n)) 236) := by rw [b_rs]; exact h2
    simp (disch := omega) only [h3, s_Mo_day p1 p2, ↓bc_234, ↓br_234_6, ↓bc_236, ↓bx_236, bl_236, ↓b_t0, ↓b_t1, ↓b_t2, ↓b_t3, ↓b_t4, ↓b_t5, ↓b_t6, Nat.zero_add, Nat.le_refl, b_rs, b_rn, b_r2, b_ss, b_sn, b_bt, b_bf, b_b0, b_b1, b_bw, b_shl, b_or, b_iv, b_jv, b_sI, b_sJ, ↓z_hl, z_b0, z_b1, z_b2, b_and1c, b_and1z, if_true, if_false, nI_add, pk_mul, b_cl, b_lt, b_le, b_eq, b_eq0, b_le0, b_0lt, b_0le, b_lt0]
    rw [if_neg (by omega), if_neg (by omega)]
    rfl
  · intro f _
    rw [l_Mo_goesOn_2, q_Mo_goesOn_2]
    obtain ⟨h1, h2, h3, -⟩ := w_days_ok hS hI (min q (400 - m 236 157)) (by omega)
    have h4 := i_D_da h2
    simp (disch := omega) only [h3, ↓bc_234, ↓br_234_6, ↓bc_236, ↓bx_236, bl_236, ↓b_t0, ↓b_t1, ↓b_t2, ↓b_t3, ↓b_t4, ↓b_t5, ↓b_t6, Nat.zero_add, Nat.le_refl, b_rs, b_rn, b_r2, b_ss, b_sn, b_bt, b_bf, b_b0, b_b1, b_bw, b_shl, b_or, b_iv, b_jv, b_sI, b_sJ, ↓z_hl, z_b0, z_b1, z_b2, b_and1c, b_and1z, if_true, if_false, nI_add, pk_mul, b_cl, b_lt, b_le, b_eq, b_eq0, b_le0, b_0lt, b_0le, b_lt0]
    by_cases c : q ≤ 400 - m 236 157
    · rw [if_pos (by omega)]
    · rw [if_neg (by omega), if_pos (by omega)]
/-! what is kept -/
def w_keepU (u s : Nat → Nat) (k : Nat) : Nat → Nat := b_rg (if k = 8 then b_rg u 0 1365 (fun i => u (i + 195)) else u) (195 * (if k = 8 then 7 else k)) 195 fun i => s (157 + i)
def w_keepN (k : Nat) : Nat := (if k = 8 then 7 else k) + 1
theorem s_Mo_keep26 {X : Nat × (Nat → Int32)} {tx : List Int32} {d f : Nat} {m j : Nat → Nat → Nat} {w : (Nat × Nat) × Bool} (hk : m 234 23 < 8) (hf : 200 ≤ f) : a_rn X tx (a_ex X tx a_T d) (a_go X tx (a_ex X tx a_T d) k_Mo_keep_0 f) k_Mo_keep_26 0 [.ref 234, .int (nI 0)] [] (b_h m j w) = some (b_h (b_r (b_r m 234 (b_s (m 234) 23 (m 234 23 + 1))) 241 (b_rg (m 241) (195 * m 234 23) 195 fun i => m 236 (157 + i))) j w, none) := by
  rw [← l_Mo_keep_26]
  refine z_lp (fun n => [.ref 234, .int (nI n)]) (fun n => (b_h (b_r m 241 (b_rg (m 241) (195 * m 234 23) n fun i => m 236 (157 + i))) j w)) (195) (0) (by first | rfl | simp [b_rg0]) (by first | rfl | simp [b_rg0, b_ri]) ?_ ?_ _ (by omega)
  · intro n hn f _
    rw [l_Mo_keep_26, q_Mo_keep_26]
    simp (disch := omega) only [↓bc_234, ↓br_234_21, ↓bc_241, ↓bx_241, bl_241, ↓br_234_6, ↓bc_236, ↓bx_236, bl_236, ↓b_t0, ↓b_t1, ↓b_t2, ↓b_t3, ↓b_t4, ↓b_t5, ↓b_t6, Nat.zero_add, Nat.le_refl, b_rs, b_rn, b_r2, b_ss, b_sn, b_bt, b_bf, b_b0, b_b1, b_bw, b_shl, b_or, b_iv, b_jv, b_sI, b_sJ, ↓z_hl, z_b0, z_b1, z_b2, b_and1c, b_and1z, if_true, if_false, nI_add, pk_mul, b_cl, b_lt, b_le, b_eq, b_eq0, b_le0, b_0lt, b_0le, b_lt0]
    rw [if_neg (by omega), b_rg1]
  · intro f _
    rw [l_Mo_keep_26, q_Mo_keep_26]
    simp (disch := omega) only [b_rx (c2 := 234) (c := 241) (by decide), ↓bc_234, ↓br_234_21, ↓bc_241, ↓bx_241, bl_241, ↓br_234_6, ↓bc_236, ↓bx_236, bl_236, ↓b_t0, ↓b_t1, ↓b_t2, ↓b_t3, ↓b_t4, ↓b_t5, ↓b_t6, Nat.zero_add, Nat.le_refl, b_rs, b_rn, b_r2, b_ss, b_sn, b_bt, b_bf, b_b0, b_b1, b_bw, b_shl, b_or, b_iv, b_jv, b_sI, b_sJ, ↓z_hl, z_b0, z_b1, z_b2, b_and1c, b_and1z, if_true, if_false, nI_add, pk_mul, b_cl, b_lt, b_le, b_eq, b_eq0, b_le0, b_0lt, b_0le, b_lt0]
theorem s_Mo_keep {X : Nat × (Nat → Int32)} {tx : List Int32} {D : Nat} {m j : Nat → Nat → Nat} {w : (Nat × Nat) × Bool} (hk : m 234 23 ≤ 8) (hD : 1 ≤ D) : a_ex X tx a_T D 255 [.ref 234] (b_h m j w) = some ((b_h (b_r (b_r m 234 (b_s (m 234) 23 (w_keepN (m 234 23)))) 241 (w_keepU (m 241) (m 236) (m 234 23))) j w), none) := by
  obtain ⟨d, rfl⟩ : ∃ d, D = d + 1 := ⟨D - 1, by omega⟩
  rw [e_Mo_keep, q_Mo_keep_0]
  simp (disch := omega) only [↓bc_234, ↓br_234_21, ↓bc_241, ↓bx_241, bl_241, ↓br_234_6, ↓bc_236, ↓bx_236, bl_236, ↓b_t0, ↓b_t1, ↓b_t2, ↓b_t3, ↓b_t4, ↓b_t5, ↓b_t6, Nat.zero_add, Nat.le_refl, b_rs, b_rn, b_r2, b_ss, b_sn, b_bt, b_bf, b_b0, b_b1, b_bw, b_shl, b_or, b_iv, b_jv, b_sI, b_sJ, ↓z_hl, z_b0, z_b1, z_b2, b_and1c, b_and1z, if_true, if_false, nI_add, pk_mul, b_cl, b_lt, b_le, b_eq, b_eq0, b_le0, b_0lt, b_0le, b_lt0]
  unfold w_keepU w_keepN
  by_cases c : m 234 23 = 8
  · simp only [if_pos c]
    rw [← l_Mo_keep_6]
    refine z_lp (fun n => [.ref 234, .int (nI n)]) (fun n => (b_h (b_r m 241 (b_rg (m 241) 0 n fun i => m 241 (i + 195))) j w)) (1365) (200) (by first | rfl | simp [b_rg0]) (by first | rfl | simp [b_rg0, b_ri]) ?_ ?_ _ (z_fu (by omega))
    · intro n hn f _
      rw [l_Mo_keep_6, q_Mo_keep_6]
      simp (disch := omega) only [b_rgo, ↓bc_234, ↓br_234_21, ↓bc_241, ↓bx_241, bl_241, ↓br_234_6, ↓bc_236, ↓bx_236, bl_236, ↓b_t0, ↓b_t1, ↓b_t2, ↓b_t3, ↓b_t4, ↓b_t5, ↓b_t6, Nat.zero_add, Nat.le_refl, b_rs, b_rn, b_r2, b_ss, b_sn, b_bt, b_bf, b_b0, b_b1, b_bw, b_shl, b_or, b_iv, b_jv, b_sI, b_sJ, ↓z_hl, z_b0, z_b1, z_b2, b_and1c, b_and1z, if_true, if_false, nI_add, pk_mul, b_cl, b_lt, b_le, b_eq, b_eq0, b_le0, b_0lt, b_0le, b_lt0]
      rw [if_neg (by omega), b_rg1' (by omega) rfl]
    · intro f _
      rw [l_Mo_keep_6, q_Mo_keep_6]
      simp (disch := omega) only [↓bc_234, ↓br_234_21, ↓bc_241, ↓bx_241, bl_241, ↓br_234_6, ↓bc_236, ↓bx_236, bl_236, ↓b_t0, ↓b_t1, ↓b_t2, ↓b_t3, ↓b_t4, ↓b_t5, ↓b_t6, Nat.zero_add, Nat.le_refl, b_rs, b_rn, b_r2, b_ss, b_sn, b_bt, b_bf, b_b0, b_b1, b_bw, b_shl, b_or, b_iv, b_jv, b_sI, b_sJ, ↓z_hl, z_b0, z_b1, z_b2, b_and1c, b_and1z, if_true, if_false, nI_add, pk_mul, b_cl, b_lt, b_le, b_eq, b_eq0, b_le0, b_0lt, b_0le, b_lt0]
      refine (s_Mo_keep26 (by rw [b_rs, b_ss]; decide) (by omega)).trans ?_
      simp (disch := omega) only [b_rs, b_rn, b_r2, b_rx (c2 := 234) (c := 241) (by decide), b_ss, b_s2]
  · simp only [if_neg c]
    exact s_Mo_keep26 (by omega) (Nat.le_of_ble_eq_true rfl)
theorem s_Mo_tries {X : Nat × (Nat → Int32)} {tx : List Int32} {D : Nat} {m j : Nat → Nat → Nat} {w : (Nat × Nat) × Bool} (hD : 1 ≤ D) : a_ex X tx a_T D 257 [.ref 234] (b_h m j w) = some ((b_h (b_r m 242 (b_rg (m 242) 0 195 fun i => m 236 (157 + i))) j w), none) := by
  obtain ⟨d, rfl⟩ : ∃ d, D = d + 1 := ⟨D - 1, by omega⟩
  rw [e_Mo_tries, q_Mo_tries_0]
  rw [← l_Mo_tries_2]
  refine z_lp (fun n => [.ref 234, .int (nI n)]) (fun n => (b_h (b_r m 242 (b_rg (m 242) 0 n fun i => m 236 (157 + i))) j w)) (195) (0) (by first | rfl | simp [b_rg0]) (by first | rfl | simp [b_rg0, b_ri]) ?_ ?_ _ (z_fu (by omega))
  · intro n hn f _
    rw [l_Mo_tries_2, q_Mo_tries_2]
    simp (disch := omega) only [↓bc_234, ↓br_234_22, ↓bc_242, ↓bx_242, bl_242, ↓br_234_6, ↓bc_236, ↓bx_236, bl_236, ↓b_t0, ↓b_t1, ↓b_t2, ↓b_t3, ↓b_t4, ↓b_t5, ↓b_t6, Nat.zero_add, Nat.le_refl, b_rs, b_rn, b_r2, b_ss, b_sn, b_bt, b_bf, b_b0, b_b1, b_bw, b_shl, b_or, b_iv, b_jv, b_sI, b_sJ, ↓z_hl, z_b0, z_b1, z_b2, b_and1c, b_and1z, if_true, if_false, nI_add, pk_mul, b_cl, b_lt, b_le, b_eq, b_eq0, b_le0, b_0lt, b_0le, b_lt0]
    rw [if_neg (by omega), b_rg1' (by omega) rfl]
  · intro f _
    rw [l_Mo_tries_2, q_Mo_tries_2]
    simp (disch := omega) only [↓bc_234, ↓br_234_22, ↓bc_242, ↓bx_242, bl_242, ↓br_234_6, ↓bc_236, ↓bx_236, bl_236, ↓b_t0, ↓b_t1, ↓b_t2, ↓b_t3, ↓b_t4, ↓b_t5, ↓b_t6, Nat.zero_add, Nat.le_refl, b_rs, b_rn, b_r2, b_ss, b_sn, b_bt, b_bf, b_b0, b_b1, b_bw, b_shl, b_or, b_iv, b_jv, b_sI, b_sJ, ↓z_hl, z_b0, z_b1, z_b2, b_and1c, b_and1z, if_true, if_false, nI_add, pk_mul, b_cl, b_lt, b_le, b_eq, b_eq0, b_le0, b_0lt, b_0le, b_lt0]
theorem s_Mo_back {X : Nat × (Nat → Int32)} {tx : List Int32} {D : Nat} {m j : Nat → Nat → Nat} {w : (Nat × Nat) × Bool} (hD : 1 ≤ D) : a_ex X tx a_T D 258 [.ref 234] (b_h m j w) = some ((b_h (b_r m 236 (b_rg (m 236) 157 195 fun i => m 242 i)) j w), none) := by
  obtain ⟨d, rfl⟩ : ∃ d, D = d + 1 := ⟨D - 1, by omega⟩
  rw [e_Mo_back, q_Mo_back_0]
  rw [← l_Mo_back_2]
  refine z_lp (fun n => [.ref 234, .int (nI n)]) (fun n => (b_h (b_r m 236 (b_rg (m 236) 157 n fun i => m 242 i)) j w)) (195) (0) (by first | rfl | simp [b_rg0]) (by first | rfl | simp [b_rg0, b_ri]) ?_ ?_ _ (z_fu (by omega))
  · intro n hn f _
    rw [l_Mo_back_2, q_Mo_back_2]
    simp (disch := omega) only [↓bc_234, ↓br_234_6, ↓bc_236, ↓bx_236, bl_236, ↓br_234_22, ↓bc_242, ↓bx_242, bl_242, ↓b_t0, ↓b_t1, ↓b_t2, ↓b_t3, ↓b_t4, ↓b_t5, ↓b_t6, Nat.zero_add, Nat.le_refl, b_rs, b_rn, b_r2, b_ss, b_sn, b_bt, b_bf, b_b0, b_b1, b_bw, b_shl, b_or, b_iv, b_jv, b_sI, b_sJ, ↓z_hl, z_b0, z_b1, z_b2, b_and1c, b_and1z, if_true, if_false, nI_add, pk_mul, b_cl, b_lt, b_le, b_eq, b_eq0, b_le0, b_0lt, b_0le, b_lt0]
    rw [if_neg (by omega), b_rg1]
  · intro f _
    rw [l_Mo_back_2, q_Mo_back_2]
    simp (disch := omega) only [↓bc_234, ↓br_234_6, ↓bc_236, ↓bx_236, bl_236, ↓br_234_22, ↓bc_242, ↓bx_242, bl_242, ↓b_t0, ↓b_t1, ↓b_t2, ↓b_t3, ↓b_t4, ↓b_t5, ↓b_t6, Nat.zero_add, Nat.le_refl, b_rs, b_rn, b_r2, b_ss, b_sn, b_bt, b_bf, b_b0, b_b1, b_bw, b_shl, b_or, b_iv, b_jv, b_sI, b_sJ, ↓z_hl, z_b0, z_b1, z_b2, b_and1c, b_and1z, if_true, if_false, nI_add, pk_mul, b_cl, b_lt, b_le, b_eq, b_eq0, b_le0, b_0lt, b_0le, b_lt0]
/-! draws -/
theorem w_seed_ex : ∃ f : Nat → Nat, ∀ x, f x = x * 1103515245 + 12345 := ⟨fun x => x * 1103515245 + 12345, fun _ => rfl⟩
/-- told so that nobody reckons it out -/
noncomputable def w_seed : Nat → Nat := Classical.choose w_seed_ex
theorem w_seed_eq (x : Nat) : w_seed x = x * 1103515245 + 12345 := Classical.choose_spec w_seed_ex x
theorem w_rnd_ex : ∃ f : Nat → Nat → Nat, ∀ x n, f x n = x % 4294967296 / 256 % n := ⟨fun x n => x % 4294967296 / 256 % n, fun _ _ => rfl⟩
noncomputable def w_rnd : Nat → Nat → Nat := Classical.choose w_rnd_ex
theorem w_rnd_eq (x n : Nat) : w_rnd x n = x % 4294967296 / 256 % n := Classical.choose_spec w_rnd_ex x n
theorem b_ushr8 (x : Nat) : ((nI x).toUInt32 >>> ((nI 8).toUInt32 &&& Int32.toUInt32 31)).toInt32 = nI (x % 4294967296 / 256) := by
  have e : ((nI 8).toUInt32 &&& Int32.toUInt32 31) = 8 := by decide +kernel
  rw [e]
  unfold nI
  apply Int32.toBitVec_inj.mp
  apply BitVec.eq_of_toNat_eq
  rw [Int32.toBitVec_ofNat']
  simp [Nat.shiftRight_eq_div_pow]
  omega
theorem s_Mo_draw {X : Nat × (Nat → Int32)} {tx : List Int32} {D : Nat} {m j : Nat → Nat → Nat} {w : (Nat × Nat) × Bool} (hD : 1 ≤ D) {n : Nat} (h0 : 0 < n) (hn : n < 2147483648) : a_ex X tx a_T D 293 [.ref 234, .int (nI n)] (b_h m j w) = some ((b_h (b_r m 234 (b_s (m 234) 40 (w_seed (m 234 40)))) j w), some (.int (nI (w_rnd (w_seed (m 234 40)) n)))) := by
  obtain ⟨d, rfl⟩ : ∃ d, D = d + 1 := ⟨D - 1, by omega⟩
  rw [e_Mo_draw, q_Mo_draw_0]
  simp (disch := omega) only [b_ushr8, ↓bc_234, ↓b_t0, ↓b_t1, ↓b_t2, ↓b_t3, ↓b_t4, ↓b_t5, ↓b_t6, Nat.zero_add, Nat.le_refl, b_rs, b_rn, b_r2, b_ss, b_sn, b_bt, b_bf, b_b0, b_b1, b_bw, b_shl, b_or, b_iv, b_jv, b_sI, b_sJ, ↓z_hl, z_b0, z_b1, z_b2, b_and1c, b_and1z, if_true, if_false, nI_add, pk_mul, b_cl, b_lt, b_le, b_eq, b_eq0, b_le0, b_0lt, b_0le, b_lt0]
  have h1 : (m 234 40 * 1103515245 + 12345) % 4294967296 / 256 < 2147483648 := by omega
  rw [if_neg (by omega), pk_rem h1 h0 hn, w_rnd_eq, w_seed_eq]
