/-! TEXTS: the reference's new market -/
def w_k1 (S s : Nat → Nat) : Nat → Nat := b_rg S 0 533 fun k => if k < 157 then s k else 0
def w_k2 (S : Nat → Nat) : Nat → Nat := b_rg S 159 6 fun i => S (5 + i)
def w_k3 (S : Nat → Nat) : Nat → Nat := b_rg S 177 48 fun i => S (19 + i)
def w_k4 (S : Nat → Nat) : Nat → Nat := b_rg (b_rg S 241 10 fun e => S (67 + e)) 251 10 fun e => S (77 + e)
def w_kJ (j : Nat → Nat → Nat) : Nat → Nat := b_rg (j 239) 0 30 fun i => j 239 (30 + i)
section MK
variable {X : Nat × (Nat → Int32)} {tx : List Int32} {D d : Nat} {m j : Nat → Nat → Nat} {w : (Nat × Nat) × Bool}
theorem s_Mo_mk4 : ∀ F, 10 < F → a_go X tx (a_ex X tx a_T d) k_Mo_market_0 F 133 [.ref 234, .int (nI 0)] (b_h m j w) = some (b_h (b_r (b_r m 234 (b_s (m 234) 23 0)) 236 (w_k4 (m 236))) j w, some (.int (nI (m 234 19)))) := by
  intro F hF
  refine z_lp (fun n => [.ref 234, .int (nI n)]) (fun n => b_h (b_r m 236 (b_rg (b_rg (m 236) 241 n fun e => m 236 (67 + e)) 251 n fun e => m 236 (77 + e))) j w) 10 0 rfl (by rw [b_rg0, b_rg0, b_rid rfl]) ?_ ?_ _ (by omega)
  · intro n hn f _
    rw [l_Mo_market_133, q_Mo_market_133]
    simp (disch := omega) only [b_rgo, ↓bc_234, ↓br_234_7, ↓bc_237, ↓bx_237, bl_237, ↓br_234_6, ↓bc_236, ↓bx_236, bl_236, ↓br_234_9, ↓bc_239, ↓bx_239, bl_239, ↓b_t0, ↓b_t1, ↓b_t2, ↓b_t3, ↓b_t4, ↓b_t5, ↓b_t6, Nat.zero_add, Nat.le_refl, b_rs, b_rn, b_r2, b_ss, b_sn, b_bt, b_bf, b_b0, b_b1, b_bw, b_shl, b_or, b_iv, b_jv, b_sI, b_sJ, ↓z_hl, z_b0, z_b1, z_b2, b_and1c, b_and1z, if_true, if_false, nI_add, pk_mul, b_cl, b_lt, b_le, b_eq, b_eq0, b_le0, b_0lt, b_0le, b_lt0]
    rw [if_neg (by omega), b_rgs (by omega), b_rg1' (by omega) rfl, b_rg1' (by omega) rfl]
  · intro f _
    rw [l_Mo_market_133, q_Mo_market_133]
    simp (disch := omega) only [b_rx (c2 := 234) (c := 236) (by decide), ↓bc_234, ↓br_234_7, ↓bc_237, ↓bx_237, bl_237, ↓br_234_6, ↓bc_236, ↓bx_236, bl_236, ↓br_234_9, ↓bc_239, ↓bx_239, bl_239, ↓b_t0, ↓b_t1, ↓b_t2, ↓b_t3, ↓b_t4, ↓b_t5, ↓b_t6, Nat.zero_add, Nat.le_refl, b_rs, b_rn, b_r2, b_ss, b_sn, b_bt, b_bf, b_b0, b_b1, b_bw, b_shl, b_or, b_iv, b_jv, b_sI, b_sJ, ↓z_hl, z_b0, z_b1, z_b2, b_and1c, b_and1z, if_true, if_false, nI_add, pk_mul, b_cl, b_lt, b_le, b_eq, b_eq0, b_le0, b_0lt, b_0le, b_lt0]
    rfl
theorem s_Mo_mk3 : ∀ F, 70 < F → a_go X tx (a_ex X tx a_T d) k_Mo_market_0 F 114 [.ref 234, .int (nI 0)] (b_h m j w) = some (b_h (b_r (b_r m 234 (b_s (m 234) 23 0)) 236 (w_k4 (w_k3 (m 236)))) j w, some (.int (nI (m 234 19)))) := by
  intro F hF
  refine z_lp (fun n => [.ref 234, .int (nI n)]) (fun n => b_h (b_r m 236 (b_rg (m 236) 177 n fun i => m 236 (19 + i))) j w) 48 20 rfl (by rw [b_rg0, b_rid rfl]) ?_ ?_ _ (by omega)
  · intro n hn f _
    rw [l_Mo_market_114, q_Mo_market_114]
    simp (disch := omega) only [b_rgo, ↓bc_234, ↓br_234_7, ↓bc_237, ↓bx_237, bl_237, ↓br_234_6, ↓bc_236, ↓bx_236, bl_236, ↓br_234_9, ↓bc_239, ↓bx_239, bl_239, ↓b_t0, ↓b_t1, ↓b_t2, ↓b_t3, ↓b_t4, ↓b_t5, ↓b_t6, Nat.zero_add, Nat.le_refl, b_rs, b_rn, b_r2, b_ss, b_sn, b_bt, b_bf, b_b0, b_b1, b_bw, b_shl, b_or, b_iv, b_jv, b_sI, b_sJ, ↓z_hl, z_b0, z_b1, z_b2, b_and1c, b_and1z, if_true, if_false, nI_add, pk_mul, b_cl, b_lt, b_le, b_eq, b_eq0, b_le0, b_0lt, b_0le, b_lt0]
    rw [if_neg (by omega), b_rg1' (by omega) rfl]
  · intro f hf
    rw [l_Mo_market_114, q_Mo_market_114]
    rw [if_pos (by decide +kernel), ← l_Mo_market_133]
    rw [s_Mo_mk4 (f + 1) (by omega), b_rn (by decide), b_rs]
    unfold w_k3
    simp (disch := omega) only [b_rs, b_rn, b_r2, b_rx (c2 := 234) (c := 236) (by decide), b_ss, b_s2]
theorem s_Mo_mk2 : ∀ F, 100 < F → a_go X tx (a_ex X tx a_T d) k_Mo_market_0 F 95 [.ref 234, .int (nI 0)] (b_h m j w) = some (b_h (b_r (b_r m 234 (b_s (m 234) 23 0)) 236 (w_k4 (w_k3 (w_k2 (m 236))))) j w, some (.int (nI (m 234 19)))) := by
  intro F hF
  refine z_lp (fun n => [.ref 234, .int (nI n)]) (fun n => b_h (b_r m 236 (b_rg (m 236) 159 n fun i => m 236 (5 + i))) j w) 6 80 rfl (by rw [b_rg0, b_rid rfl]) ?_ ?_ _ (by omega)
  · intro n hn f _
    rw [l_Mo_market_95, q_Mo_market_95]
    simp (disch := omega) only [b_rgo, ↓bc_234, ↓br_234_7, ↓bc_237, ↓bx_237, bl_237, ↓br_234_6, ↓bc_236, ↓bx_236, bl_236, ↓br_234_9, ↓bc_239, ↓bx_239, bl_239, ↓b_t0, ↓b_t1, ↓b_t2, ↓b_t3, ↓b_t4, ↓b_t5, ↓b_t6, Nat.zero_add, Nat.le_refl, b_rs, b_rn, b_r2, b_ss, b_sn, b_bt, b_bf, b_b0, b_b1, b_bw, b_shl, b_or, b_iv, b_jv, b_sI, b_sJ, ↓z_hl, z_b0, z_b1, z_b2, b_and1c, b_and1z, if_true, if_false, nI_add, pk_mul, b_cl, b_lt, b_le, b_eq, b_eq0, b_le0, b_0lt, b_0le, b_lt0]
    rw [if_neg (by omega), b_rg1' (by omega) rfl]
  · intro f hf
    rw [l_Mo_market_95, q_Mo_market_95]
    rw [if_pos (by decide +kernel), ← l_Mo_market_114]
    rw [s_Mo_mk3 (f + 1) (by omega), b_rn (by decide), b_rs]
    unfold w_k2
    simp (disch := omega) only [b_rs, b_rn, b_r2, b_rx (c2 := 234) (c := 236) (by decide), b_ss, b_s2]
theorem s_Mo_mkJ : ∀ F, 150 < F → a_go X tx (a_ex X tx a_T d) k_Mo_market_0 F 78 [.ref 234, .int (nI 0)] (b_h m j w) = some (b_h (b_r (b_r m 234 (b_s (m 234) 23 0)) 236 (w_k4 (w_k3 (w_k2 (m 236))))) (b_r j 239 (w_kJ j)) w, some (.int (nI (m 234 19)))) := by
  intro F hF
  refine z_lp (fun n => [.ref 234, .int (nI n)]) (fun n => b_h m (b_r j 239 (b_rg (j 239) 0 n fun i => j 239 (30 + i))) w) 30 110 rfl (by rw [b_rg0, b_rid rfl]) ?_ ?_ _ (by omega)
  · intro n hn f _
    rw [l_Mo_market_78, q_Mo_market_78]
    simp (disch := omega) only [b_rgo, ↓bc_234, ↓br_234_7, ↓bc_237, ↓bx_237, bl_237, ↓br_234_6, ↓bc_236, ↓bx_236, bl_236, ↓br_234_9, ↓bc_239, ↓bx_239, bl_239, ↓b_t0, ↓b_t1, ↓b_t2, ↓b_t3, ↓b_t4, ↓b_t5, ↓b_t6, Nat.zero_add, Nat.le_refl, b_rs, b_rn, b_r2, b_ss, b_sn, b_bt, b_bf, b_b0, b_b1, b_bw, b_shl, b_or, b_iv, b_jv, b_sI, b_sJ, ↓z_hl, z_b0, z_b1, z_b2, b_and1c, b_and1z, if_true, if_false, nI_add, pk_mul, b_cl, b_lt, b_le, b_eq, b_eq0, b_le0, b_0lt, b_0le, b_lt0]
    rw [if_neg (by omega), b_rg1' (by omega) rfl]
  · intro f hf
    rw [l_Mo_market_78, q_Mo_market_78]
    rw [if_pos (by decide +kernel), ← l_Mo_market_95]
    rw [s_Mo_mk2 (f + 1) (by omega)]
    rfl
theorem s_Mo_mk1 : ∀ F, 800 < F → a_go X tx (a_ex X tx a_T d) k_Mo_market_0 F 58 [.ref 234, .int (nI 0)] (b_h m j w) = some (b_h (b_r (b_r m 234 (b_s (m 234) 23 0)) 236 (w_k4 (w_k3 (w_k2 (w_k1 (m 236) (m 237)))))) (b_r j 239 (w_kJ j)) w, some (.int (nI (m 234 19)))) := by
  intro F hF
  refine z_lp (fun n => [.ref 234, .int (nI n)]) (fun n => b_h (b_r m 236 (b_rg (m 236) 0 n fun k => if k < 157 then m 237 k else 0)) j w) 533 200 rfl (by rw [b_rg0, b_rid rfl]) ?_ ?_ _ (by omega)
  · intro n hn f _
    rw [l_Mo_market_58, q_Mo_market_58]
    by_cases c : n < 157
    · simp (disch := omega) only [↓bc_234, ↓br_234_7, ↓bc_237, ↓bx_237, bl_237, ↓br_234_6, ↓bc_236, ↓bx_236, bl_236, ↓br_234_9, ↓bc_239, ↓bx_239, bl_239, ↓b_t0, ↓b_t1, ↓b_t2, ↓b_t3, ↓b_t4, ↓b_t5, ↓b_t6, Nat.zero_add, Nat.le_refl, b_rs, b_rn, b_r2, b_ss, b_sn, b_bt, b_bf, b_b0, b_b1, b_bw, b_shl, b_or, b_iv, b_jv, b_sI, b_sJ, ↓z_hl, z_b0, z_b1, z_b2, b_and1c, b_and1z, if_true, if_false, nI_add, pk_mul, b_cl, b_lt, b_le, b_eq, b_eq0, b_le0, b_0lt, b_0le, b_lt0]
      rw [if_neg (by omega), if_neg (by omega), b_rg1' (g := fun k => if k < 157 then m 237 k else 0) (Nat.zero_add n).symm (if_pos c).symm]
    · simp (disch := omega) only [↓bc_234, ↓br_234_7, ↓bc_237, ↓bx_237, bl_237, ↓br_234_6, ↓bc_236, ↓bx_236, bl_236, ↓br_234_9, ↓bc_239, ↓bx_239, bl_239, ↓b_t0, ↓b_t1, ↓b_t2, ↓b_t3, ↓b_t4, ↓b_t5, ↓b_t6, Nat.zero_add, Nat.le_refl, b_rs, b_rn, b_r2, b_ss, b_sn, b_bt, b_bf, b_b0, b_b1, b_bw, b_shl, b_or, b_iv, b_jv, b_sI, b_sJ, ↓z_hl, z_b0, z_b1, z_b2, b_and1c, b_and1z, if_true, if_false, nI_add, pk_mul, b_cl, b_lt, b_le, b_eq, b_eq0, b_le0, b_0lt, b_0le, b_lt0]
      rw [if_neg (by omega), if_pos (by omega), b_rg1' (g := fun k => if k < 157 then m 237 k else 0) (Nat.zero_add n).symm (if_neg c).symm]
  · intro f hf
    rw [l_Mo_market_58, q_Mo_market_58]
    rw [if_pos (by decide +kernel), ← l_Mo_market_78]
    rw [s_Mo_mkJ (f + 1) (by omega), b_rn (by decide), b_rs]
    unfold w_k1
    simp (disch := omega) only [b_rs, b_rn, b_r2, b_rx (c2 := 234) (c := 236) (by decide), b_ss, b_s2]
end MK
