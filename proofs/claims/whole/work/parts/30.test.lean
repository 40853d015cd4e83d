/-! TEST -/
theorem s_Mo_closed {X : Nat × (Nat → Int32)} {tx : List Int32} {D : Nat} {m j : Nat → Nat → Nat} {w : (Nat × Nat) × Bool} (hD : 1 ≤ D) {e k : Nat} (he : e < 10) (hk : k < 6) : a_ex X tx a_T D 232 [.ref 234, .int (nI e), .int (nI k)] (b_h m j w) = some ((b_h m j w), some (.int (nI (m 236 (87 + 6 * e + k))))) := by
  obtain ⟨d, rfl⟩ : ∃ d, D = d + 1 := ⟨D - 1, by omega⟩
  rw [e_Mo_closed, q_Mo_closed_0]
  simp (disch := omega) only [bc_234, br_234_6, bc_236, bx_236, bl_236, b_iv, b_jv, b_sI, b_sJ, z_hl, z_b0, z_b1, z_b2, b_and1c, b_and1z, if_true, if_false, nI_add, pk_mul, b_cl, b_lt, b_le, b_eq, b_eq0, b_le0, b_0lt, b_0le, b_lt0]
def w_open (s : Nat → Nat) (t : Nat) : Nat := z_sum (fun k => s (177 + 6 * t + k)) 6
theorem s_Mo_openOf {X : Nat × (Nat → Int32)} {tx : List Int32} {D : Nat} {m j : Nat → Nat → Nat} {w : (Nat × Nat) × Bool} (hD : 1 ≤ D) {t : Nat} (ht : t < 8) : a_ex X tx a_T D 231 [.ref 234, .int (nI t)] (b_h m j w) = some ((b_h m j w), some (.int (nI (w_open (m 236) t)))) := by
  obtain ⟨d, rfl⟩ : ∃ d, D = d + 1 := ⟨D - 1, by omega⟩
  rw [e_Mo_openOf, q_Mo_openOf_0]
  rw [← l_Mo_openOf_4]
  refine z_loop (fun n => [.ref 234, .int (nI t), .int (nI (z_sum (fun k => m 236 (177 + 6 * t + k)) n)), .int (nI n)]) (fun _ => (b_h m j w)) 6 0 ?_ ?_ _ (z_fu (by decide))
  · intro n hn f _
    rw [l_Mo_openOf_4, q_Mo_openOf_4]
    simp (disch := omega) only [bc_234, br_234_6, bc_236, bx_236, bl_236, b_iv, b_jv, b_sI, b_sJ, z_hl, z_b0, z_b1, z_b2, b_and1c, b_and1z, if_true, if_false, nI_add, pk_mul, b_cl, b_lt, b_le, b_eq, b_eq0, b_le0, b_0lt, b_0le, b_lt0]
    rw [if_neg (by omega)]
    rfl
  · intro f _
    rw [l_Mo_openOf_4, q_Mo_openOf_4]
    simp (disch := omega) only [bc_234, br_234_6, bc_236, bx_236, bl_236, b_iv, b_jv, b_sI, b_sJ, z_hl, z_b0, z_b1, z_b2, b_and1c, b_and1z, if_true, if_false, nI_add, pk_mul, b_cl, b_lt, b_le, b_eq, b_eq0, b_le0, b_0lt, b_0le, b_lt0]
    rfl
