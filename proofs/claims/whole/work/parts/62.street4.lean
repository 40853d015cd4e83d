/-! MATCHES: the class's rests -/
section SS
variable {X : Nat × (Nat → Int32)} {tx : List Int32} {D : Nat} {m j : Nat → Nat → Nat} {w : (Nat × Nat) × Bool} {s : Nat → Nat}
theorem s_Ma_restBehind (hD : 1 ≤ D) {u : Nat} (hu : u < 1024) : a_ex X tx a_T D 129 [.ref 167, .int (nI u)] (b_h m j w) = some ((b_h m j w), some (.int (nI (m 170 u)))) := by
  obtain ⟨d, rfl⟩ : ∃ d, D = d + 1 := ⟨D - 1, by omega⟩
  rw [e_Ma_restBehind, q_Ma_restBehind_0]
  simp (disch := omega) only [↓bc_167, ↓br_167_5, ↓bc_170, ↓bx_170, bl_170, ↓b_t0, ↓b_t1, ↓b_t2, ↓b_t3, ↓b_t4, ↓b_t5, ↓b_t6, Nat.zero_add, Nat.le_refl, b_rs, b_rn, b_r2, b_ss, b_sn, b_bt, b_bf, b_b0, b_b1, b_bw, b_shl, b_or, b_iv, b_jv, b_sI, b_sJ, ↓z_hl, z_b0, z_b1, z_b2, b_and1c, b_and1z, if_true, if_false, nI_add, pk_mul, b_cl, b_lt, b_le, b_eq, b_eq0, b_le0, b_0lt, b_0le, b_lt0]
  rw [if_neg (by omega)]
theorem s_Ma_freeFor (hS : i_S s) (hD : 1 ≤ D) {u turn t : Nat} (hu : u < 2 ^ s 3) (hn : turn < m 167 3) (h8 : m 167 3 ≤ 8) (hm : m 169 turn = w_enders s t) : a_ex X tx a_T D 128 [.ref 167, .int (nI u), .int (nI turn)] (b_h m j w) = some ((b_h m j w), some (.int (nI (w_enders s t &&& (u ^^^ 4294967295))))) := by
  obtain ⟨d, rfl⟩ : ∃ d, D = d + 1 := ⟨D - 1, by omega⟩
  rw [e_Ma_freeFor, q_Ma_freeFor_0]
  have hE := i_S_E hS
  have hP : 2 ^ s 3 ≤ 1024 := Nat.pow_le_pow_right (n := 2) (by decide) hE
  have hF1 : w_enders s t &&& (u ^^^ 4294967295) < 1024 := Nat.lt_of_le_of_lt Nat.and_le_left (z_set_le hE)
  simp (disch := omega) only [hm, b_xor, b_and, ↓bc_167, ↓br_167_4, ↓bc_169, ↓bx_169, bl_169, ↓b_t0, ↓b_t1, ↓b_t2, ↓b_t3, ↓b_t4, ↓b_t5, ↓b_t6, Nat.zero_add, Nat.le_refl, b_rs, b_rn, b_r2, b_ss, b_sn, b_bt, b_bf, b_b0, b_b1, b_bw, b_shl, b_or, b_iv, b_jv, b_sI, b_sJ, ↓z_hl, z_b0, z_b1, z_b2, b_and1c, b_and1z, if_true, if_false, nI_add, pk_mul, b_cl, b_lt, b_le, b_eq, b_eq0, b_le0, b_0lt, b_0le, b_lt0]
  rw [if_neg (by omega), if_neg (by omega)]
theorem s_Ma_coinWith (hA : c_A m 26 s) (hS : i_S s) (hI : i_D s) (hD : 2 ≤ D) {u e : Nat} (hu : u < 2 ^ s 3) (he : e < s 3) (hr : m 170 (u ||| 2 ^ e) < 4294967296) : a_ex X tx a_T D 130 [.ref 167, .int (nI u), .int (nI e)] (b_h m j w) = some ((b_h m j w), some (.int (nI (if m 170 (u ||| 2 ^ e) = 4294967295 then 4294967295 else m 170 (u ||| 2 ^ e) + s (251 + e))))) := by
  obtain ⟨d, rfl⟩ : ∃ d, D = d + 1 := ⟨D - 1, by omega⟩
  rw [e_Ma_coinWith, q_Ma_coinWith_0]
  have hE := i_S_E hS
  have hP : 2 ^ s 3 ≤ 1024 := Nat.pow_le_pow_right (n := 2) (by decide) hE
  have hu2 : u ||| 2 ^ e < 2 ^ s 3 := Nat.or_lt_two_pow hu (Nat.pow_lt_pow_right (by decide) (by omega))
  have h1 := c_A_pr hA e (by omega)
  have s1 := s_Ma_restBehind (X := X) (tx := tx) (D := d) (m := m) (j := j) (w := w) (by omega) (u := u ||| 2 ^ e) (by omega)
  simp (disch := omega) only [h1, s1, ↓bc_167, ↓br_167_1, ↓bc_26, ↓br_26_7, ↓bc_32, ↓bx_32, bl_32, ↓b_t0, ↓b_t1, ↓b_t2, ↓b_t3, ↓b_t4, ↓b_t5, ↓b_t6, Nat.zero_add, Nat.le_refl, b_rs, b_rn, b_r2, b_ss, b_sn, b_bt, b_bf, b_b0, b_b1, b_bw, b_shl, b_or, b_iv, b_jv, b_sI, b_sJ, ↓z_hl, z_b0, z_b1, z_b2, b_and1c, b_and1z, if_true, if_false, nI_add, pk_mul, b_cl, b_lt, b_le, b_eq, b_eq0, b_le0, b_0lt, b_0le, b_lt0]
  by_cases c : m 170 (u ||| 2 ^ e) = 4294967295
  · rw [if_pos c, if_pos c]
  · rw [if_neg c, if_neg c]
end SS
