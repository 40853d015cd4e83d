/-! WHAT CAN BE UNDONE -/
section PK
variable {m j : Nat → Nat → Nat} {w : (Nat × Nat) × Bool} {r : A_R}
theorem b_k51 : (a_kd (b_h m j w) 51 = 104 ∨ a_kd (b_h m j w) 51 = 105) = True := eq_true (Or.inl rfl)
theorem b_kept {f : Nat → A_R} {x : Nat} (h : x < 8) : a_fo (a_rf (b_h m j w) 51 x) f = f (52 + 12 * x) := by
  obtain h | h | h | h | h | h | h | h : x = 0 ∨ x = 1 ∨ x = 2 ∨ x = 3 ∨ x = 4 ∨ x = 5 ∨ x = 6 ∨ x = 7 := by omega
  all_goals subst h; exact z_id rfl
theorem b_iskept {x : Nat} (h : x < 8) : b_isaf (52 + 12 * x) := by
  unfold b_isaf
  omega
theorem b_is26 : b_isaf 26 := Or.inl rfl
end PK
def w_pk (m : Nat → Nat → Nat) : Nat → Nat → Nat := b_r (w_cpA m (52 + 12 * m 50 2) 26) 50 (b_s (b_s (m 50) 2 (if m 50 2 = 7 then 0 else m 50 2 + 1)) 1 (min (m 50 1 + 1) 8))
def w_pb (m : Nat → Nat → Nat) : Nat → Nat → Nat := b_r (w_cpA m 26 (52 + 12 * ((m 50 2 + 7) % 8))) 50 (b_s (b_s (m 50) 2 ((m 50 2 + 7) % 8)) 1 (m 50 1 - 1))
theorem b_rxx {m : Nat → Nat → Nat} {c c2 : Nat} {f g : Nat → Nat} (h : c2 ≠ c) : b_r (b_r m c f) c2 g = b_r (b_r m c2 g) c f := by
  funext i
  unfold b_r
  by_cases h1 : i = c
  · by_cases h2 : i = c2
    · omega
    · simp [h1]; intro h3; omega
  · simp [h1]
theorem w_cpA_50 {m : Nat → Nat → Nat} {a b : Nat} {f : Nat → Nat} (ha : a + 11 < 50 ∨ 50 < a) (hb : b + 11 < 50 ∨ 50 < b) : w_cpA (b_r m 50 f) a b = b_r (w_cpA m a b) 50 f := by
  unfold w_cpA
  simp (disch := omega) only [b_rn]
  rw [b_rxx (c := 50), b_rxx (c := 50), b_rxx (c := 50), b_rxx (c := 50), b_rxx (c := 50), b_rxx (c := 50), b_rxx (c := 50), b_rxx (c := 50), b_rxx (c := 50), b_rxx (c := 50), b_rxx (c := 50), b_rxx (c := 50)]
  all_goals omega
section PA
variable {X : Nat × (Nat → Int32)} {tx : List Int32} {D : Nat} {m j : Nat → Nat → Nat} {w : (Nat × Nat) × Bool} {s u : Nat → Nat}
theorem s_Pa_clear (hD : 1 ≤ D) : a_ex X tx a_T D 81 [.ref 50] (b_h m j w) = some ((b_h (b_r m 50 (b_s (b_s (m 50) 1 0) 2 0)) j w), none) := by
  obtain ⟨d, rfl⟩ : ∃ d, D = d + 1 := ⟨D - 1, by omega⟩
  rw [e_Pa_clear, q_Pa_clear_0]
  simp (disch := omega) only [↓bc_50, ↓b_t0, ↓b_t1, ↓b_t2, ↓b_t3, ↓b_t4, ↓b_t5, ↓b_t6, Nat.zero_add, Nat.le_refl, b_rs, b_rn, b_r2, b_ss, b_sn, b_bt, b_bf, b_b0, b_b1, b_bw, b_shl, b_or, b_iv, b_jv, b_sI, b_sJ, ↓z_hl, z_b0, z_b1, z_b2, b_and1c, b_and1z, if_true, if_false, nI_add, pk_mul, b_cl, b_lt, b_le, b_eq, b_eq0, b_le0, b_0lt, b_0le, b_lt0]
theorem s_Pa_keep (hx : m 50 2 < 8) (hn : m 50 1 ≤ 8) (hD : 2 ≤ D) : a_ex X tx a_T D 82 [.ref 50, .ref 26] (b_h m j w) = some ((b_h (w_pk m) j w), none) := by
  obtain ⟨d, rfl⟩ : ∃ d, D = d + 1 := ⟨D - 1, by omega⟩
  rw [e_Pa_keep, q_Pa_keep_0]
  have s1 := s_Af_copy (X := X) (tx := tx) (D := d) (m := m) (j := j) (w := w) (b_iskept hx) b_is26 (by omega) (by omega)
  have k50 : w_cpA m (52 + 12 * m 50 2) 26 50 = m 50 := w_cpA_fr 50 (by omega)
  by_cases c : m 50 2 = 7
  · simp (disch := omega) only [b_k51, ↓bx_51, b_kept, ↓b_af_kc (b_iskept hx), s1, k50, b_min, ↓bc_50, ↓br_50_0, ↓bc_51, ↓bx_51, bl_51, ↓bc_26, ↓b_t0, ↓b_t1, ↓b_t2, ↓b_t3, ↓b_t4, ↓b_t5, ↓b_t6, Nat.zero_add, Nat.le_refl, b_rs, b_rn, b_r2, b_ss, b_sn, b_bt, b_bf, b_b0, b_b1, b_bw, b_shl, b_or, b_iv, b_jv, b_sI, b_sJ, ↓z_hl, z_b0, z_b1, z_b2, b_and1c, b_and1z, if_true, if_false, nI_add, pk_mul, b_cl, b_lt, b_le, b_eq, b_eq0, b_le0, b_0lt, b_0le, b_lt0]
    unfold w_pk
    rw [if_pos (by omega), if_pos c]
  · simp (disch := omega) only [b_k51, ↓bx_51, b_kept, ↓b_af_kc (b_iskept hx), s1, k50, b_min, ↓bc_50, ↓br_50_0, ↓bc_51, ↓bx_51, bl_51, ↓bc_26, ↓b_t0, ↓b_t1, ↓b_t2, ↓b_t3, ↓b_t4, ↓b_t5, ↓b_t6, Nat.zero_add, Nat.le_refl, b_rs, b_rn, b_r2, b_ss, b_sn, b_bt, b_bf, b_b0, b_b1, b_bw, b_shl, b_or, b_iv, b_jv, b_sI, b_sJ, ↓z_hl, z_b0, z_b1, z_b2, b_and1c, b_and1z, if_true, if_false, nI_add, pk_mul, b_cl, b_lt, b_le, b_eq, b_eq0, b_le0, b_0lt, b_0le, b_lt0]
    unfold w_pk
    rw [if_neg (by omega), if_neg c]
theorem s_Pa_takeBack0 (h0 : m 50 1 = 0) (hD : 1 ≤ D) : a_ex X tx a_T D 83 [.ref 50, .ref 26] (b_h m j w) = some ((b_h m j w), some (.int (nI (4294967295)))) := by
  obtain ⟨d, rfl⟩ : ∃ d, D = d + 1 := ⟨D - 1, by omega⟩
  rw [e_Pa_takeBack, q_Pa_takeBack_0]
  simp (disch := omega) only [h0, ↓bc_50, ↓br_50_0, ↓bc_51, ↓bx_51, bl_51, ↓bc_26, ↓b_t0, ↓b_t1, ↓b_t2, ↓b_t3, ↓b_t4, ↓b_t5, ↓b_t6, Nat.zero_add, Nat.le_refl, b_rs, b_rn, b_r2, b_ss, b_sn, b_bt, b_bf, b_b0, b_b1, b_bw, b_shl, b_or, b_iv, b_jv, b_sI, b_sJ, ↓z_hl, z_b0, z_b1, z_b2, b_and1c, b_and1z, if_true, if_false, nI_add, pk_mul, b_cl, b_lt, b_le, b_eq, b_eq0, b_le0, b_0lt, b_0le, b_lt0]
theorem s_Pa_takeBack (hx : m 50 2 < 8) (h0 : m 50 1 ≠ 0) (hn : m 50 1 ≤ 8) (hD : 2 ≤ D) : a_ex X tx a_T D 83 [.ref 50, .ref 26] (b_h m j w) = some ((b_h (w_pb m) j w), some (.int (nI (m 50 1 - 1)))) := by
  obtain ⟨d, rfl⟩ : ∃ d, D = d + 1 := ⟨D - 1, by omega⟩
  rw [e_Pa_takeBack, q_Pa_takeBack_0]
  have hy : (m 50 2 + 7) % 8 < 8 := Nat.mod_lt _ (by decide)
  have s1 := s_Af_copy (X := X) (tx := tx) (D := d) (m := b_r m 50 (b_s (m 50) 2 ((m 50 2 + 7) % 8))) (j := j) (w := w) b_is26 (b_iskept hy) (by omega) (by omega)
  have s2 : w_cpA (b_r m 50 (b_s (m 50) 2 ((m 50 2 + 7) % 8))) 26 (52 + 12 * ((m 50 2 + 7) % 8)) 50 = b_s (m 50) 2 ((m 50 2 + 7) % 8) := (w_cpA_fr 50 (by omega)).trans b_rs
  have s3 : b_r (w_cpA (b_r m 50 (b_s (m 50) 2 ((m 50 2 + 7) % 8))) 26 (52 + 12 * ((m 50 2 + 7) % 8))) 50 (b_s (b_s (m 50) 2 ((m 50 2 + 7) % 8)) 1 (m 50 1 - 1)) = w_pb m := by
    unfold w_pb
    rw [w_cpA_50 (by omega) (by omega), b_r2]
  have k1 : a_rn X tx (a_ex X tx a_T d) (a_go X tx (a_ex X tx a_T d) k_Pa_takeBack_0 a_f1) k_Pa_takeBack_15 0 [.ref 50, .ref 26] [.int (nI ((m 50 2 + 7) % 8)), .ref 50] (b_h m j w) = some (b_h (w_pb m) j w, some (.int (nI (m 50 1 - 1)))) := by
    rw [q_Pa_takeBack_15]
    simp (disch := omega) only [b_k51, ↓bx_51, b_kept, s1, s2, b_sub, s3, ↓bc_50, ↓br_50_0, ↓bc_51, ↓bx_51, bl_51, ↓bc_26, ↓b_t0, ↓b_t1, ↓b_t2, ↓b_t3, ↓b_t4, ↓b_t5, ↓b_t6, Nat.zero_add, Nat.le_refl, b_rs, b_rn, b_r2, b_ss, b_sn, b_bt, b_bf, b_b0, b_b1, b_bw, b_shl, b_or, b_iv, b_jv, b_sI, b_sJ, ↓z_hl, z_b0, z_b1, z_b2, b_and1c, b_and1z, if_true, if_false, nI_add, pk_mul, b_cl, b_lt, b_le, b_eq, b_eq0, b_le0, b_0lt, b_0le, b_lt0]
    unfold w_pb
    simp (disch := omega) only [b_rs, b_ss]
  by_cases c : m 50 2 = 0
  · simp (disch := omega) only [b_sub, ↓bc_50, ↓br_50_0, ↓bc_51, ↓bx_51, bl_51, ↓bc_26, ↓b_t0, ↓b_t1, ↓b_t2, ↓b_t3, ↓b_t4, ↓b_t5, ↓b_t6, Nat.zero_add, Nat.le_refl, b_rs, b_rn, b_r2, b_ss, b_sn, b_bt, b_bf, b_b0, b_b1, b_bw, b_shl, b_or, b_iv, b_jv, b_sI, b_sJ, ↓z_hl, z_b0, z_b1, z_b2, b_and1c, b_and1z, if_true, if_false, nI_add, pk_mul, b_cl, b_lt, b_le, b_eq, b_eq0, b_le0, b_0lt, b_0le, b_lt0]
    rw [if_neg h0, if_pos c]
    rw [show (m 50 2 + 7) % 8 = 7 by omega] at k1
    exact k1
  · simp (disch := omega) only [b_sub, ↓bc_50, ↓br_50_0, ↓bc_51, ↓bx_51, bl_51, ↓bc_26, ↓b_t0, ↓b_t1, ↓b_t2, ↓b_t3, ↓b_t4, ↓b_t5, ↓b_t6, Nat.zero_add, Nat.le_refl, b_rs, b_rn, b_r2, b_ss, b_sn, b_bt, b_bf, b_b0, b_b1, b_bw, b_shl, b_or, b_iv, b_jv, b_sI, b_sJ, ↓z_hl, z_b0, z_b1, z_b2, b_and1c, b_and1z, if_true, if_false, nI_add, pk_mul, b_cl, b_lt, b_le, b_eq, b_eq0, b_le0, b_0lt, b_0le, b_lt0]
    rw [if_neg h0, if_neg c]
    rw [show (m 50 2 + 7) % 8 = m 50 2 - 1 by omega] at k1
    exact k1
end PA
