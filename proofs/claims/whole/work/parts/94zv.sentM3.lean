/-! SENTENCES: the reference takes an operand, further -/
section SO
variable {X : Nat × (Nat → Int32)} {tx : List Int32} {D d : Nat} {m j : Nat → Nat → Nat} {w : (Nat × Nat) × Bool} {b : Nat → Nat} {n q p : Nat} {N S : Nat → Nat} {σ : List Nat} {A : List (Nat × Nat × Nat)} {ones : Nat}
/-- an operand's word is behind one -/
theorem s_Mo_opN {f i1 i2 i3 : Nat} {u : Value} (h : y_Z m j b n q N S σ A ones false p) (ho : ones < 20) (hd8 : q_deep σ ≤ 8) (hin : w_pb2 b n q p < min n q) (hd : 2 ≤ d) : ∃ m2 j2, y_X m2 j2 b n q ∧ l_M m2 j2 b n q (w_nx b n q p) ∧ w_nx b n q p ≤ n ∧ m2 236 = S ∧ j2 239 = N ∧ z_K m2 σ A ∧ m2 234 46 = ones + 1 ∧ m2 234 49 = 0 ∧ z_Sf m m2 j j2 ∧ m 234 46 = ones ∧ m 234 48 = q_deep σ ∧ m2 234 47 = σ.length ∧ a_ex X tx a_T d 211 [.ref 234] (b_h (b_r m 234 (b_s (m 234) 46 (ones + 1))) j w) = some (b_h m2 j2 w, none) := by
  obtain ⟨hX, hM, hp, hS, hN, hK, h46, h49, hc1, hc2, hc3⟩ := h
  have v1 : ∀ c, c ≠ 234 → b_r m 234 (b_s (m 234) 46 (ones + 1)) c = m c := fun c hc => b_rn hc
  obtain ⟨m2, j2, e2, o2, g2⟩ := s_Mo_nextT (X := X) (tx := tx) (D := d) (m := b_r m 234 (b_s (m 234) 46 (ones + 1))) (j := j) (w := w) (y_X_fr hX (v1 235 (by decide)) rfl) (l_M_18 hM (by decide) (by decide) (by decide) (by decide) (by decide) (by decide)) hin hd
  have hK2 : z_K m2 σ A := z_K_o (z_K_w hK (by decide) (by decide) (by decide)) o2
  refine ⟨m2, j2, y_X_fr hX ((o2.2.2.1 235 (by decide)).trans (v1 235 (by decide))) (o2.2.2.2.1 240 (by decide)), o2.1, o2.2.1, ((o2.2.2.1 236 (by decide)).trans (v1 236 (by decide))).trans hS, (o2.2.2.2.1 239 (by decide)).trans hN, hK2, ?_, ?_, z_Sf_t (z_Sf_w z_Sf_r (by omega)) (z_Sf_o o2), h46, hK.2.2.1, hK2.2.1, e2⟩
  · rw [o2.2.2.2.2 46 (by decide) (by decide) (by decide) (by decide) (by decide) (by decide), b_rs, b_ss]
  · rw [o2.2.2.2.2 49 (by decide) (by decide) (by decide) (by decide) (by decide) (by decide), b_rs, b_sn (by decide), h49]
    rfl
theorem s_Mo_opP {f i1 i3 t : Nat} {u : Value} (h : y_Z m j b n q N S σ A ones false p) (ho : ones < 20) (hd8 : q_deep σ ≤ 8) (hin : w_pb2 b n q p < min n q) (hd : 2 ≤ d) (ht : (t = 20 ∧ i1 = 1) ∨ (t = 23 ∧ i1 = 0)) {i2 : Nat} (hi2 : t = 23 → i2 = 1) (hi2b : i2 < 2) : y_O m j w b n q N S (ones + 1) (.ok (t :: σ, A, false, w_nx b n q p)) (a_rn X tx (a_ex X tx a_T d) (a_go X tx (a_ex X tx a_T d) k_Mo_operand_0 f) k_Mo_operand_21 0 [.ref 234, .int (nI i1), .int (nI i2), .int (nI i3), u] [] (b_h m j w)) := by
  obtain ⟨m2, j2, x1, x2, x3, x4, x5, x6, x7, x8, x9, x10, x11, x12, x13⟩ := s_Mo_opN (X := X) (tx := tx) (d := d) (w := w) (f := 0) (i1 := 0) (i2 := 0) (i3 := 0) (u := .retAddr 0) h ho hd8 hin hd
  obtain ⟨_, _, _, _, _, _, _, _, hc1, hc2, hc3⟩ := h
  have hb0 : b_b false = 0 := rfl
  rw [hb0] at hc1 hc2
  have hdp : q_deep (t :: σ) = q_deep σ + 1 := if_pos (by omega)
  have hno : q_no (t :: σ) ≤ q_no σ + 1 := by
    unfold q_no
    split
    · cases σ <;> simp only [q_no] <;> omega
    · cases σ <;> simp only [q_no] <;> omega
  have hs48 : m2 234 48 = q_deep σ := x6.2.2.1
  have hd1 := q_deep_1 σ
  have kp := z_K_push (A := A) (t := t) x6 (by omega) (by omega) (by omega)
  have z10 : (nI 1 = (0 : Int32)) = False := eq_false (by decide +kernel)
  have z00 : (nI 0 = (0 : Int32)) = True := eq_true (by decide +kernel)
  refine y_O_o rfl (m2 := w_push m2 σ.length t (q_deep (t :: σ))) (j2 := j2) ?_ ⟨?_, ?_, x3, ?_, x5, kp, ?_, ?_, ?_, ?_, by omega⟩ (z_Sf_p x9)
  · rw [q_Mo_operand_21]
    rcases ht with ⟨rfl, rfl⟩ | ⟨rfl, rfl⟩
    · simp only [z10, if_false]
      simp (disch := omega) only [x10, x11, x13, x12, Nat.one_ne_zero, ↓bc_234, ↓br_234_44, ↓bc_252, ↓bx_252, bl_252, ↓br_234_6, ↓bc_236, ↓bx_236, bl_236, ↓b_t0, ↓b_t1, ↓b_t2, ↓b_t3, ↓b_t4, ↓b_t5, ↓b_t6, Nat.zero_add, Nat.le_refl, b_rs, b_rn, b_r2, b_ss, b_sn, b_bt, b_bf, b_b0, b_b1, b_bw, b_shl, b_or, b_iv, b_jv, b_sI, b_sJ, ↓z_hl, z_b0, z_b1, z_b2, b_and1c, b_and1z, if_true, if_false, nI_add, pk_mul, b_cl, b_lt, b_le, b_eq, b_eq0, b_le0, b_0lt, b_0le, b_lt0]
      rw [if_neg (by omega), if_pos hd8, q_Mo_operand_54, hdp]
      simp (disch := omega) only [x12, hs48, ↓bc_234, ↓br_234_44, ↓bc_252, ↓bx_252, bl_252, ↓br_234_6, ↓bc_236, ↓bx_236, bl_236, ↓b_t0, ↓b_t1, ↓b_t2, ↓b_t3, ↓b_t4, ↓b_t5, ↓b_t6, Nat.zero_add, Nat.le_refl, b_rs, b_rn, b_r2, b_ss, b_sn, b_bt, b_bf, b_b0, b_b1, b_bw, b_shl, b_or, b_iv, b_jv, b_sI, b_sJ, ↓z_hl, z_b0, z_b1, z_b2, b_and1c, b_and1z, if_true, if_false, nI_add, pk_mul, b_cl, b_lt, b_le, b_eq, b_eq0, b_le0, b_0lt, b_0le, b_lt0]
      rfl
    · have hi2 := hi2 rfl
      subst hi2
      simp only [z10, z00, if_false, if_true]
      simp (disch := omega) only [x10, x11, x13, x12, Nat.one_ne_zero, ↓bc_234, ↓br_234_44, ↓bc_252, ↓bx_252, bl_252, ↓br_234_6, ↓bc_236, ↓bx_236, bl_236, ↓b_t0, ↓b_t1, ↓b_t2, ↓b_t3, ↓b_t4, ↓b_t5, ↓b_t6, Nat.zero_add, Nat.le_refl, b_rs, b_rn, b_r2, b_ss, b_sn, b_bt, b_bf, b_b0, b_b1, b_bw, b_shl, b_or, b_iv, b_jv, b_sI, b_sJ, ↓z_hl, z_b0, z_b1, z_b2, b_and1c, b_and1z, if_true, if_false, nI_add, pk_mul, b_cl, b_lt, b_le, b_eq, b_eq0, b_le0, b_0lt, b_0le, b_lt0]
      rw [if_neg (by omega), if_pos hd8, q_Mo_operand_54, hdp]
      simp (disch := omega) only [x12, hs48, ↓bc_234, ↓br_234_44, ↓bc_252, ↓bx_252, bl_252, ↓br_234_6, ↓bc_236, ↓bx_236, bl_236, ↓b_t0, ↓b_t1, ↓b_t2, ↓b_t3, ↓b_t4, ↓b_t5, ↓b_t6, Nat.zero_add, Nat.le_refl, b_rs, b_rn, b_r2, b_ss, b_sn, b_bt, b_bf, b_b0, b_b1, b_bw, b_shl, b_or, b_iv, b_jv, b_sI, b_sJ, ↓z_hl, z_b0, z_b1, z_b2, b_and1c, b_and1z, if_true, if_false, nI_add, pk_mul, b_cl, b_lt, b_le, b_eq, b_eq0, b_le0, b_0lt, b_0le, b_lt0]
      rfl
  · unfold w_push
    exact y_X_fr x1 (by rw [b_rn (by decide), b_rn (by decide)]) rfl
  · unfold w_push
    have l1 := l_M_18 (v := σ.length + 1) (k := 47) (l_M_c (m2 := b_r m2 252 (b_s (m2 252) σ.length t)) x2 (b_rn (by decide)) rfl) (by decide) (by decide) (by decide) (by decide) (by decide) (by decide)
    have l2 := l_M_18 (v := q_deep (t :: σ)) (k := 48) l1 (by decide) (by decide) (by decide) (by decide) (by decide) (by decide)
    rw [b_r2, b_rs, b_rn (by decide)] at l2
    exact l2
  · unfold w_push
    rw [b_rn (by decide), b_rn (by decide)]; exact x4
  · unfold w_push
    rw [b_rs, b_sn (by decide), b_sn (by decide)]; exact x7
  · unfold w_push
    rw [b_rs, b_sn (by decide), b_sn (by decide)]; exact x8
  · show A.length + q_no (t :: σ) + 0 ≤ 2 * (ones + 1)
    omega
  · show (t :: σ).length + 0 ≤ ones + 1
    rw [List.length_cons]
    omega
/-- a leaf was said -/
theorem y_Z_leaf {m2 j2 : Nat → Nat → Nat} {a c v p2 : Nat} (x1 : y_X m2 j2 b n q) (x2 : l_M m2 j2 b n q p2) (x3 : p2 ≤ n) (x4 : m2 236 = S) (x5 : j2 239 = N) (x6 : z_K m2 σ A) (x7 : m2 234 46 = ones + 1) (x8 : m2 234 49 = 1) (hc1 : A.length + q_no σ ≤ 2 * ones) (hc2 : σ.length ≤ ones) (ho : ones < 20) : y_Z (w_code m2 A.length a c v) j2 b n q N S σ ((a, c, v) :: A) (ones + 1) true p2 := by
  refine ⟨y_X_fr x1 (by unfold w_code; rw [b_rn (by decide), b_rn (by decide)]) rfl, ?_, x3, by unfold w_code; rw [b_rn (by decide), b_rn (by decide)]; exact x4, x5, z_K_code x6 (by omega), by unfold w_code; rw [b_rs, b_sn (by decide)]; exact x7, by unfold w_code; rw [b_rs, b_sn (by decide)]; exact x8, ?_, ?_, by omega⟩
  · unfold w_code
    have l1 := l_M_18 (v := A.length + 1) (k := 45) (l_M_c (m2 := b_r m2 238 (b_s (b_s (b_s (m2 238) (3 * A.length) a) (3 * A.length + 1) c) (3 * A.length + 2) v)) x2 (b_rn (by decide)) rfl) (by decide) (by decide) (by decide) (by decide) (by decide) (by decide)
    rw [b_rn (c := 238) (by decide)] at l1
    exact l1
  · show ((a, c, v) :: A).length + q_no σ + 1 ≤ 2 * (ones + 1)
    rw [List.length_cons]
    omega
  · show σ.length + 1 ≤ ones + 1
    omega
/-- on from there -/
theorem y_Z_o {m2 m3 j2 j3 : Nat → Nat → Nat} {wh : Bool} {p3 : Nat} (h : y_Z m2 j2 b n q N S σ A ones wh p) (o : o_M m2 m3 j2 j3 b n q p3) : y_Z m3 j3 b n q N S σ A ones wh p3 := by
  obtain ⟨hX, hM, hp, hS, hN, hK, h46, h49, hc⟩ := h
  exact ⟨y_X_fr hX (o.2.2.1 235 (by decide)) (o.2.2.2.1 240 (by decide)), o.1, o.2.1, (o.2.2.1 236 (by decide)).trans hS, (o.2.2.2.1 239 (by decide)).trans hN, z_K_o hK o, (o.2.2.2.2 46 (by decide) (by decide) (by decide) (by decide) (by decide) (by decide)).trans h46, (o.2.2.2.2 49 (by decide) (by decide) (by decide) (by decide) (by decide) (by decide)).trans h49, hc⟩
end SO
