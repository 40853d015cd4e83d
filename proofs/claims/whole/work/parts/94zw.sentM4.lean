/-! SENTENCES: the reference takes an operand, all of it -/
section SO
variable {X : Nat × (Nat → Int32)} {tx : List Int32} {D d : Nat} {m j : Nat → Nat → Nat} {w : (Nat × Nat) × Bool} {b : Nat → Nat} {n q p : Nat} {N S : Nat → Nat} {σ : List Nat} {A : List (Nat × Nat × Nat)} {ones : Nat}
theorem s_Mo_opL12 {f : Nat} {u : Value} (h : y_Z m j b n q N S σ A ones false p) (ho : ones < 20) (hd8 : q_deep σ ≤ 8) (hin : w_pb2 b n q p < min n q) (hd : 4 ≤ d) : y_O m j w b n q N S (ones + 1) (.ok (σ, (0, 0, 0) :: A, true, w_nx b n q p)) (a_rn X tx (a_ex X tx a_T d) (a_go X tx (a_ex X tx a_T d) k_Mo_operand_0 f) k_Mo_operand_21 0 [.ref 234, .int (nI 0), .int (nI 0), .int (nI 0), u] [] (b_h m j w)) := by
  obtain ⟨m2, j2, x1, x2, x3, x4, x5, x6, x7, x8, x9, x10, x11, x12, x13⟩ := s_Mo_opN (X := X) (tx := tx) (d := d) (w := w) (f := 0) (i1 := 0) (i2 := 0) (i3 := 0) (u := .retAddr 0) h ho hd8 hin (by omega)
  obtain ⟨_, _, _, _, _, _, _, _, hc1, hc2, hc3⟩ := h
  have hb0 : b_b false = 0 := rfl
  rw [hb0] at hc1 hc2
  have z00 : (nI 0 = (0 : Int32)) = True := eq_true (by decide +kernel)
  generalize hm3 : b_r m2 234 (b_s (m2 234) 49 1) = m3
  have v3 : ∀ c, c ≠ 234 → m3 c = m2 c := fun c hc => by rw [← hm3, b_rn hc]
  have u3 : ∀ k, k ≠ 49 → m3 234 k = m2 234 k := fun k hk => by rw [← hm3, b_rs, b_sn hk]
  have K3 : z_K m3 σ A := by rw [← hm3]; exact z_K_w x6 (by decide) (by decide) (by decide)
  have L3 : l_M m3 j2 b n q (w_nx b n q p) := by rw [← hm3]; exact l_M_18 x2 (by decide) (by decide) (by decide) (by decide) (by decide) (by decide)
  have X3 : y_X m3 j2 b n q := y_X_fr x1 (v3 235 (by decide)) rfl
  have s3 := s_Mo_code (X := X) (tx := tx) (D := d) (m := m3) (j := j2) (w := w) (by omega) (L := A.length) (a := 0) (b := 0) (c := 0) K3.1 (by omega)
  refine y_O_o rfl (m2 := w_code m3 A.length 0 0 0) (j2 := j2) ?_ (y_Z_leaf X3 L3 x3 ((v3 236 (by decide)).trans x4) x5 K3 ((u3 46 (by decide)).trans x7) (by rw [← hm3, b_rs, b_ss]) (by omega) (by omega) ho) (z_Sf_c (by rw [← hm3]; exact z_Sf_w x9 (by omega)))
  rw [q_Mo_operand_21]
  simp only [z00, if_true]
  simp (disch := omega) only [x10, x11, x13, hm3, s3, ↓bc_234, ↓br_234_44, ↓bc_252, ↓bx_252, bl_252, ↓br_234_6, ↓bc_236, ↓bx_236, bl_236, ↓b_t0, ↓b_t1, ↓b_t2, ↓b_t3, ↓b_t4, ↓b_t5, ↓b_t6, Nat.zero_add, Nat.le_refl, b_rs, b_rn, b_r2, b_ss, b_sn, b_bt, b_bf, b_b0, b_b1, b_bw, b_shl, b_or, b_iv, b_jv, b_sI, b_sJ, ↓z_hl, z_b0, z_b1, z_b2, b_and1c, b_and1z, if_true, if_false, nI_add, pk_mul, b_cl, b_lt, b_le, b_eq, b_eq0, b_le0, b_0lt, b_0le, b_lt0]
  rw [if_neg (by omega), if_pos hd8]
theorem s_Mo_opL13 {f : Nat} {u : Value} (h : y_Z m j b n q N S σ A ones false p) (hi : i_S S) (hb : z_nb N S) (ho : ones < 20) (hd8 : q_deep σ ≤ 8) (hin : w_pb2 b n q p < min n q) (hd : 6 ≤ d) : y_O m j w b n q N S (ones + 1) (match q_leaf b n q N S A 13 (w_nx b n q p) with | .error e => .error e | .ok y => .ok (σ, y.1, true, y.2)) (a_rn X tx (a_ex X tx a_T d) (a_go X tx (a_ex X tx a_T d) k_Mo_operand_0 f) k_Mo_operand_21 0 [.ref 234, .int (nI 0), .int (nI 0), .int (nI 1), u] [] (b_h m j w)) := by
  obtain ⟨m2, j2, x1, x2, x3, x4, x5, x6, x7, x8, x9, x10, x11, x12, x13⟩ := s_Mo_opN (X := X) (tx := tx) (d := d) (w := w) (f := 0) (i1 := 0) (i2 := 0) (i3 := 0) (u := .retAddr 0) h ho hd8 hin (by omega)
  obtain ⟨_, _, _, _, _, _, _, _, hc1, hc2, hc3⟩ := h
  have hb0 : b_b false = 0 := rfl
  rw [hb0] at hc1 hc2
  have hK := i_S_K hi
  have hM := i_S_M hi
  have hE := i_S_E hi
  have z00 : (nI 0 = (0 : Int32)) = True := eq_true (by decide +kernel)
  have zl0 : (nI 1 = (0 : Int32)) = False := eq_false (by decide +kernel)
  have zl4 : (nI 4 ≤ nI 1) = False := eq_false (by decide +kernel)
  have zl1 : (nI 1 = nI 1) = True := eq_true (by decide +kernel)
  have zl2 : (nI 1 = nI 2) = False := eq_false (by decide +kernel)
  generalize hm3 : b_r m2 234 (b_s (m2 234) 49 1) = m3
  have v3 : ∀ c, c ≠ 234 → m3 c = m2 c := fun c hc => by rw [← hm3, b_rn hc]
  have u3 : ∀ k, k ≠ 49 → m3 234 k = m2 234 k := fun k hk => by rw [← hm3, b_rs, b_sn hk]
  have K3 : z_K m3 σ A := by rw [← hm3]; exact z_K_w x6 (by decide) (by decide) (by decide)
  have L3 : l_M m3 j2 b n q (w_nx b n q p) := by rw [← hm3]; exact l_M_18 x2 (by decide) (by decide) (by decide) (by decide) (by decide) (by decide)
  have X3 : y_X m3 j2 b n q := y_X_fr x1 (v3 235 (by decide)) rfl
  have F3 : z_Sf m m3 j j2 := by rw [← hm3]; exact z_Sf_w x9 (by omega)
  have S3 : m3 236 = S := (v3 236 (by decide)).trans x4
  have S3k : m3 236 1 = S 1 := by rw [S3]
  have hq : q_leaf b n q N S A 13 (w_nx b n q p) = (match k_look b n q (fun k => N (6 + k)) (S 1) (w_nx b n q p) with
    | .error e => .error e
    | .ok k => .ok ((1, 0, k) :: A, w_nx b n q (w_nx b n q p))) := rfl
  rw [hq]
  have s3 := s_Mo_looksAt (X := X) (tx := tx) (D := d) (m := m3) (j := j2) (w := w) X3 L3 (by omega) (fr := 6) (many := S 1) (g := fun k => N (6 + k)) (by omega) (fun k hk => ⟨by rw [x5], by have := hb.1 k; have := hb.2.2.1 k; have := hb.2.2.2 k; first | exact hb.1 k hk | exact hb.2.2.1 k hk | (rw [Nat.zero_add]; exact hb.2.2.2 k hk)⟩)
  cases q1 : k_look b n q (fun k => N (6 + k)) (S 1) (w_nx b n q p) with
  | error e =>
    rw [q1] at s3
    obtain ⟨m4, j4, e4, f4⟩ := s3
    refine y_O_e rfl (m2 := m4) (j2 := j4) ?_ (z_SE_t F3 (z_SE_x f4))
    rw [q_Mo_operand_21]
    simp only [z00, zl0, zl4, zl1, zl2, if_true, if_false]
    simp (disch := omega) only [x10, x11, x13, hm3, q_Mo_operand_109, S3k, e4, ↓bc_234, ↓br_234_44, ↓bc_252, ↓bx_252, bl_252, ↓br_234_6, ↓bc_236, ↓bx_236, bl_236, ↓b_t0, ↓b_t1, ↓b_t2, ↓b_t3, ↓b_t4, ↓b_t5, ↓b_t6, Nat.zero_add, Nat.le_refl, b_rs, b_rn, b_r2, b_ss, b_sn, b_bt, b_bf, b_b0, b_b1, b_bw, b_shl, b_or, b_iv, b_jv, b_sI, b_sJ, ↓z_hl, z_b0, z_b1, z_b2, b_and1c, b_and1z, if_true, if_false, nI_add, pk_mul, b_cl, b_lt, b_le, b_eq, b_eq0, b_le0, b_0lt, b_0le, b_lt0]
    rw [if_neg (by omega), if_pos hd8]
  | ok k =>
    rw [q1] at s3
    obtain ⟨hk, e4⟩ := s3
    have hk1 := k_am_lo q1
    generalize hm4 : b_r m3 234 (b_s (m3 234) 18 k) = m4 at e4
    have v4 : ∀ c, c ≠ 234 → m4 c = m3 c := fun c hc => by rw [← hm4, b_rn hc]
    have u4 : ∀ k, k ≠ 18 → m4 234 k = m3 234 k := fun k hk => by rw [← hm4, b_rs, b_sn hk]
    have K4 : z_K m4 σ A := by rw [← hm4]; exact z_K_w K3 (by decide) (by decide) (by decide)
    have L4 : l_M m4 j2 b n q (w_nx b n q p) := by rw [← hm4]; exact l_M_18 L3 (by decide) (by decide) (by decide) (by decide) (by decide) (by decide)
    have k18 : m4 234 18 = k := by rw [← hm4, b_rs, b_ss]
    have s5 := s_Mo_code (X := X) (tx := tx) (D := d) (m := m4) (j := j2) (w := w) (by omega) (L := A.length) (a := 1) (b := 0) (c := k) K4.1 (by omega)
    have Z5 : y_Z (w_code m4 A.length 1 0 k) j2 b n q N S σ ((1, 0, k) :: A) (ones + 1) true (w_nx b n q p) := y_Z_leaf (y_X_fr X3 (v4 235 (by decide)) rfl) L4 x3 ((v4 236 (by decide)).trans S3) x5 K4 ((u4 46 (by decide)).trans ((u3 46 (by decide)).trans x7)) (by rw [u4 49 (by decide), ← hm3, b_rs, b_ss]) (by omega) (by omega) ho
    have F5 : z_Sf m (w_code m4 A.length 1 0 k) j j2 := z_Sf_c (by rw [← hm4]; exact z_Sf_w F3 (by omega))
    obtain ⟨m6, j6, e6, o6, g6⟩ := s_Mo_nextT (X := X) (tx := tx) (D := d) (w := w) Z5.1 Z5.2.1 (w_kd_in (by omega) (by omega)) (by omega)
    refine y_O_o rfl (m2 := m6) (j2 := j6) ?_ (y_Z_o Z5 o6) (z_Sf_t F5 (z_Sf_o o6))
    rw [q_Mo_operand_21]
    simp only [z00, zl0, zl4, zl1, zl2, if_true, if_false]
    simp (disch := omega) only [x10, x11, x13, hm3, q_Mo_operand_109, S3k, e4, k18, s5, e6, Nat.one_ne_zero, ↓bc_234, ↓br_234_44, ↓bc_252, ↓bx_252, bl_252, ↓br_234_6, ↓bc_236, ↓bx_236, bl_236, ↓b_t0, ↓b_t1, ↓b_t2, ↓b_t3, ↓b_t4, ↓b_t5, ↓b_t6, Nat.zero_add, Nat.le_refl, b_rs, b_rn, b_r2, b_ss, b_sn, b_bt, b_bf, b_b0, b_b1, b_bw, b_shl, b_or, b_iv, b_jv, b_sI, b_sJ, ↓z_hl, z_b0, z_b1, z_b2, b_and1c, b_and1z, if_true, if_false, nI_add, pk_mul, b_cl, b_lt, b_le, b_eq, b_eq0, b_le0, b_0lt, b_0le, b_lt0]
    rw [if_neg (by omega), if_pos hd8]
theorem s_Mo_opL14 {f : Nat} {u : Value} (h : y_Z m j b n q N S σ A ones false p) (hi : i_S S) (hb : z_nb N S) (ho : ones < 20) (hd8 : q_deep σ ≤ 8) (hin : w_pb2 b n q p < min n q) (hd : 6 ≤ d) : y_O m j w b n q N S (ones + 1) (match q_leaf b n q N S A 14 (w_nx b n q p) with | .error e => .error e | .ok y => .ok (σ, y.1, true, y.2)) (a_rn X tx (a_ex X tx a_T d) (a_go X tx (a_ex X tx a_T d) k_Mo_operand_0 f) k_Mo_operand_21 0 [.ref 234, .int (nI 0), .int (nI 0), .int (nI 2), u] [] (b_h m j w)) := by
  obtain ⟨m2, j2, x1, x2, x3, x4, x5, x6, x7, x8, x9, x10, x11, x12, x13⟩ := s_Mo_opN (X := X) (tx := tx) (d := d) (w := w) (f := 0) (i1 := 0) (i2 := 0) (i3 := 0) (u := .retAddr 0) h ho hd8 hin (by omega)
  obtain ⟨_, _, _, _, _, _, _, _, hc1, hc2, hc3⟩ := h
  have hb0 : b_b false = 0 := rfl
  rw [hb0] at hc1 hc2
  have hK := i_S_K hi
  have hM := i_S_M hi
  have hE := i_S_E hi
  have z00 : (nI 0 = (0 : Int32)) = True := eq_true (by decide +kernel)
  have zl0 : (nI 2 = (0 : Int32)) = False := eq_false (by decide +kernel)
  have zl4 : (nI 4 ≤ nI 2) = False := eq_false (by decide +kernel)
  have zl1 : (nI 2 = nI 1) = False := eq_false (by decide +kernel)
  have zl2 : (nI 2 = nI 2) = True := eq_true (by decide +kernel)
  generalize hm3 : b_r m2 234 (b_s (m2 234) 49 1) = m3
  have v3 : ∀ c, c ≠ 234 → m3 c = m2 c := fun c hc => by rw [← hm3, b_rn hc]
  have u3 : ∀ k, k ≠ 49 → m3 234 k = m2 234 k := fun k hk => by rw [← hm3, b_rs, b_sn hk]
  have K3 : z_K m3 σ A := by rw [← hm3]; exact z_K_w x6 (by decide) (by decide) (by decide)
  have L3 : l_M m3 j2 b n q (w_nx b n q p) := by rw [← hm3]; exact l_M_18 x2 (by decide) (by decide) (by decide) (by decide) (by decide) (by decide)
  have X3 : y_X m3 j2 b n q := y_X_fr x1 (v3 235 (by decide)) rfl
  have F3 : z_Sf m m3 j j2 := by rw [← hm3]; exact z_Sf_w x9 (by omega)
  have S3 : m3 236 = S := (v3 236 (by decide)).trans x4
  have S3k : m3 236 0 = S 0 := by rw [S3]
  have hq : q_leaf b n q N S A 14 (w_nx b n q p) = (match k_look b n q (fun k => N (0 + k)) (S 0) (w_nx b n q p) with
    | .error e => .error e
    | .ok k => .ok ((2, 0, k) :: A, w_nx b n q (w_nx b n q p))) := rfl
  rw [hq]
  have s3 := s_Mo_looksAt (X := X) (tx := tx) (D := d) (m := m3) (j := j2) (w := w) X3 L3 (by omega) (fr := 0) (many := S 0) (g := fun k => N (0 + k)) (by omega) (fun k hk => ⟨by rw [x5], by have := hb.1 k; have := hb.2.2.1 k; have := hb.2.2.2 k; first | exact hb.1 k hk | exact hb.2.2.1 k hk | (rw [Nat.zero_add]; exact hb.2.2.2 k hk)⟩)
  cases q1 : k_look b n q (fun k => N (0 + k)) (S 0) (w_nx b n q p) with
  | error e =>
    rw [q1] at s3
    obtain ⟨m4, j4, e4, f4⟩ := s3
    refine y_O_e rfl (m2 := m4) (j2 := j4) ?_ (z_SE_t F3 (z_SE_x f4))
    rw [q_Mo_operand_21]
    simp only [z00, zl0, zl4, zl1, zl2, if_true, if_false]
    simp (disch := omega) only [x10, x11, x13, hm3, q_Mo_operand_109, S3k, e4, ↓bc_234, ↓br_234_44, ↓bc_252, ↓bx_252, bl_252, ↓br_234_6, ↓bc_236, ↓bx_236, bl_236, ↓b_t0, ↓b_t1, ↓b_t2, ↓b_t3, ↓b_t4, ↓b_t5, ↓b_t6, Nat.zero_add, Nat.le_refl, b_rs, b_rn, b_r2, b_ss, b_sn, b_bt, b_bf, b_b0, b_b1, b_bw, b_shl, b_or, b_iv, b_jv, b_sI, b_sJ, ↓z_hl, z_b0, z_b1, z_b2, b_and1c, b_and1z, if_true, if_false, nI_add, pk_mul, b_cl, b_lt, b_le, b_eq, b_eq0, b_le0, b_0lt, b_0le, b_lt0]
    rw [if_neg (by omega), if_pos hd8]
  | ok k =>
    rw [q1] at s3
    obtain ⟨hk, e4⟩ := s3
    have hk1 := k_am_lo q1
    generalize hm4 : b_r m3 234 (b_s (m3 234) 18 k) = m4 at e4
    have v4 : ∀ c, c ≠ 234 → m4 c = m3 c := fun c hc => by rw [← hm4, b_rn hc]
    have u4 : ∀ k, k ≠ 18 → m4 234 k = m3 234 k := fun k hk => by rw [← hm4, b_rs, b_sn hk]
    have K4 : z_K m4 σ A := by rw [← hm4]; exact z_K_w K3 (by decide) (by decide) (by decide)
    have L4 : l_M m4 j2 b n q (w_nx b n q p) := by rw [← hm4]; exact l_M_18 L3 (by decide) (by decide) (by decide) (by decide) (by decide) (by decide)
    have k18 : m4 234 18 = k := by rw [← hm4, b_rs, b_ss]
    have s5 := s_Mo_code (X := X) (tx := tx) (D := d) (m := m4) (j := j2) (w := w) (by omega) (L := A.length) (a := 2) (b := 0) (c := k) K4.1 (by omega)
    have Z5 : y_Z (w_code m4 A.length 2 0 k) j2 b n q N S σ ((2, 0, k) :: A) (ones + 1) true (w_nx b n q p) := y_Z_leaf (y_X_fr X3 (v4 235 (by decide)) rfl) L4 x3 ((v4 236 (by decide)).trans S3) x5 K4 ((u4 46 (by decide)).trans ((u3 46 (by decide)).trans x7)) (by rw [u4 49 (by decide), ← hm3, b_rs, b_ss]) (by omega) (by omega) ho
    have F5 : z_Sf m (w_code m4 A.length 2 0 k) j j2 := z_Sf_c (by rw [← hm4]; exact z_Sf_w F3 (by omega))
    obtain ⟨m6, j6, e6, o6, g6⟩ := s_Mo_nextT (X := X) (tx := tx) (D := d) (w := w) Z5.1 Z5.2.1 (w_kd_in (by omega) (by omega)) (by omega)
    refine y_O_o rfl (m2 := m6) (j2 := j6) ?_ (y_Z_o Z5 o6) (z_Sf_t F5 (z_Sf_o o6))
    rw [q_Mo_operand_21]
    simp only [z00, zl0, zl4, zl1, zl2, if_true, if_false]
    simp (disch := omega) only [x10, x11, x13, hm3, q_Mo_operand_109, S3k, e4, k18, s5, e6, Nat.one_ne_zero, ↓bc_234, ↓br_234_44, ↓bc_252, ↓bx_252, bl_252, ↓br_234_6, ↓bc_236, ↓bx_236, bl_236, ↓b_t0, ↓b_t1, ↓b_t2, ↓b_t3, ↓b_t4, ↓b_t5, ↓b_t6, Nat.zero_add, Nat.le_refl, b_rs, b_rn, b_r2, b_ss, b_sn, b_bt, b_bf, b_b0, b_b1, b_bw, b_shl, b_or, b_iv, b_jv, b_sI, b_sJ, ↓z_hl, z_b0, z_b1, z_b2, b_and1c, b_and1z, if_true, if_false, nI_add, pk_mul, b_cl, b_lt, b_le, b_eq, b_eq0, b_le0, b_0lt, b_0le, b_lt0]
    rw [if_neg (by omega), if_pos hd8]
theorem s_Mo_opL15 {f : Nat} {u : Value} (h : y_Z m j b n q N S σ A ones false p) (hi : i_S S) (hb : z_nb N S) (ho : ones < 20) (hd8 : q_deep σ ≤ 8) (hin : w_pb2 b n q p < min n q) (hd : 6 ≤ d) : y_O m j w b n q N S (ones + 1) (match q_leaf b n q N S A 15 (w_nx b n q p) with | .error e => .error e | .ok y => .ok (σ, y.1, true, y.2)) (a_rn X tx (a_ex X tx a_T d) (a_go X tx (a_ex X tx a_T d) k_Mo_operand_0 f) k_Mo_operand_21 0 [.ref 234, .int (nI 0), .int (nI 0), .int (nI 3), u] [] (b_h m j w)) := by
  obtain ⟨m2, j2, x1, x2, x3, x4, x5, x6, x7, x8, x9, x10, x11, x12, x13⟩ := s_Mo_opN (X := X) (tx := tx) (d := d) (w := w) (f := 0) (i1 := 0) (i2 := 0) (i3 := 0) (u := .retAddr 0) h ho hd8 hin (by omega)
  obtain ⟨_, _, _, _, _, _, _, _, hc1, hc2, hc3⟩ := h
  have hb0 : b_b false = 0 := rfl
  rw [hb0] at hc1 hc2
  have hK := i_S_K hi
  have hM := i_S_M hi
  have hE := i_S_E hi
  have z00 : (nI 0 = (0 : Int32)) = True := eq_true (by decide +kernel)
  have zl0 : (nI 3 = (0 : Int32)) = False := eq_false (by decide +kernel)
  have zl4 : (nI 4 ≤ nI 3) = False := eq_false (by decide +kernel)
  have zl1 : (nI 3 = nI 1) = False := eq_false (by decide +kernel)
  have zl2 : (nI 3 = nI 2) = False := eq_false (by decide +kernel)
  generalize hm3 : b_r m2 234 (b_s (m2 234) 49 1) = m3
  have v3 : ∀ c, c ≠ 234 → m3 c = m2 c := fun c hc => by rw [← hm3, b_rn hc]
  have u3 : ∀ k, k ≠ 49 → m3 234 k = m2 234 k := fun k hk => by rw [← hm3, b_rs, b_sn hk]
  have K3 : z_K m3 σ A := by rw [← hm3]; exact z_K_w x6 (by decide) (by decide) (by decide)
  have L3 : l_M m3 j2 b n q (w_nx b n q p) := by rw [← hm3]; exact l_M_18 x2 (by decide) (by decide) (by decide) (by decide) (by decide) (by decide)
  have X3 : y_X m3 j2 b n q := y_X_fr x1 (v3 235 (by decide)) rfl
  have F3 : z_Sf m m3 j j2 := by rw [← hm3]; exact z_Sf_w x9 (by omega)
  have S3 : m3 236 = S := (v3 236 (by decide)).trans x4
  have S3k : m3 236 3 = S 3 := by rw [S3]
  have hq : q_leaf b n q N S A 15 (w_nx b n q p) = (match k_look b n q (fun k => N (20 + k)) (S 3) (w_nx b n q p) with
    | .error e => .error e
    | .ok k => .ok ((3, 0, k) :: A, w_nx b n q (w_nx b n q p))) := rfl
  rw [hq]
  have s3 := s_Mo_looksAt (X := X) (tx := tx) (D := d) (m := m3) (j := j2) (w := w) X3 L3 (by omega) (fr := 20) (many := S 3) (g := fun k => N (20 + k)) (by omega) (fun k hk => ⟨by rw [x5], by have := hb.1 k; have := hb.2.2.1 k; have := hb.2.2.2 k; first | exact hb.1 k hk | exact hb.2.2.1 k hk | (rw [Nat.zero_add]; exact hb.2.2.2 k hk)⟩)
  cases q1 : k_look b n q (fun k => N (20 + k)) (S 3) (w_nx b n q p) with
  | error e =>
    rw [q1] at s3
    obtain ⟨m4, j4, e4, f4⟩ := s3
    refine y_O_e rfl (m2 := m4) (j2 := j4) ?_ (z_SE_t F3 (z_SE_x f4))
    rw [q_Mo_operand_21]
    simp only [z00, zl0, zl4, zl1, zl2, if_true, if_false]
    simp (disch := omega) only [x10, x11, x13, hm3, q_Mo_operand_109, S3k, e4, ↓bc_234, ↓br_234_44, ↓bc_252, ↓bx_252, bl_252, ↓br_234_6, ↓bc_236, ↓bx_236, bl_236, ↓b_t0, ↓b_t1, ↓b_t2, ↓b_t3, ↓b_t4, ↓b_t5, ↓b_t6, Nat.zero_add, Nat.le_refl, b_rs, b_rn, b_r2, b_ss, b_sn, b_bt, b_bf, b_b0, b_b1, b_bw, b_shl, b_or, b_iv, b_jv, b_sI, b_sJ, ↓z_hl, z_b0, z_b1, z_b2, b_and1c, b_and1z, if_true, if_false, nI_add, pk_mul, b_cl, b_lt, b_le, b_eq, b_eq0, b_le0, b_0lt, b_0le, b_lt0]
    rw [if_neg (by omega), if_pos hd8]
  | ok k =>
    rw [q1] at s3
    obtain ⟨hk, e4⟩ := s3
    have hk1 := k_am_lo q1
    generalize hm4 : b_r m3 234 (b_s (m3 234) 18 k) = m4 at e4
    have v4 : ∀ c, c ≠ 234 → m4 c = m3 c := fun c hc => by rw [← hm4, b_rn hc]
    have u4 : ∀ k, k ≠ 18 → m4 234 k = m3 234 k := fun k hk => by rw [← hm4, b_rs, b_sn hk]
    have K4 : z_K m4 σ A := by rw [← hm4]; exact z_K_w K3 (by decide) (by decide) (by decide)
    have L4 : l_M m4 j2 b n q (w_nx b n q p) := by rw [← hm4]; exact l_M_18 L3 (by decide) (by decide) (by decide) (by decide) (by decide) (by decide)
    have k18 : m4 234 18 = k := by rw [← hm4, b_rs, b_ss]
    have s5 := s_Mo_code (X := X) (tx := tx) (D := d) (m := m4) (j := j2) (w := w) (by omega) (L := A.length) (a := 3) (b := 0) (c := k) K4.1 (by omega)
    have Z5 : y_Z (w_code m4 A.length 3 0 k) j2 b n q N S σ ((3, 0, k) :: A) (ones + 1) true (w_nx b n q p) := y_Z_leaf (y_X_fr X3 (v4 235 (by decide)) rfl) L4 x3 ((v4 236 (by decide)).trans S3) x5 K4 ((u4 46 (by decide)).trans ((u3 46 (by decide)).trans x7)) (by rw [u4 49 (by decide), ← hm3, b_rs, b_ss]) (by omega) (by omega) ho
    have F5 : z_Sf m (w_code m4 A.length 3 0 k) j j2 := z_Sf_c (by rw [← hm4]; exact z_Sf_w F3 (by omega))
    obtain ⟨m6, j6, e6, o6, g6⟩ := s_Mo_nextT (X := X) (tx := tx) (D := d) (w := w) Z5.1 Z5.2.1 (w_kd_in (by omega) (by omega)) (by omega)
    refine y_O_o rfl (m2 := m6) (j2 := j6) ?_ (y_Z_o Z5 o6) (z_Sf_t F5 (z_Sf_o o6))
    rw [q_Mo_operand_21]
    simp only [z00, zl0, zl4, zl1, zl2, if_true, if_false]
    simp (disch := omega) only [x10, x11, x13, hm3, q_Mo_operand_109, S3k, e4, k18, s5, e6, Nat.one_ne_zero, ↓bc_234, ↓br_234_44, ↓bc_252, ↓bx_252, bl_252, ↓br_234_6, ↓bc_236, ↓bx_236, bl_236, ↓b_t0, ↓b_t1, ↓b_t2, ↓b_t3, ↓b_t4, ↓b_t5, ↓b_t6, Nat.zero_add, Nat.le_refl, b_rs, b_rn, b_r2, b_ss, b_sn, b_bt, b_bf, b_b0, b_b1, b_bw, b_shl, b_or, b_iv, b_jv, b_sI, b_sJ, ↓z_hl, z_b0, z_b1, z_b2, b_and1c, b_and1z, if_true, if_false, nI_add, pk_mul, b_cl, b_lt, b_le, b_eq, b_eq0, b_le0, b_0lt, b_0le, b_lt0]
    rw [if_neg (by omega), if_pos hd8]
end SO
