/-! SENTENCES: the reference takes an operand, comparisons; all operands -/
section SO
variable {X : Nat × (Nat → Int32)} {tx : List Int32} {D d : Nat} {m j : Nat → Nat → Nat} {w : (Nat × Nat) × Bool} {b : Nat → Nat} {n q p : Nat} {N S : Nat → Nat} {σ : List Nat} {A : List (Nat × Nat × Nat)} {ones : Nat}
theorem s_Mo_opLC {f lf : Nat} {u : Value} (h : y_Z m j b n q N S σ A ones false p) (hl : 4 ≤ lf ∧ lf ≤ 6) (ho : ones < 20) (hd8 : q_deep σ ≤ 8) (hin : w_pb2 b n q p < min n q) (hd : 6 ≤ d) : y_O m j w b n q N S (ones + 1) (match q_leaf b n q N S A (12 + lf) (w_nx b n q p) with | .error e => .error e | .ok y => .ok (σ, y.1, true, y.2)) (a_rn X tx (a_ex X tx a_T d) (a_go X tx (a_ex X tx a_T d) k_Mo_operand_0 f) k_Mo_operand_21 0 [.ref 234, .int (nI 0), .int (nI 0), .int (nI lf), u] [] (b_h m j w)) := by
  obtain ⟨m2, j2, x1, x2, x3, x4, x5, x6, x7, x8, x9, x10, x11, x12, x13⟩ := s_Mo_opN (X := X) (tx := tx) (d := d) (w := w) (f := 0) (i1 := 0) (i2 := 0) (i3 := 0) (u := .retAddr 0) h ho hd8 hin (by omega)
  obtain ⟨_, _, _, _, _, _, _, _, hc1, hc2, hc3⟩ := h
  have hb0 : b_b false = 0 := rfl
  rw [hb0] at hc1 hc2
  have z00 : (nI 0 = (0 : Int32)) = True := eq_true (by decide +kernel)
  have zl0 : (nI lf = (0 : Int32)) = False := by rw [b_eq0 (by omega)]; exact eq_false (by omega)
  have zl4 : (nI 4 ≤ nI lf) = True := by rw [b_le (by decide) (by omega)]; exact eq_true hl.1
  generalize hm3 : b_r m2 234 (b_s (m2 234) 49 1) = m3
  have v3 : ∀ c, c ≠ 234 → m3 c = m2 c := fun c hc => by rw [← hm3, b_rn hc]
  have u3 : ∀ k, k ≠ 49 → m3 234 k = m2 234 k := fun k hk => by rw [← hm3, b_rs, b_sn hk]
  have K3 : z_K m3 σ A := by rw [← hm3]; exact z_K_w x6 (by decide) (by decide) (by decide)
  have L3 : l_M m3 j2 b n q (w_nx b n q p) := by rw [← hm3]; exact l_M_18 x2 (by decide) (by decide) (by decide) (by decide) (by decide) (by decide)
  have X3 : y_X m3 j2 b n q := y_X_fr x1 (v3 235 (by decide)) rfl
  have F3 : z_Sf m m3 j j2 := by rw [← hm3]; exact z_Sf_w x9 (by omega)
  have S3 : m3 236 = S := (v3 236 (by decide)).trans x4
  have tk := l_M_tk L3
  have hkr := w_kr_lt (k := w_kd b n q (w_nx b n q p))
  have hkd := w_kd_lt (n := n) (q := q) (p := w_nx b n q p) (y_X_b x1)
  have sb := s_Mo_bad (X := X) (tx := tx) (D := d) (m := m3) (j := j2) (w := w) L3 (by omega) (k := 1)
  unfold q_leaf
  rw [if_neg (by omega), if_neg (by omega), Nat.add_sub_cancel_left]
  by_cases c1 : 60 ≤ w_kd b n q (w_nx b n q p) ∧ w_kd b n q (w_nx b n q p) ≤ 62
  · rw [if_pos c1]
    have t3 : m3 234 11 = 3 := tk.trans (w_kr_3.mpr (by omega))
    have g14 : m3 234 14 = w_kd b n q (w_nx b n q p) := l_M_sg L3 (by omega)
    obtain ⟨m4, j4, e4, o4, g4⟩ := s_Mo_nextT (X := X) (tx := tx) (D := d) (w := w) X3 L3 (w_kd_in (by omega) (by omega)) (by omega)
    have X4 : y_X m4 j4 b n q := y_X_fr X3 (o4.2.2.1 235 (by decide)) (o4.2.2.2.1 240 (by decide))
    have K4 := z_K_o K3 o4
    have F4 : z_Sf m m4 j j4 := z_Sf_t F3 (z_Sf_o o4)
    have tk4 := l_M_tk o4.1
    have hkr4 := w_kr_lt (k := w_kd b n q (w_nx b n q (w_nx b n q p)))
    unfold k_num
    by_cases c2 : w_kd b n q (w_nx b n q (w_nx b n q p)) = 2
    · have va := w_va_lt (y_X_b x1) c2
      rw [if_pos c2, if_pos ⟨Nat.zero_le _, by omega⟩]
      have t4 : m4 234 11 = 2 := tk4.trans (w_kr_2.mpr c2)
      have h14 : m4 234 14 = w_va b n q (w_nx b n q (w_nx b n q p)) := l_M_va o4.1 c2
      have s5 := s_Mo_code (X := X) (tx := tx) (D := d) (m := m4) (j := j4) (w := w) (by omega) (L := A.length) (a := lf) (b := w_kd b n q (w_nx b n q p)) (c := w_va b n q (w_nx b n q (w_nx b n q p))) K4.1 (by omega)
      have Z5 := y_Z_leaf (a := lf) (c := w_kd b n q (w_nx b n q p)) (v := w_va b n q (w_nx b n q (w_nx b n q p))) (ones := ones) X4 o4.1 o4.2.1 ((o4.2.2.1 236 (by decide)).trans S3) ((o4.2.2.2.1 239 (by decide)).trans x5) K4 ((o4.2.2.2.2 46 (by decide) (by decide) (by decide) (by decide) (by decide) (by decide)).trans ((u3 46 (by decide)).trans x7)) ((o4.2.2.2.2 49 (by decide) (by decide) (by decide) (by decide) (by decide) (by decide)).trans (by rw [← hm3, b_rs, b_ss])) (by omega) (by omega) ho
      obtain ⟨m6, j6, e6, o6, g6⟩ := s_Mo_nextT (X := X) (tx := tx) (D := d) (w := w) Z5.1 Z5.2.1 (w_kd_in (by omega) (by omega)) (by omega)
      refine y_O_o rfl (m2 := m6) (j2 := j6) ?_ (y_Z_o Z5 o6) (z_Sf_t (z_Sf_c F4) (z_Sf_o o6))
      rw [q_Mo_operand_21]
      simp only [z00, zl0, zl4, if_true, if_false]
      simp (disch := omega) only [x10, x11, x13, hm3, t3, g14, e4, t4, h14, s5, e6, Nat.one_ne_zero, ↓bc_234, ↓br_234_44, ↓bc_252, ↓bx_252, bl_252, ↓br_234_6, ↓bc_236, ↓bx_236, bl_236, ↓b_t0, ↓b_t1, ↓b_t2, ↓b_t3, ↓b_t4, ↓b_t5, ↓b_t6, Nat.zero_add, Nat.le_refl, b_rs, b_rn, b_r2, b_ss, b_sn, b_bt, b_bf, b_b0, b_b1, b_bw, b_shl, b_or, b_iv, b_jv, b_sI, b_sJ, ↓z_hl, z_b0, z_b1, z_b2, b_and1c, b_and1z, if_true, if_false, nI_add, pk_mul, b_cl, b_lt, b_le, b_eq, b_eq0, b_le0, b_0lt, b_0le, b_lt0]
      rw [if_neg (by omega), if_pos hd8, if_neg (by omega), if_pos c1.2]
    · rw [if_neg c2]
      have t4 : ¬ m4 234 11 = 2 := fun x => c2 (w_kr_2.mp (tk4.symm.trans x))
      have sb4 := s_Mo_bad (X := X) (tx := tx) (D := d) (m := m4) (j := j4) (w := w) o4.1 (by omega) (k := 1)
      refine y_O_e rfl ?_ (z_SE_t F4 (z_SE_x x_M_bad))
      rw [q_Mo_operand_21]
      simp only [z00, zl0, zl4, if_true, if_false]
      simp (disch := omega) only [x10, x11, x13, hm3, t3, g14, e4, sb4, ↓bc_234, ↓br_234_44, ↓bc_252, ↓bx_252, bl_252, ↓br_234_6, ↓bc_236, ↓bx_236, bl_236, ↓b_t0, ↓b_t1, ↓b_t2, ↓b_t3, ↓b_t4, ↓b_t5, ↓b_t6, Nat.zero_add, Nat.le_refl, b_rs, b_rn, b_r2, b_ss, b_sn, b_bt, b_bf, b_b0, b_b1, b_bw, b_shl, b_or, b_iv, b_jv, b_sI, b_sJ, ↓z_hl, z_b0, z_b1, z_b2, b_and1c, b_and1z, if_true, if_false, nI_add, pk_mul, b_cl, b_lt, b_le, b_eq, b_eq0, b_le0, b_0lt, b_0le, b_lt0]
      rw [if_neg (by omega), if_pos hd8, if_neg (by omega), if_pos c1.2, if_neg t4]
  · rw [if_neg c1]
    refine y_O_e rfl ?_ (z_SE_t F3 (z_SE_x x_M_bad))
    rw [q_Mo_operand_21]
    simp only [z00, zl0, zl4, if_true, if_false]
    by_cases c2 : 5 ≤ w_kd b n q (w_nx b n q p)
    · have t3 : m3 234 11 = 3 := tk.trans (w_kr_3.mpr c2)
      have g14 : m3 234 14 = w_kd b n q (w_nx b n q p) := l_M_sg L3 c2
      simp (disch := omega) only [x10, x11, x13, hm3, t3, g14, sb, ↓bc_234, ↓br_234_44, ↓bc_252, ↓bx_252, bl_252, ↓br_234_6, ↓bc_236, ↓bx_236, bl_236, ↓b_t0, ↓b_t1, ↓b_t2, ↓b_t3, ↓b_t4, ↓b_t5, ↓b_t6, Nat.zero_add, Nat.le_refl, b_rs, b_rn, b_r2, b_ss, b_sn, b_bt, b_bf, b_b0, b_b1, b_bw, b_shl, b_or, b_iv, b_jv, b_sI, b_sJ, ↓z_hl, z_b0, z_b1, z_b2, b_and1c, b_and1z, if_true, if_false, nI_add, pk_mul, b_cl, b_lt, b_le, b_eq, b_eq0, b_le0, b_0lt, b_0le, b_lt0]
      rw [if_neg (by omega), if_pos hd8]
      by_cases c3 : w_kd b n q (w_nx b n q p) < 60
      · rw [if_pos c3]
      · rw [if_neg c3, if_neg (by omega)]
    · have t3 : ¬ m3 234 11 = 3 := fun x => c2 (w_kr_3.mp (tk.symm.trans x))
      simp (disch := omega) only [x10, x11, x13, hm3, sb, ↓bc_234, ↓br_234_44, ↓bc_252, ↓bx_252, bl_252, ↓br_234_6, ↓bc_236, ↓bx_236, bl_236, ↓b_t0, ↓b_t1, ↓b_t2, ↓b_t3, ↓b_t4, ↓b_t5, ↓b_t6, Nat.zero_add, Nat.le_refl, b_rs, b_rn, b_r2, b_ss, b_sn, b_bt, b_bf, b_b0, b_b1, b_bw, b_shl, b_or, b_iv, b_jv, b_sI, b_sJ, ↓z_hl, z_b0, z_b1, z_b2, b_and1c, b_and1z, if_true, if_false, nI_add, pk_mul, b_cl, b_lt, b_le, b_eq, b_eq0, b_le0, b_0lt, b_0le, b_lt0]
      rw [if_neg (by omega), if_pos hd8, if_neg t3]
theorem s_Mo_operand (h : y_Z m j b n q N S σ A ones false p) (hi : i_S S) (hb : z_nb N S) (hD : 7 ≤ D) : y_O m j w b n q N S (ones + 1) (q_op b n q N S σ A ones p) (a_ex X tx a_T D 306 [.ref 234] (b_h m j w)) := by
  obtain ⟨d, rfl⟩ : ∃ d, D = d + 1 := ⟨D - 1, by omega⟩
  obtain ⟨hX, hM, hp, hS, hN, hK, h46, h49, hc1, hc2, hc3⟩ := id h
  have d11 := s_Mo_isWord (X := X) (tx := tx) (D := d) (m := m) (j := j) (w := w) hX hM (by omega) (k := 11) (by decide) (w_ww (by decide) (by decide +kernel : w_cf 7 (w_wl 11) = 7237492))
  have d40 := s_Mo_isSign (X := X) (tx := tx) (D := d) (m := m) (j := j) (w := w) hX hM (by omega) (c := 40) (by decide) (by decide)
  have dl := s_Mo_leafOf (X := X) (tx := tx) (D := d) (m := m) (j := j) (w := w) hX hM (by omega)
  have hky := w_ky_lt (b := b) (n := n) (q := q) (p := p)
  have hk1 : ∀ k, k < 19 → w_ky b n q p = k → w_kd b n q p = 1 := fun k h1 h2 => ((w_ky_iff h1).mp h2).1
  have h48 := hK.2.2.1
  have hd1 := q_deep_1 σ
  unfold q_op
  by_cases c1 : w_ky b n q p ≠ 11 ∧ w_kd b n q p ≠ 40 ∧ (w_ky b n q p < 12 ∨ 18 < w_ky b n q p)
  · rw [if_pos c1]
    rw [decide_eq_false c1.1] at d11
    rw [decide_eq_false c1.2.1] at d40
    rw [if_neg (by omega)] at dl
    have sb := s_Mo_bad (X := X) (tx := tx) (D := d) (m := m) (j := j) (w := w) hM (by omega) (k := 1)
    refine y_O_e rfl ?_ (z_SE_x x_M_bad)
    rw [e_Mo_operand, q_Mo_operand_0]
    simp (disch := omega) only [d11, d40, dl, b_0leM, sb, ↓bc_234, ↓br_234_44, ↓bc_252, ↓bx_252, bl_252, ↓br_234_6, ↓bc_236, ↓bx_236, bl_236, ↓b_t0, ↓b_t1, ↓b_t2, ↓b_t3, ↓b_t4, ↓b_t5, ↓b_t6, Nat.zero_add, Nat.le_refl, b_rs, b_rn, b_r2, b_ss, b_sn, b_bt, b_bf, b_b0, b_b1, b_bw, b_shl, b_or, b_iv, b_jv, b_sI, b_sJ, ↓z_hl, z_b0, z_b1, z_b2, b_and1c, b_and1z, if_true, if_false, nI_add, pk_mul, b_cl, b_lt, b_le, b_eq, b_eq0, b_le0, b_0lt, b_0le, b_lt0]
  rw [if_neg c1]
  have bad4 : ∀ x1 x2 x3 : Nat, (ones = 20 ∨ 8 < q_deep σ) → a_rn X tx (a_ex X tx a_T d) (a_go X tx (a_ex X tx a_T d) k_Mo_operand_0 a_f1) k_Mo_operand_21 0 [.ref 234, .int (nI x1), .int (nI x2), .int (nI x3), .retAddr 0] [] (b_h m j w) = some (b_h (b_r m 234 (b_s (b_s (m 234) 15 4) 16 (w_pl b n q p))) j w, some (.int (nI 0))) := fun x1 x2 x3 hx => by
    have sb := s_Mo_bad (X := X) (tx := tx) (D := d) (m := m) (j := j) (w := w) hM (by omega) (k := 4)
    rw [q_Mo_operand_21]
    by_cases g1 : ones = 20
    · rw [bc_234, b_iv, h46, g1, if_pos rfl, bc_234, sb, z_b1, if_pos (of_eq_true b_and1z)]
    · rw [bc_234, b_iv, h46, if_neg (by rw [b_eq (by omega) (by decide)]; exact g1), bc_234, b_iv, h48, if_neg (by rw [b_le (by omega) (by decide)]; omega), bc_234, sb, z_b1, if_pos (of_eq_true b_and1z)]
  have pre : ∃ x3, (12 ≤ w_ky b n q p ∧ w_ky b n q p ≤ 18 → x3 = w_ky b n q p - 12) ∧ a_ex X tx a_T (d + 1) 306 [.ref 234] (b_h m j w) = a_rn X tx (a_ex X tx a_T d) (a_go X tx (a_ex X tx a_T d) k_Mo_operand_0 a_f1) k_Mo_operand_21 0 [.ref 234, .int (nI (b_b (decide (w_ky b n q p = 11)))), .int (nI (b_b (decide (w_kd b n q p = 40)))), .int (nI x3), .retAddr 0] [] (b_h m j w) := by
    refine ⟨if 12 ≤ w_ky b n q p ∧ w_ky b n q p ≤ 18 then w_ky b n q p - 12 else 4294967295, fun x => if_pos x, ?_⟩
    by_cases g1 : w_ky b n q p = 11
    · have g2 := hk1 11 (by decide) g1
      rw [decide_eq_true g1] at d11 ⊢
      rw [decide_eq_false (by omega)] at d40 ⊢
      rw [e_Mo_operand, q_Mo_operand_0]
      simp (disch := omega) only [d11, d40, dl, Nat.one_ne_zero, ↓bc_234, ↓br_234_44, ↓bc_252, ↓bx_252, bl_252, ↓br_234_6, ↓bc_236, ↓bx_236, bl_236, ↓b_t0, ↓b_t1, ↓b_t2, ↓b_t3, ↓b_t4, ↓b_t5, ↓b_t6, Nat.zero_add, Nat.le_refl, b_rs, b_rn, b_r2, b_ss, b_sn, b_bt, b_bf, b_b0, b_b1, b_bw, b_shl, b_or, b_iv, b_jv, b_sI, b_sJ, ↓z_hl, z_b0, z_b1, z_b2, b_and1c, b_and1z, if_true, if_false, nI_add, pk_mul, b_cl, b_lt, b_le, b_eq, b_eq0, b_le0, b_0lt, b_0le, b_lt0]
    · rw [decide_eq_false g1] at d11 ⊢
      by_cases g2 : w_kd b n q p = 40
      · rw [decide_eq_true g2] at d40 ⊢
        rw [e_Mo_operand, q_Mo_operand_0]
        simp (disch := omega) only [d11, d40, dl, Nat.one_ne_zero, ↓bc_234, ↓br_234_44, ↓bc_252, ↓bx_252, bl_252, ↓br_234_6, ↓bc_236, ↓bx_236, bl_236, ↓b_t0, ↓b_t1, ↓b_t2, ↓b_t3, ↓b_t4, ↓b_t5, ↓b_t6, Nat.zero_add, Nat.le_refl, b_rs, b_rn, b_r2, b_ss, b_sn, b_bt, b_bf, b_b0, b_b1, b_bw, b_shl, b_or, b_iv, b_jv, b_sI, b_sJ, ↓z_hl, z_b0, z_b1, z_b2, b_and1c, b_and1z, if_true, if_false, nI_add, pk_mul, b_cl, b_lt, b_le, b_eq, b_eq0, b_le0, b_0lt, b_0le, b_lt0]
      · rw [decide_eq_false g2] at d40 ⊢
        rw [if_pos (by omega)] at dl ⊢
        rw [e_Mo_operand, q_Mo_operand_0]
        simp (disch := omega) only [d11, d40, dl, ↓bc_234, ↓br_234_44, ↓bc_252, ↓bx_252, bl_252, ↓br_234_6, ↓bc_236, ↓bx_236, bl_236, ↓b_t0, ↓b_t1, ↓b_t2, ↓b_t3, ↓b_t4, ↓b_t5, ↓b_t6, Nat.zero_add, Nat.le_refl, b_rs, b_rn, b_r2, b_ss, b_sn, b_bt, b_bf, b_b0, b_b1, b_bw, b_shl, b_or, b_iv, b_jv, b_sI, b_sJ, ↓z_hl, z_b0, z_b1, z_b2, b_and1c, b_and1z, if_true, if_false, nI_add, pk_mul, b_cl, b_lt, b_le, b_eq, b_eq0, b_le0, b_0lt, b_0le, b_lt0]
  obtain ⟨x3, hx3, pre⟩ := pre
  rw [pre]
  by_cases c4 : ones = 20 ∨ 8 < q_deep σ
  · rw [if_pos c4, bad4 _ _ _ c4]
    exact y_O_e rfl rfl (z_SE_x x_M_bad)
  rw [if_neg c4]
  by_cases c40 : w_kd b n q p = 40
  · rw [if_pos c40]
    have g1 : w_ky b n q p ≠ 11 := fun x => by have := hk1 11 (by decide) x; omega
    rw [decide_eq_false g1, decide_eq_true c40]
    exact s_Mo_opP (t := 23) (i1 := 0) (i2 := 1) h (by omega) (by omega) (w_kd_in (by omega) (by omega)) (by omega) (Or.inr ⟨rfl, rfl⟩) (fun _ => rfl) (by decide)
  rw [if_neg c40]
  by_cases c11 : w_ky b n q p = 11
  · rw [if_pos c11]
    have g2 := hk1 11 (by decide) c11
    rw [decide_eq_true c11, decide_eq_false c40]
    exact s_Mo_opP (t := 20) (i1 := 1) (i2 := 0) h (by omega) (by omega) (w_kd_in (by omega) (by omega)) (by omega) (Or.inl ⟨rfl, rfl⟩) (fun x => absurd x (by decide)) (by decide)
  rw [if_neg c11, decide_eq_false c11, decide_eq_false c40]
  have hr : 12 ≤ w_ky b n q p ∧ w_ky b n q p ≤ 18 := by omega
  have hx := hx3 hr
  have hkk := hk1 (w_ky b n q p) (by omega) rfl
  have hin : w_pb2 b n q p < min n q := w_kd_in (by omega) (by omega)
  have hf : nI (b_b false) = nI 0 := rfl
  rw [hf]
  by_cases g12 : w_ky b n q p = 12
  · have x0 : x3 = 0 := by omega
    subst x0
    have := s_Mo_opL12 (X := X) (tx := tx) (d := d) (w := w) (f := a_f1) (u := .retAddr 0) h (by omega) (by omega) hin (by omega)
    rw [g12]
    exact this
  by_cases g13 : w_ky b n q p = 13
  · have x0 : x3 = 1 := by omega
    subst x0
    have := s_Mo_opL13 (X := X) (tx := tx) (d := d) (w := w) (f := a_f1) (u := .retAddr 0) h hi hb (by omega) (by omega) hin (by omega)
    rw [g13]
    exact this
  by_cases g14 : w_ky b n q p = 14
  · have x0 : x3 = 2 := by omega
    subst x0
    have := s_Mo_opL14 (X := X) (tx := tx) (d := d) (w := w) (f := a_f1) (u := .retAddr 0) h hi hb (by omega) (by omega) hin (by omega)
    rw [g14]
    exact this
  by_cases g15 : w_ky b n q p = 15
  · have x0 : x3 = 3 := by omega
    subst x0
    have := s_Mo_opL15 (X := X) (tx := tx) (d := d) (w := w) (f := a_f1) (u := .retAddr 0) h hi hb (by omega) (by omega) hin (by omega)
    rw [g15]
    exact this
  have := s_Mo_opLC (X := X) (tx := tx) (d := d) (w := w) (f := a_f1) (u := .retAddr 0) (lf := x3) h (by omega) (by omega) (by omega) hin (by omega)
  rw [show 12 + x3 = w_ky b n q p by omega] at this
  exact this
end SO
