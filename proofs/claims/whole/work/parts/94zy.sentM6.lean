/-! SENTENCES: the reference behind an operand; its call -/
section SB
variable {X : Nat × (Nat → Int32)} {tx : List Int32} {D d : Nat} {m j : Nat → Nat → Nat} {w : (Nat × Nat) × Bool} {b : Nat → Nat} {n q p : Nat} {N S : Nat → Nat} {σ : List Nat} {A : List (Nat × Nat × Nat)} {ones : Nat}
/-- what waits is said: the relation after nots and joins -/
theorem s_Mo_njs (h : y_Z m j b n q N S σ A ones true p) (hD : 2 ≤ D) {till : Nat} (ht : till = 21 ∨ till = 22) : ∃ m1 m2, a_ex X tx a_T D 304 [.ref 234] (b_h m j w) = some (b_h m1 j w, none) ∧ a_ex X tx a_T D 303 [.ref 234, .int (nI till)] (b_h m1 j w) = some (b_h m2 j w, none) ∧ z_Kf m m1 ∧ z_Kf m m2 ∧ z_K m2 (q_joins till (q_nots σ A).1 (q_nots σ A).2).1 (q_joins till (q_nots σ A).1 (q_nots σ A).2).2 := by
  obtain ⟨hX, hM, hp, hS, hN, hK, h46, h49, hc1, hc2, hc3⟩ := id h
  obtain ⟨m1, e1, k1, f1⟩ := s_Mo_nots (X := X) (tx := tx) (D := D) (m := m) (j := j) (w := w) hK hD
  obtain ⟨m2, e2, k2, f2⟩ := s_Mo_joins (X := X) (tx := tx) (D := D) (m := m1) (j := j) (w := w) k1 ht hD
  exact ⟨m1, m2, e1, e2, f1, z_Kf_t f1 f2, k2⟩
theorem l_M_kf {m2 : Nat → Nat → Nat} (h : l_M m j b n q p) (f : z_Kf m m2) : l_M m2 j b n q p := by
  obtain ⟨a1, a2, a3, a4, a5, a6, a7, a8⟩ := h
  have g : ∀ k, k < 45 → m2 234 k = m 234 k := fun k hk => f.2 k (by omega) (by omega) (by omega)
  refine ⟨?_, ?_, ?_, ?_, ?_, ?_, ?_, a8⟩
  · rw [g 3 (by decide)]; exact a1
  · rw [g 5 (by decide)]; exact a2
  · rw [g 4 (by decide)]; exact a3
  · rw [g 11 (by decide)]; exact a4
  · rw [g 12 (by decide)]; exact a5
  · rw [g 14 (by decide)]; exact a6
  · rw [g 14 (by decide)]; exact a7
/-- which word joins -/
theorem s_Mo_be18 {f till : Nat} {m1 m2 : Nat → Nat → Nat} (h : y_Z m j b n q N S σ A ones true p) (hky : w_ky b n q p = if till = 21 then 10 else 9) (ht : till = 21 ∨ till = 22) (f1 : z_Kf m m1) (e2 : a_ex X tx a_T d 303 [.ref 234, .int (nI till)] (b_h m1 j w) = some (b_h m2 j w, none)) (f2 : z_Kf m m2) (k2 : z_K m2 (q_joins till (q_nots σ A).1 (q_nots σ A).2).1 (q_joins till (q_nots σ A).1 (q_nots σ A).2).2) (hd : 3 ≤ d) : y_O m j w b n q N S ones (.ok (till :: (q_joins till (q_nots σ A).1 (q_nots σ A).2).1, (q_joins till (q_nots σ A).1 (q_nots σ A).2).2, false, w_nx b n q p)) (a_rn X tx (a_ex X tx a_T d) (a_go X tx (a_ex X tx a_T d) k_Mo_behind_0 f) k_Mo_behind_18 0 [.ref 234] [.int (nI till), .ref 234] (b_h m1 j w)) := by
  obtain ⟨hX, hM, hp, hS, hN, hK, h46, h49, hc1, hc2, hc3⟩ := id h
  have hb1 : b_b true = 1 := rfl
  rw [hb1] at hc1 hc2
  have i1 := q_nots_i σ A hK.2.2.2.2.2.1
  have i2 := q_joins_i (till := till) (q_nots σ A).1 (q_nots σ A).2 i1.1
  generalize q_joins till (q_nots σ A).1 (q_nots σ A).2 = r at k2 i2 ⊢
  have hX2 : y_X m2 j b n q := y_X_fr hX (f2.1 235 (by decide) (by decide)) rfl
  have hM2 : l_M m2 j b n q p := l_M_kf hM f2
  have dA := s_Mo_isWord (X := X) (tx := tx) (D := d) (m := m2) (j := j) (w := w) hX2 hM2 (by omega) (k := 10) (by decide) (w_ww (by decide) (by decide +kernel : w_cf 7 (w_wl 10) = 6385252))
  have hkk : w_kd b n q p = 1 := by
    rcases ht with rfl | rfl
    · rw [if_pos rfl] at hky; exact ((w_ky_iff (by decide)).mp hky).1
    · rw [if_neg (by decide)] at hky; exact ((w_ky_iff (by decide)).mp hky).1
  have g47 := k2.2.1
  have hn0 : q_no (till :: r.1) = q_no r.1 + 1 := if_neg (by omega)
  have hdp : q_deep (till :: r.1) = q_deep r.1 := if_neg (by omega)
  have kp := z_K_push (t := till) k2 (by omega) (by omega) (by omega)
  generalize hm3 : b_r (b_r m2 252 (b_s (m2 252) r.1.length till)) 234 (b_s (b_s (m2 234) 47 (r.1.length + 1)) 49 0) = m3
  have v3 : ∀ c, c ≠ 234 → c ≠ 252 → m3 c = m2 c := fun c h1 h2 => by rw [← hm3, b_rn h1, b_rn h2]
  have u3 : m3 234 = b_s (b_s (m2 234) 47 (r.1.length + 1)) 49 0 := by rw [← hm3, b_rs]
  have K3 : z_K m3 (till :: r.1) r.2 := by
    obtain ⟨a1, a2, a3, a4, a5, a6, a7, a8⟩ := kp
    unfold w_push at a1 a2 a3 a4 a5
    refine ⟨?_, ?_, ?_, ?_, ?_, a6, a7, a8⟩
    · rw [u3, b_sn (by decide), b_sn (by decide)]; exact k2.1
    · rw [u3, b_sn (by decide), b_ss, List.length_cons]
    · rw [u3, b_sn (by decide), b_sn (by decide), hdp]; exact k2.2.2.1
    · rw [← hm3, b_rn (by decide), b_rs]
      rw [b_rn (by decide), b_rs] at a4
      exact a4
    · rw [v3 238 (by decide) (by decide)]; exact k2.2.2.2.2.1
  have L3 : l_M m3 j b n q p := by
    have l1 := l_M_18 (v := r.1.length + 1) (k := 47) (l_M_c (m2 := b_r m2 252 (b_s (m2 252) r.1.length till)) hM2 (b_rn (by decide)) rfl) (by decide) (by decide) (by decide) (by decide) (by decide) (by decide)
    have l2 := l_M_18 (v := 0) (k := 49) l1 (by decide) (by decide) (by decide) (by decide) (by decide) (by decide)
    rw [b_r2, b_rs, b_rn (c := 252) (by decide), hm3] at l2
    exact l2
  have F3 : z_Sf m m3 j j := by
    have := z_Sf_k (j := j) f2
    exact ⟨fun c h1 h2 h3 => (v3 c h1 h3).trans (this.1 c h1 h2 h3), fun _ _ => rfl, fun k h1 h2 h3 h4 => by rw [u3, b_sn (by omega), b_sn (by omega)]; exact this.2.2 k h1 h2 h3 h4⟩
  obtain ⟨m4, j4, e4, o4, g4⟩ := s_Mo_nextT (X := X) (tx := tx) (D := d) (m := m3) (j := j) (w := w) (y_X_fr hX2 (v3 235 (by decide) (by decide)) rfl) L3 (w_kd_in (by omega) (by omega)) (by omega)
  have Z3 : y_Z m3 j b n q N S (till :: r.1) r.2 ones false p := ⟨y_X_fr hX2 (v3 235 (by decide) (by decide)) rfl, L3, hp, by rw [v3 236 (by decide) (by decide), f2.1 236 (by decide) (by decide)]; exact hS, hN, K3, by rw [u3, b_sn (by decide), b_sn (by decide), f2.2 46 (by decide) (by decide) (by decide)]; exact h46, by rw [u3, b_ss]; rfl, by show r.2.length + q_no (till :: r.1) + 0 ≤ 2 * ones; omega, by show (till :: r.1).length + 0 ≤ ones; rw [List.length_cons]; omega, hc3⟩
  refine y_O_o rfl (m2 := m4) (j2 := j4) ?_ (y_Z_o Z3 o4) (z_Sf_t F3 (z_Sf_o o4))
  rw [q_Mo_behind_18]
  rcases ht with rfl | rfl
  · rw [if_pos rfl] at hky
    rw [decide_eq_true hky] at dA
    simp (disch := omega) only [e2, dA, g47, hm3, e4, Nat.one_ne_zero, ↓bc_234, ↓br_234_44, ↓bc_252, ↓bx_252, bl_252, ↓b_t0, ↓b_t1, ↓b_t2, ↓b_t3, ↓b_t4, ↓b_t5, ↓b_t6, Nat.zero_add, Nat.le_refl, b_rs, b_rn, b_r2, b_ss, b_sn, b_bt, b_bf, b_b0, b_b1, b_bw, b_shl, b_or, b_iv, b_jv, b_sI, b_sJ, ↓z_hl, z_b0, z_b1, z_b2, b_and1c, b_and1z, if_true, if_false, nI_add, pk_mul, b_cl, b_lt, b_le, b_eq, b_eq0, b_le0, b_0lt, b_0le, b_lt0]
  · rw [if_neg (by decide)] at hky
    rw [decide_eq_false (by omega)] at dA
    simp (disch := omega) only [e2, dA, g47, hm3, e4, Nat.one_ne_zero, ↓bc_234, ↓br_234_44, ↓bc_252, ↓bx_252, bl_252, ↓b_t0, ↓b_t1, ↓b_t2, ↓b_t3, ↓b_t4, ↓b_t5, ↓b_t6, Nat.zero_add, Nat.le_refl, b_rs, b_rn, b_r2, b_ss, b_sn, b_bt, b_bf, b_b0, b_b1, b_bw, b_shl, b_or, b_iv, b_jv, b_sI, b_sJ, ↓z_hl, z_b0, z_b1, z_b2, b_and1c, b_and1z, if_true, if_false, nI_add, pk_mul, b_cl, b_lt, b_le, b_eq, b_eq0, b_le0, b_0lt, b_0le, b_lt0]
theorem s_Mo_behind (h : y_Z m j b n q N S σ A ones true p) (hD : 5 ≤ D) : y_O m j w b n q N S ones (q_be b n q σ A p) (a_ex X tx a_T D 307 [.ref 234] (b_h m j w)) := by
  obtain ⟨d, rfl⟩ : ∃ d, D = d + 1 := ⟨D - 1, by omega⟩
  obtain ⟨hX, hM, hp, hS, hN, hK, h46, h49, hc1, hc2, hc3⟩ := id h
  have hb1 : b_b true = 1 := rfl
  rw [hb1] at hc1 hc2
  have i1 := q_nots_i σ A hK.2.2.2.2.2.1
  have dW := fun {m1 : Nat → Nat → Nat} (f : z_Kf m m1) k W (hk : k < 19) (hW : w_cf 7 (w_wl k) = W) => s_Mo_isWord (X := X) (tx := tx) (D := d) (m := m1) (j := j) (w := w) (y_X_fr hX (f.1 235 (by decide) (by decide)) rfl) (l_M_kf hM f) (by omega) hk (w_ww hk hW)
  unfold q_be
  by_cases c10 : w_ky b n q p = 10
  · rw [if_pos c10]
    obtain ⟨m1, m2, e1, e2, f1, f2, k2⟩ := s_Mo_njs (X := X) (tx := tx) (D := d) (w := w) h (by omega) (till := 21) (Or.inl rfl)
    have dA := dW f1 10 6385252 (by decide) (by decide +kernel)
    rw [decide_eq_true c10] at dA
    have := s_Mo_be18 (X := X) (tx := tx) (d := d) (w := w) (f := a_f1) (till := 21) h (by rw [if_pos rfl]; exact c10) (Or.inl rfl) f1 e2 f2 k2 (by omega)
    rw [e_Mo_behind, q_Mo_behind_0]
    simp (disch := omega) only [e1, dA, Nat.one_ne_zero, ↓bc_234, ↓br_234_44, ↓bc_252, ↓bx_252, bl_252, ↓b_t0, ↓b_t1, ↓b_t2, ↓b_t3, ↓b_t4, ↓b_t5, ↓b_t6, Nat.zero_add, Nat.le_refl, b_rs, b_rn, b_r2, b_ss, b_sn, b_bt, b_bf, b_b0, b_b1, b_bw, b_shl, b_or, b_iv, b_jv, b_sI, b_sJ, ↓z_hl, z_b0, z_b1, z_b2, b_and1c, b_and1z, if_true, if_false, nI_add, pk_mul, b_cl, b_lt, b_le, b_eq, b_eq0, b_le0, b_0lt, b_0le, b_lt0]
    exact this
  rw [if_neg c10]
  by_cases c9 : w_ky b n q p = 9
  · rw [if_pos c9]
    obtain ⟨m1, m2, e1, e2, f1, f2, k2⟩ := s_Mo_njs (X := X) (tx := tx) (D := d) (w := w) h (by omega) (till := 22) (Or.inr rfl)
    have dA := dW f1 10 6385252 (by decide) (by decide +kernel)
    rw [decide_eq_false c10] at dA
    have dO := dW f1 9 28530 (by decide) (by decide +kernel)
    rw [decide_eq_true c9] at dO
    have := s_Mo_be18 (X := X) (tx := tx) (d := d) (w := w) (f := a_f1) (till := 22) h (by rw [if_neg (by decide)]; exact c9) (Or.inr rfl) f1 e2 f2 k2 (by omega)
    rw [e_Mo_behind, q_Mo_behind_0]
    simp (disch := omega) only [e1, dA, dO, Nat.one_ne_zero, ↓bc_234, ↓br_234_44, ↓bc_252, ↓bx_252, bl_252, ↓b_t0, ↓b_t1, ↓b_t2, ↓b_t3, ↓b_t4, ↓b_t5, ↓b_t6, Nat.zero_add, Nat.le_refl, b_rs, b_rn, b_r2, b_ss, b_sn, b_bt, b_bf, b_b0, b_b1, b_bw, b_shl, b_or, b_iv, b_jv, b_sI, b_sJ, ↓z_hl, z_b0, z_b1, z_b2, b_and1c, b_and1z, if_true, if_false, nI_add, pk_mul, b_cl, b_lt, b_le, b_eq, b_eq0, b_le0, b_0lt, b_0le, b_lt0]
    exact this
  rw [if_neg c9]
  obtain ⟨m1, m2, e1, e2, f1, f2, k2⟩ := s_Mo_njs (X := X) (tx := tx) (D := d) (w := w) h (by omega) (till := 22) (Or.inr rfl)
  have dA := dW f1 10 6385252 (by decide) (by decide +kernel)
  rw [decide_eq_false c10] at dA
  have dO := dW f1 9 28530 (by decide) (by decide +kernel)
  rw [decide_eq_false c9] at dO
  have hX2 : y_X m2 j b n q := y_X_fr hX (f2.1 235 (by decide) (by decide)) rfl
  have hM2 : l_M m2 j b n q p := l_M_kf hM f2
  have d41 := s_Mo_isSign (X := X) (tx := tx) (D := d) (m := m2) (j := j) (w := w) hX2 hM2 (by omega) (c := 41) (by decide) (by decide)
  have sb := s_Mo_bad (X := X) (tx := tx) (D := d) (m := m2) (j := j) (w := w) hM2 (by omega) (k := 1)
  have i2 := q_joins_i (till := 22) (q_nots σ A).1 (q_nots σ A).2 i1.1
  have F2 : z_Sf m m2 j j := z_Sf_k f2
  by_cases c41 : w_kd b n q p = 41
  · rw [if_pos c41]
    rw [decide_eq_true c41] at d41
    generalize q_joins 22 (q_nots σ A).1 (q_nots σ A).2 = r at k2 i2 ⊢
    obtain ⟨r1, r2⟩ := r
    cases r1 with
    | nil =>
      have g47 : m2 234 47 = 0 := k2.2.1
      refine y_O_e rfl ?_ (z_SE_t F2 (z_SE_x x_M_bad))
      rw [e_Mo_behind, q_Mo_behind_0]
      simp (disch := omega) only [e1, dA, dO, e2, d41, g47, sb, Nat.one_ne_zero, ↓bc_234, ↓br_234_44, ↓bc_252, ↓bx_252, bl_252, ↓b_t0, ↓b_t1, ↓b_t2, ↓b_t3, ↓b_t4, ↓b_t5, ↓b_t6, Nat.zero_add, Nat.le_refl, b_rs, b_rn, b_r2, b_ss, b_sn, b_bt, b_bf, b_b0, b_b1, b_bw, b_shl, b_or, b_iv, b_jv, b_sI, b_sJ, ↓z_hl, z_b0, z_b1, z_b2, b_and1c, b_and1z, if_true, if_false, nI_add, pk_mul, b_cl, b_lt, b_le, b_eq, b_eq0, b_le0, b_0lt, b_0le, b_lt0]
    | cons t σ3 =>
      obtain ⟨k21, k22, k23, k24, k25, k26, k27, k28⟩ := k2
      have g47 : m2 234 47 = σ3.length + 1 := k22
      have k28 : σ3.length + 1 ≤ 44 := k28
      have ht23 : t = 20 ∨ t = 23 := by
        have a1 : 20 ≤ t ∧ t ≤ 23 := k26.1
        have a2 : t ≠ 21 := i2.2.2.2.2.1
        have a3 : t ≠ 22 := i2.2.2.2.2.2 rfl
        omega
      have g48 : m2 234 48 = q_deep σ3 + 1 := k23.trans (if_pos ht23)
      have hno : q_no σ3 ≤ q_no (t :: σ3) := by
        rcases ht23 with rfl | rfl
        · rw [show q_no (20 :: σ3) = q_no σ3 + 1 from if_neg (by decide)]
          omega
        · rw [show q_no (23 :: σ3) = q_no σ3 from if_pos rfl]
          exact Nat.le_refl _
      have hd1 := q_deep_1 σ3
      generalize hm3 : b_r m2 234 (b_s (b_s (m2 234) 47 σ3.length) 48 (q_deep σ3)) = m3
      have v3 : ∀ c, c ≠ 234 → m3 c = m2 c := fun c h1 => by rw [← hm3, b_rn h1]
      have u3 : m3 234 = b_s (b_s (m2 234) 47 σ3.length) 48 (q_deep σ3) := by rw [← hm3, b_rs]
      have i22 : r2.length + q_no (t :: σ3) = (q_nots σ A).2.length + q_no (q_nots σ A).1 := i2.2.1
      have i23 : (t :: σ3).length ≤ (q_nots σ A).1.length := i2.2.2.1
      rw [List.length_cons] at i23
      have L3 : l_M m3 j b n q p := by
        have l1 := l_M_18 (v := σ3.length) (k := 47) hM2 (by decide) (by decide) (by decide) (by decide) (by decide) (by decide)
        have l2 := l_M_18 (v := q_deep σ3) (k := 48) l1 (by decide) (by decide) (by decide) (by decide) (by decide) (by decide)
        rw [b_r2, b_rs, hm3] at l2
        exact l2
      have K3 : z_K m3 σ3 r2 := ⟨by rw [u3, b_sn (by decide), b_sn (by decide)]; exact k21, by rw [u3, b_sn (by decide), b_ss], by rw [u3, b_ss], by rw [v3 252 (by decide)]; exact k24.2, by rw [v3 238 (by decide)]; exact k25, k26.2, Nat.le_trans (Nat.add_le_add_left hno _) k27, by omega⟩
      have X3 : y_X m3 j b n q := y_X_fr hX2 (v3 235 (by decide)) rfl
      have hc1b : r2.length + q_no σ3 + 1 ≤ 2 * ones := by omega
      have Z3 : y_Z m3 j b n q N S σ3 r2 ones true p := ⟨X3, L3, hp, by rw [v3 236 (by decide), f2.1 236 (by decide) (by decide)]; exact hS, hN, K3, by rw [u3, b_sn (by decide), b_sn (by decide), f2.2 46 (by decide) (by decide) (by decide)]; exact h46, by rw [u3, b_sn (by decide), b_sn (by decide), f2.2 49 (by decide) (by decide) (by decide)]; exact h49, hc1b, by show σ3.length + 1 ≤ ones; omega, hc3⟩
      have F3 : z_Sf m m3 j j := ⟨fun c h1 h2 h3 => (v3 c h1).trans (F2.1 c h1 h2 h3), fun _ _ => rfl, fun k h1 h2 h3 h4 => by rw [u3, b_sn (by omega), b_sn (by omega)]; exact F2.2.2 k h1 h2 h3 h4⟩
      obtain ⟨m4, j4, e4, o4, g4⟩ := s_Mo_nextT (X := X) (tx := tx) (D := d) (m := m3) (j := j) (w := w) X3 L3 (w_kd_in (by omega) (by omega)) (by omega)
      refine y_O_o rfl (m2 := m4) (j2 := j4) ?_ (y_Z_o Z3 o4) (z_Sf_t F3 (z_Sf_o o4))
      rw [e_Mo_behind, q_Mo_behind_0]
      simp (disch := omega) only [e1, dA, dO, e2, d41, g47, g48, b_sub, Nat.add_sub_cancel, hm3, e4, Nat.one_ne_zero, ↓bc_234, ↓br_234_44, ↓bc_252, ↓bx_252, bl_252, ↓b_t0, ↓b_t1, ↓b_t2, ↓b_t3, ↓b_t4, ↓b_t5, ↓b_t6, Nat.zero_add, Nat.le_refl, b_rs, b_rn, b_r2, b_ss, b_sn, b_bt, b_bf, b_b0, b_b1, b_bw, b_shl, b_or, b_iv, b_jv, b_sI, b_sJ, ↓z_hl, z_b0, z_b1, z_b2, b_and1c, b_and1z, if_true, if_false, nI_add, pk_mul, b_cl, b_lt, b_le, b_eq, b_eq0, b_le0, b_0lt, b_0le, b_lt0]
      rw [if_neg (by omega)]
  · rw [if_neg c41]
    rw [decide_eq_false c41] at d41
    refine y_O_e rfl ?_ (z_SE_t F2 (z_SE_x x_M_bad))
    rw [e_Mo_behind, q_Mo_behind_0]
    simp (disch := omega) only [e1, dA, dO, e2, d41, sb, ↓bc_234, ↓br_234_44, ↓bc_252, ↓bx_252, bl_252, ↓b_t0, ↓b_t1, ↓b_t2, ↓b_t3, ↓b_t4, ↓b_t5, ↓b_t6, Nat.zero_add, Nat.le_refl, b_rs, b_rn, b_r2, b_ss, b_sn, b_bt, b_bf, b_b0, b_b1, b_bw, b_shl, b_or, b_iv, b_jv, b_sI, b_sJ, ↓z_hl, z_b0, z_b1, z_b2, b_and1c, b_and1z, if_true, if_false, nI_add, pk_mul, b_cl, b_lt, b_le, b_eq, b_eq0, b_le0, b_0lt, b_0le, b_lt0]
end SB
