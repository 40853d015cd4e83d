/-! TEXTS: the class reads what proves false -/
section LC
variable {X : Nat × (Nat → Int32)} {tx : List Int32} {D : Nat} {m j : Nat → Nat → Nat} {w : (Nat × Nat) × Bool} {b : Nat → Nat} {n q p : Nat} {s N : Nat → Nat} {dk : Nat}
theorem s_Fa_isEnding15 {c : Nat} (h1 : m 15 3 = c) (h2 : c ≤ 10) (hD : 1 ≤ D) {k : Nat} (hn : k < 4294967296) : a_ex X tx a_T D 24 [.ref 15, .int (nI k)] (b_h m j w) = some (b_h m j w, some (.int (nI (b_b (decide (k < c)))))) := by
  obtain ⟨d, rfl⟩ : ∃ d, D = d + 1 := ⟨D - 1, by omega⟩
  rw [e_Fa_isEnding, q_Fa_isEnding_0]
  by_cases h : k < 2147483648
  · simp (disch := omega) only [h1, ↓bc_15, ↓b_t0, ↓b_t1, ↓b_t2, ↓b_t3, ↓b_t4, ↓b_t5, ↓b_t6, Nat.zero_add, Nat.le_refl, b_rs, b_rn, b_r2, b_ss, b_sn, b_bt, b_bf, b_b0, b_b1, b_bw, b_shl, b_or, b_iv, b_jv, b_sI, b_sJ, ↓z_hl, z_b0, z_b1, z_b2, b_and1c, b_and1z, if_true, if_false, nI_add, pk_mul, b_cl, b_lt, b_le, b_eq, b_eq0, b_le0, b_0lt, b_0le, b_lt0]
    by_cases c : k < c
    · rw [if_neg (by omega), if_neg (by omega), decide_eq_true c]; rfl
    · rw [if_pos (by omega), decide_eq_false c]; rfl
  · rw [if_pos (b_neg (by omega) hn), decide_eq_false (by omega)]; rfl
theorem s_Fa_readFalse (h : l_S m j b n q s N dk p) (h1 : w_kd b n q p = 1) (hD : 6 ≤ D) : x_L m j w b n q (k_lf b n q s N dk p) (a_ex X tx a_T D 39 [.ref 15, .ref 1] (b_h m j w)) := by
  obtain ⟨d, rfl⟩ : ∃ d, D = d + 1 := ⟨D - 1, by omega⟩
  obtain ⟨x1, x2, x3, x4, x5, x6, x7, x8, x9, x10, x11, x12, x13, x14, x15, x16, x17, x18⟩ := id h
  have hQ0 := fun y hy => i_Q_lf (g := N) (y := y) x18 x4 h1 hy
  have hK := i_S_K x18.1
  have hM := i_S_M x18.1
  have hT := i_S_T x18.1
  have hE := i_S_E x18.1
  have hcn := x10.1
  have hfd := i_S_fd x18.1
  subst x2
  unfold k_lf at hQ0 ⊢
  obtain ⟨m2, j2, e1, e2⟩ := s_Ta_stepT (X := X) (tx := tx) (D := d) (m := m) (j := j) (w := w) x1 x3 (w_kd_in (by omega) (by omega)) (by omega)
  have n2 : m2 2 = m 2 := e2.2.1.1 2 (by decide)
  have n15 : m2 15 = m 15 := e2.2.1.1 15 (by decide)
  have n25 : m2 25 = m 25 := e2.2.1.1 25 (by decide)
  have y3 : m2 15 3 = s 3 := by rw [n15]; exact x8
  have hX2 := l_X_fr x1 n2 (e2.2.1.2.1 3 (by decide))
  have s3 := s_Fa_lookUp15 (X := X) (tx := tx) (D := d) (m := m2) (j := j2) (w := w) (N := N) (s := s) hX2 e2.1 (by rw [n15, e2.2.1.1 17 (by decide), e2.2.1.1 18 (by decide), e2.2.1.2.1 16 (by decide)]; exact x10) (by rw [n15]; omega) (by omega) (so := 3) (by decide)
  rw [n2] at s3
  have s3 : match k_look (m 2) n q (fun k => N (20 + k)) (s 3) (w_nx (m 2) n q p) with
    | .ok k => a_ex X tx a_T d 43 [.ref 15, .ref 1, .int (nI 3)] (b_h m2 j2 w) = some (b_h m2 j2 w, some (.int (nI k))) ∧ k < s 3 ∧ k < 30
    | .error e => ∃ m3, a_ex X tx a_T d 43 [.ref 15, .ref 1, .int (nI 3)] (b_h m2 j2 w) = some (b_h m3 j2 w, some (.int (nI 4294967295))) ∧ x_C m2 m3 j2 j2 e := s3
  cases h3 : k_look (m 2) n q (fun k => N (20 + k)) (s 3) (w_nx (m 2) n q p) with
  | error e =>
    rw [h3] at s3
    obtain ⟨m3, e4, e5⟩ := s3
    have i3 : m3 15 3 = s 3 := by rw [e5.1 15 (by decide)]; exact y3
    have s4 := s_Fa_isEnding15 (X := X) (tx := tx) (D := d) (m := m3) (j := j2) (w := w) i3 hE (by omega) (k := 4294967295) (by decide)
    rw [decide_eq_false (by omega)] at s4
    refine x_L_e rfl (m2 := m3) (j2 := j2) ?_ ⟨fun c c1 _ => (e5.1 c c1).trans (e2.2.1.1 c c1), fun c c1 _ => e2.2.1.2.1 c c1, e5.2.2.1, e5.2.2.2⟩
    rw [e_Fa_readFalse, q_Fa_readFalse_0]
    simp (disch := omega) only [e1, e4, s4, ↓bc_1, ↓bc_15, ↓br_15_16, ↓bc_25, ↓bx_25, bl_25, ↓b_t0, ↓b_t1, ↓b_t2, ↓b_t3, ↓b_t4, ↓b_t5, ↓b_t6, Nat.zero_add, Nat.le_refl, b_rs, b_rn, b_r2, b_ss, b_sn, b_bt, b_bf, b_b0, b_b1, b_bw, b_shl, b_or, b_iv, b_jv, b_sI, b_sJ, ↓z_hl, z_b0, z_b1, z_b2, b_and1c, b_and1z, if_true, if_false, nI_add, pk_mul, b_cl, b_lt, b_le, b_eq, b_eq0, b_le0, b_0lt, b_0le, b_lt0]
  | ok k =>
    rw [h3] at s3 hQ0
    obtain ⟨e4, e5, e6⟩ := s3
    have s4 := s_Fa_isEnding15 (X := X) (tx := tx) (D := d) (m := m2) (j := j2) (w := w) y3 hE (by omega) (k := k) (by omega)
    rw [decide_eq_true e5] at s4
    have v25 : m2 25 k = s (147 + k) := by rw [n25]; exact x17 k (by omega)
    have hk : w_kd (m 2) n q (w_nx (m 2) n q p) = 1 := k_am_lo h3
    show x_L m j w (m 2) n q (if s (147 + k) ≠ 0 then .error (3, w_pl (m 2) n q (w_nx (m 2) n q p)) else match k_num (m 2) n q 1 60 (w_nx (m 2) n q (w_nx (m 2) n q p)) with | .error e => .error e | .ok r => .ok (b_s s (147 + k) r.1, N, dk, r.2)) _
    have hQ0 : ∀ y, @Eq (Except (Nat × Nat) ((Nat → Nat) × (Nat → Nat) × Nat × Nat)) (if s (147 + k) ≠ 0 then .error (3, w_pl (m 2) n q (w_nx (m 2) n q p)) else match k_num (m 2) n q 1 60 (w_nx (m 2) n q (w_nx (m 2) n q p)) with | .error e => .error e | .ok r => .ok (b_s s (147 + k) r.1, N, dk, r.2)) (.ok y) → i_Q y.1 y.2.2.1 ∧ p ≤ y.2.2.2 ∧ y.2.2.2 ≤ n := hQ0
    have hf9 := hfd k (by omega)
    by_cases c : s (147 + k) = 0
    · rw [if_neg (fun x => x c)] at hQ0 ⊢
      rw [c] at v25
      obtain ⟨m3, j3, f1, f2⟩ := s_Ta_stepT (X := X) (tx := tx) (D := d) (m := m2) (j := j2) (w := w) hX2 e2.1 (by rw [n2]; exact w_kd_in (by omega) (by omega)) (by omega)
      have o2 : m3 2 = m 2 := (f2.2.1.1 2 (by decide)).trans n2
      rw [n2] at f2
      have s5 := s_Ta_takeNumber (X := X) (tx := tx) (D := d) (m := m3) (j := j3) (w := w) (l_X_fr x1 o2 ((f2.2.1.2.1 3 (by decide)).trans (e2.2.1.2.1 3 (by decide)))) f2.1 (by omega) (lo := 1) (hi := 60) (by omega) (by omega)
      rw [o2] at s5
      have fm : ∀ c, c ≠ 1 → m3 c = m c := fun c c1 => (f2.2.1.1 c c1).trans (e2.2.1.1 c c1)
      have fj : ∀ c, c ≠ 1 → j3 c = j c := fun c c1 => (f2.2.1.2.1 c c1).trans (e2.2.1.2.1 c c1)
      cases h5 : k_num (m 2) n q 1 60 (w_nx (m 2) n q (w_nx (m 2) n q p)) with
      | error e =>
        rw [h5] at s5
        obtain ⟨m4, j4, g1, g2⟩ := s5
        refine x_L_e rfl (m2 := b_r m4 25 (b_s (m4 25) k 4294967295)) (j2 := j4) ?_ ⟨fun c c1 c2 => (b_rn (by omega)).trans ((g2.1 c c1).trans (fm c c1)), fun c c1 c2 => (g2.2.1 c c1).trans (fj c c1), by rw [b_rn (by decide)]; exact g2.2.2.1, by rw [b_rn (by decide)]; exact g2.2.2.2⟩
        rw [e_Fa_readFalse, q_Fa_readFalse_0]
        simp (disch := omega) only [e1, e4, s4, v25, f1, g1, Nat.one_ne_zero, ↓bc_1, ↓bc_15, ↓br_15_16, ↓bc_25, ↓bx_25, bl_25, ↓b_t0, ↓b_t1, ↓b_t2, ↓b_t3, ↓b_t4, ↓b_t5, ↓b_t6, Nat.zero_add, Nat.le_refl, b_rs, b_rn, b_r2, b_ss, b_sn, b_bt, b_bf, b_b0, b_b1, b_bw, b_shl, b_or, b_iv, b_jv, b_sI, b_sJ, ↓z_hl, z_b0, z_b1, z_b2, b_and1c, b_and1z, if_true, if_false, nI_add, pk_mul, b_cl, b_lt, b_le, b_eq, b_eq0, b_le0, b_0lt, b_0le, b_lt0]
      | ok r =>
        rw [h5] at s5 hQ0
        obtain ⟨m4, j4, g1, g2, g3, g4, g5⟩ := s5
        have hQ := hQ0 _ rfl
        have hm : ∀ c, c ≠ 1 → m4 c = m c := fun c c1 => (g2.2.1.1 c c1).trans (fm c c1)
        have hj : ∀ c, c ≠ 1 → j4 c = j c := fun c c1 => (g2.2.1.2.1 c c1).trans (fj c c1)
        have hz : ∀ i, i ≠ 147 + k → b_s s (147 + k) r.1 i = s i := fun i hi => b_sn hi
        refine x_L_o rfl (m2 := b_r m4 25 (b_s (m4 25) k r.1)) (j2 := j4) ?_ ⟨l_X_fr x1 ((b_rn (by decide)).trans (hm 2 (by decide))) (hj 3 (by decide)), (b_rn (by decide)).trans (hm 2 (by decide)), l_C_c g2.1 (b_rn (by decide)) (b_rn (by decide)) rfl, hQ.2.2, ?_, ?_, ?_, ?_, ?_, ?_, ?_, ?_, ?_, ?_, ?_, ?_, ?_, hQ.1⟩ ⟨fun c c1 c2 => (b_rn (by omega)).trans (hm c c1), fun c c1 c2 => hj c c1, by rw [b_rn (by decide), hm 15 (by decide)], by rw [b_rn (by decide), g2.2.1.2.2.1, f2.2.1.2.2.1]; exact e2.2.1.2.2.1, by rw [b_rn (by decide), g2.2.1.2.2.2, f2.2.1.2.2.2]; exact e2.2.1.2.2.2⟩
        · rw [e_Fa_readFalse, q_Fa_readFalse_0]
          simp (disch := omega) only [e1, e4, s4, v25, f1, g1, Nat.one_ne_zero, ↓bc_1, ↓bc_15, ↓br_15_16, ↓bc_25, ↓bx_25, bl_25, ↓b_t0, ↓b_t1, ↓b_t2, ↓b_t3, ↓b_t4, ↓b_t5, ↓b_t6, Nat.zero_add, Nat.le_refl, b_rs, b_rn, b_r2, b_ss, b_sn, b_bt, b_bf, b_b0, b_b1, b_bw, b_shl, b_or, b_iv, b_jv, b_sI, b_sJ, ↓z_hl, z_b0, z_b1, z_b2, b_and1c, b_and1z, if_true, if_false, nI_add, pk_mul, b_cl, b_lt, b_le, b_eq, b_eq0, b_le0, b_0lt, b_0le, b_lt0]
          rw [if_neg (by omega)]
        · rw [b_rn (by decide), hm 15 (by decide)]; exact x5.trans (hz 0 (by omega)).symm
        · rw [b_rn (by decide), hm 15 (by decide)]; exact x6.trans (hz 1 (by omega)).symm
        · rw [b_rn (by decide), hm 15 (by decide)]; exact x7.trans (hz 2 (by omega)).symm
        · rw [b_rn (by decide), hm 15 (by decide)]; exact x8.trans (hz 3 (by omega)).symm
        · rw [b_rn (by decide), hm 15 (by decide)]
          show _ = if dk = 0 then 4294967295 else b_s s (147 + k) r.1 4
          rw [hz 4 (by omega)]; exact x9
        · rw [b_rn (by decide), b_rn (by decide), b_rn (by decide), hm 15 (by decide), hm 17 (by decide), hm 18 (by decide), hj 16 (by decide)]
          exact r_N_c x10 (fun i hi => hz i (by omega))
        · intro i hi
          rw [b_rn (by decide), hm 19 (by decide)]
          have hi : i < b_s s (147 + k) r.1 1 := hi
          rw [hz 1 (by omega)] at hi
          exact (x11 i hi).trans (hz (5 + i) (by omega)).symm
        · intro i hi
          rw [b_rn (by decide), hm 20 (by decide)]
          have hi : i < b_s s (147 + k) r.1 2 := hi
          rw [hz 2 (by omega)] at hi
          exact (x12 i hi).trans (hz (11 + i) (by omega)).symm
        · intro t ht i hi
          rw [b_rn (by decide), hm 21 (by decide)]
          exact (x13 t ht i hi).trans (hz (19 + 6 * t + i) (by omega)).symm
        · intro i hi
          rw [b_rn (by decide), hm 22 (by decide)]
          have hi : i < b_s s (147 + k) r.1 3 := hi
          rw [hz 3 (by omega)] at hi
          exact (x14 i hi).trans (hz (67 + i) (by omega)).symm
        · intro i hi
          rw [b_rn (by decide), hm 23 (by decide)]
          have hi : i < b_s s (147 + k) r.1 3 := hi
          rw [hz 3 (by omega)] at hi
          exact (x15 i hi).trans (hz (77 + i) (by omega)).symm
        · intro t ht i hi
          rw [b_rn (by decide), hm 24 (by decide)]
          exact (x16 t ht i hi).trans (hz (87 + 6 * t + i) (by omega)).symm
        · intro i hi
          show b_r m4 25 (b_s (m4 25) k r.1) 25 i = b_s s (147 + k) r.1 (147 + i)
          rw [b_rs]
          by_cases e : i = k
          · rw [e, b_ss, b_ss]
          · rw [b_sn e, hz (147 + i) (by omega), hm 25 (by decide)]
            exact x17 i hi
    · rw [if_pos c]
      have sb := s_Ta_fail (X := X) (tx := tx) (D := d) (m := m2) (j := j2) (w := w) e2.1 (by omega) (k := 3)
      have y := x_C_fail (m := m2) (j := j2) (n := n) (q := q) (p := w_nx (m 2) n q p) (k := 3)
      rw [n2] at sb y
      refine x_L_e rfl ?_ ⟨fun c c1 _ => (y.1 c c1).trans (e2.2.1.1 c c1), fun c c1 _ => e2.2.1.2.1 c c1, y.2.2.1, y.2.2.2⟩
      rw [e_Fa_readFalse, q_Fa_readFalse_0]
      simp (disch := omega) only [e1, e4, s4, v25, sb, Nat.one_ne_zero, ↓bc_1, ↓bc_15, ↓br_15_16, ↓bc_25, ↓bx_25, bl_25, ↓b_t0, ↓b_t1, ↓b_t2, ↓b_t3, ↓b_t4, ↓b_t5, ↓b_t6, Nat.zero_add, Nat.le_refl, b_rs, b_rn, b_r2, b_ss, b_sn, b_bt, b_bf, b_b0, b_b1, b_bw, b_shl, b_or, b_iv, b_jv, b_sI, b_sJ, ↓z_hl, z_b0, z_b1, z_b2, b_and1c, b_and1z, if_true, if_false, nI_add, pk_mul, b_cl, b_lt, b_le, b_eq, b_eq0, b_le0, b_0lt, b_0le, b_lt0]
      rw [if_neg c]
end LC
