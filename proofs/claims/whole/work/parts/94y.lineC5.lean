/-! TEXTS: the class reads an ending -/
section LC
variable {X : Nat × (Nat → Int32)} {tx : List Int32} {D : Nat} {m j : Nat → Nat → Nat} {w : (Nat × Nat) × Bool} {b : Nat → Nat} {n q p : Nat} {s N : Nat → Nat} {dk : Nat}
theorem s_Fa_readEnding (h : l_S m j b n q s N dk p) (h1 : w_kd b n q p = 1) (hD : 8 ≤ D) : x_L m j w b n q (k_le b n q s N dk p) (a_ex X tx a_T D 37 [.ref 15, .ref 1] (b_h m j w)) := by
  obtain ⟨d, rfl⟩ : ∃ d, D = d + 1 := ⟨D - 1, by omega⟩
  obtain ⟨x1, x2, x3, x4, x5, x6, x7, x8, x9, x10, x11, x12, x13, x14, x15, x16, x17, x18⟩ := id h
  have hQ0 := fun y hy => i_Q_le (g := N) (y := y) x18 x4 h1 hy
  have hK := i_S_K x18.1
  have hM := i_S_M x18.1
  have hT := i_S_T x18.1
  have hE := i_S_E x18.1
  have hcl := i_S_cl x18.1
  have hcn := x10.1
  subst x2
  unfold k_le at hQ0 ⊢
  by_cases c : s 3 = 10
  · rw [if_pos c]
    have sb := s_Ta_fail (X := X) (tx := tx) (D := d) (m := m) (j := j) (w := w) x3 (by omega) (k := 4)
    have y := x_C_fail (m := m) (j := j) (n := n) (q := q) (p := p) (k := 4)
    refine x_L_e rfl ?_ ⟨fun c c1 _ => y.1 c c1, fun _ _ _ => rfl, y.2.2.1, y.2.2.2⟩
    rw [e_Fa_readEnding, q_Fa_readEnding_0]
    simp (disch := omega) only [x8, sb, ↓bc_15, ↓bc_1, ↓br_15_13, ↓bc_22, ↓bx_22, bl_22, ↓br_15_14, ↓bc_23, ↓bx_23, bl_23, ↓br_15_15, ↓bc_24, ↓bx_24, bl_24, ↓b_t0, ↓b_t1, ↓b_t2, ↓b_t3, ↓b_t4, ↓b_t5, ↓b_t6, Nat.zero_add, Nat.le_refl, b_rs, b_rn, b_r2, b_ss, b_sn, b_bt, b_bf, b_b0, b_b1, b_bw, b_shl, b_or, b_iv, b_jv, b_sI, b_sJ, ↓z_hl, z_b0, z_b1, z_b2, b_and1c, b_and1z, if_true, if_false, nI_add, pk_mul, b_cl, b_lt, b_le, b_eq, b_eq0, b_le0, b_0lt, b_0le, b_lt0]
    rw [if_neg (by omega)]
  rw [if_neg c] at hQ0 ⊢
  obtain ⟨m2, j2, e1, e2⟩ := s_Ta_stepT (X := X) (tx := tx) (D := d) (m := m) (j := j) (w := w) x1 x3 (w_kd_in (by omega) (by omega)) (by omega)
  have n2 : m2 2 = m 2 := e2.2.1.1 2 (by decide)
  have n15 : m2 15 = m 15 := e2.2.1.1 15 (by decide)
  have y0 : m2 15 3 = s 3 := by rw [n15]; exact x8
  have s3 := s_Fa_takeNewName (X := X) (tx := tx) (D := d) (m := m2) (j := j2) (w := w) (N := N) (s := s) (l_X_fr x1 n2 (e2.2.1.2.1 3 (by decide))) e2.1 (by rw [n15, e2.2.1.1 17 (by decide), e2.2.1.1 18 (by decide), e2.2.1.2.1 16 (by decide)]; exact x10) (by rw [n15]; omega) (by omega) (so := 3) (nu := s 3) (by omega) (by omega)
  rw [n2] at s3
  cases h3 : k_fresh (m 2) n q N s (w_nx (m 2) n q p) with
  | error e =>
    rw [h3] at s3
    obtain ⟨m3, e4, e5⟩ := s3
    refine x_L_e rfl (m2 := m3) (j2 := j2) ?_ ⟨fun c c1 _ => (e5.1 c c1).trans (e2.2.1.1 c c1), fun c c1 _ => e2.2.1.2.1 c c1, e5.2.2.1, e5.2.2.2⟩
    rw [e_Fa_readEnding, q_Fa_readEnding_0]
    simp (disch := omega) only [x8, y0, e1, e4, ↓bc_15, ↓bc_1, ↓br_15_13, ↓bc_22, ↓bx_22, bl_22, ↓br_15_14, ↓bc_23, ↓bx_23, bl_23, ↓br_15_15, ↓bc_24, ↓bx_24, bl_24, ↓b_t0, ↓b_t1, ↓b_t2, ↓b_t3, ↓b_t4, ↓b_t5, ↓b_t6, Nat.zero_add, Nat.le_refl, b_rs, b_rn, b_r2, b_ss, b_sn, b_bt, b_bf, b_b0, b_b1, b_bw, b_shl, b_or, b_iv, b_jv, b_sI, b_sJ, ↓z_hl, z_b0, z_b1, z_b2, b_and1c, b_and1z, if_true, if_false, nI_add, pk_mul, b_cl, b_lt, b_le, b_eq, b_eq0, b_le0, b_0lt, b_0le, b_lt0]
    rw [if_pos (by omega)]
  | ok p2 =>
    rw [h3] at s3 hQ0
    obtain ⟨m3, j3, e4, e5, hl⟩ := s3
    have hf := k_fresh_ok h3
    obtain ⟨z1, z2, z3, z4, z5, z6, z7, z8⟩ := w_nn_fr e2 e5
    generalize hW : w_conv (w_le (m 2) n q (w_nx (m 2) n q p)) = W at hQ0 hf
    have hQ0 : ∀ y, k_le2 (m 2) n q s (b_s N (20 + s 3) W) dk p2 = .ok y → i_Q y.1 y.2.2.1 ∧ p ≤ y.2.2.2 ∧ y.2.2.2 ≤ n := hQ0
    show x_L m j w (m 2) n q (k_le2 (m 2) n q s (b_s N (20 + s 3) W) dk p2) _
    unfold k_le2 at hQ0 ⊢
    have y3 : m3 15 3 = s 3 := by rw [z1, b_sn (by decide)]; exact x8
    have hn := r_N_new x10 (by omega) hK hM hT (q := 3) (by decide) (fun x => absurd x (by decide)) (fun x => absurd x (by decide)) (fun x => absurd x (by decide)) hl (by rw [hW]; exact hf.2.1)
    rw [hW] at hn
    have hn : r_N (b_s (m 17) (m 15 6) 3) (b_s (m 18) (m 15 6) (s 3)) (m 15 6 + 1) (b_s (j 16) (m 15 6) (w_le (m 2) n q (w_nx (m 2) n q p))) (b_s N (20 + s 3) W) (b_s s 3 (s 3 + 1)) := hn
    have v2 : b_r m3 15 (b_s (m3 15) 3 (s 3 + 1)) 2 = m 2 := (b_rn (by decide)).trans (z5 2 (by decide) (by decide) (by decide) (by decide))
    have v15 : b_r m3 15 (b_s (m3 15) 3 (s 3 + 1)) 15 6 = m 15 6 + 1 := by rw [b_rs, b_sn (by decide), z1, b_ss]
    have v17 : b_r m3 15 (b_s (m3 15) 3 (s 3 + 1)) 17 = b_s (m 17) (m 15 6) 3 := (b_rn (by decide)).trans z2
    have v18 : b_r m3 15 (b_s (m3 15) 3 (s 3 + 1)) 18 = b_s (m 18) (m 15 6) (s 3) := (b_rn (by decide)).trans z3
    have s4 := s_Fa_takeName15 (X := X) (tx := tx) (D := d) (m := b_r m3 15 (b_s (m3 15) 3 (s 3 + 1))) (j := j3) (w := w) (N := b_s N (20 + s 3) W) (s := b_s s 3 (s 3 + 1)) (l_X_fr x1 v2 (z6 3 (by decide) (by decide))) (l_C_c e5.1 (b_rn (by decide)) (b_rn (by decide)) rfl) (by rw [v15, v17, v18, z4]; exact hn) (by rw [v15]; omega) (by omega) (so := 1) (by decide)
    rw [v2] at s4
    have s4 : match k_look (m 2) n q (fun k => b_s N (20 + s 3) W (6 + k)) (s 1) p2 with
      | .ok k => ∃ m2 j2, a_ex X tx a_T d 44 [.ref 15, .ref 1, .int (nI 1)] (b_h (b_r m3 15 (b_s (m3 15) 3 (s 3 + 1))) j3 w) = some (b_h m2 j2 w, some (.int (nI k))) ∧ o_C (b_r m3 15 (b_s (m3 15) 3 (s 3 + 1))) m2 j3 j2 n q (w_nx (m 2) n q p2) ∧ k < s 1 ∧ k < 30
      | .error e => ∃ m2, a_ex X tx a_T d 44 [.ref 15, .ref 1, .int (nI 1)] (b_h (b_r m3 15 (b_s (m3 15) 3 (s 3 + 1))) j3 w) = some (b_h m2 j3 w, some (.int (nI 4294967295))) ∧ x_C (b_r m3 15 (b_s (m3 15) 3 (s 3 + 1))) m2 j3 j3 e := s4
    cases h4 : k_look (m 2) n q (fun k => b_s N (20 + s 3) W (6 + k)) (s 1) p2 with
    | error e =>
      rw [h4] at s4
      obtain ⟨m4, f1, f2⟩ := s4
      refine x_L_e rfl (m2 := b_r m4 22 (b_s (m4 22) (s 3) 4294967295)) (j2 := j3) ?_ ⟨fun c c1 c2 => (b_rn (by omega)).trans ((f2.1 c c1).trans ((b_rn (by omega)).trans (z5 c c1 (by omega) (by omega) (by omega)))), fun c c1 c2 => z6 c c1 c2, by rw [b_rn (by decide)]; exact f2.2.2.1, by rw [b_rn (by decide)]; exact f2.2.2.2⟩
      rw [e_Fa_readEnding, q_Fa_readEnding_0]
      simp (disch := omega) only [x8, y0, y3, e1, e4, f1, Nat.one_ne_zero, ↓bc_15, ↓bc_1, ↓br_15_13, ↓bc_22, ↓bx_22, bl_22, ↓br_15_14, ↓bc_23, ↓bx_23, bl_23, ↓br_15_15, ↓bc_24, ↓bx_24, bl_24, ↓b_t0, ↓b_t1, ↓b_t2, ↓b_t3, ↓b_t4, ↓b_t5, ↓b_t6, Nat.zero_add, Nat.le_refl, b_rs, b_rn, b_r2, b_ss, b_sn, b_bt, b_bf, b_b0, b_b1, b_bw, b_shl, b_or, b_iv, b_jv, b_sI, b_sJ, ↓z_hl, z_b0, z_b1, z_b2, b_and1c, b_and1z, if_true, if_false, nI_add, pk_mul, b_cl, b_lt, b_le, b_eq, b_eq0, b_le0, b_0lt, b_0le, b_lt0]
      rw [if_pos (by omega)]
    | ok k =>
      rw [h4] at s4 hQ0
      obtain ⟨m4, j4, f1, f2, f3, f4⟩ := s4
      have h15 : m4 15 = b_s (m3 15) 3 (s 3 + 1) := (f2.2.1.1 15 (by decide)).trans b_rs
      have hm : ∀ c, c ≠ 1 → c ≠ 15 → c ≠ 17 → c ≠ 18 → m4 c = m c := fun c c1 c2 c3 c4 => (f2.2.1.1 c c1).trans ((b_rn c2).trans (z5 c c1 c2 c3 c4))
      have h17 : m4 17 = m3 17 := (f2.2.1.1 17 (by decide)).trans (b_rn (by decide))
      have h18 : m4 18 = m3 18 := (f2.2.1.1 18 (by decide)).trans (b_rn (by decide))
      have hj : ∀ c, c ≠ 1 → j4 c = j3 c := f2.2.1.2.1
      have w2 : m4 2 = m 2 := hm 2 (by decide) (by decide) (by decide) (by decide)
      have u2 : b_r m4 22 (b_s (m4 22) (s 3) k) 2 = m 2 := (b_rn (by decide)).trans w2
      have s8 := s_Ta_takeNumber (X := X) (tx := tx) (D := d) (m := b_r m4 22 (b_s (m4 22) (s 3) k)) (j := j4) (w := w) (l_X_fr x1 u2 ((hj 3 (by decide)).trans (z6 3 (by decide) (by decide)))) (l_C_c f2.1 (b_rn (by decide)) (b_rn (by decide)) rfl) (by omega) (lo := 0) (hi := 99) (by omega) (by omega)
      rw [u2] at s8
      show x_L m j w (m 2) n q (match k_num (m 2) n q 0 99 (w_nx (m 2) n q p2) with | .error e => .error e | .ok r => k_le3 (m 2) n q (b_s (b_s s (67 + s 3) k) (77 + s 3) r.1) (b_s N (20 + s 3) W) dk r.2) _
      have hQ0 : ∀ y, @Eq (Except (Nat × Nat) ((Nat → Nat) × (Nat → Nat) × Nat × Nat)) (match k_num (m 2) n q 0 99 (w_nx (m 2) n q p2) with | .error e => .error e | .ok r => k_le3 (m 2) n q (b_s (b_s s (67 + s 3) k) (77 + s 3) r.1) (b_s N (20 + s 3) W) dk r.2) (.ok y) → i_Q y.1 y.2.2.1 ∧ p ≤ y.2.2.2 ∧ y.2.2.2 ≤ n := hQ0
      cases h8 : k_num (m 2) n q 0 99 (w_nx (m 2) n q p2) with
      | error e =>
        rw [h8] at s8
        obtain ⟨m5, j5, t1, t2⟩ := s8
        refine x_L_e rfl (m2 := b_r m5 23 (b_s (m5 23) (s 3) 4294967295)) (j2 := j5) ?_ ⟨fun c c1 c2 => (b_rn (by omega)).trans ((t2.1 c c1).trans ((b_rn (by omega)).trans (hm c c1 (by omega) (by omega) (by omega)))), fun c c1 c2 => (t2.2.1 c c1).trans ((hj c c1).trans (z6 c c1 c2)), by rw [b_rn (by decide)]; exact t2.2.2.1, by rw [b_rn (by decide)]; exact t2.2.2.2⟩
        rw [e_Fa_readEnding, q_Fa_readEnding_0]
        simp (disch := omega) only [x8, y0, y3, e1, e4, f1, t1, Nat.one_ne_zero, ↓bc_15, ↓bc_1, ↓br_15_13, ↓bc_22, ↓bx_22, bl_22, ↓br_15_14, ↓bc_23, ↓bx_23, bl_23, ↓br_15_15, ↓bc_24, ↓bx_24, bl_24, ↓b_t0, ↓b_t1, ↓b_t2, ↓b_t3, ↓b_t4, ↓b_t5, ↓b_t6, Nat.zero_add, Nat.le_refl, b_rs, b_rn, b_r2, b_ss, b_sn, b_bt, b_bf, b_b0, b_b1, b_bw, b_shl, b_or, b_iv, b_jv, b_sI, b_sJ, ↓z_hl, z_b0, z_b1, z_b2, b_and1c, b_and1z, if_true, if_false, nI_add, pk_mul, b_cl, b_lt, b_le, b_eq, b_eq0, b_le0, b_0lt, b_0le, b_lt0]
        rw [if_pos (by omega), if_neg (by omega)]
      | ok r =>
        rw [h8] at s8 hQ0
        obtain ⟨m5, j5, t1, t2, t3, t4, t5⟩ := s8
        show x_L m j w (m 2) n q (k_le3 (m 2) n q (b_s (b_s s (67 + s 3) k) (77 + s 3) r.1) (b_s N (20 + s 3) W) dk r.2) _
        have hQ0 : ∀ y, k_le3 (m 2) n q (b_s (b_s s (67 + s 3) k) (77 + s 3) r.1) (b_s N (20 + s 3) W) dk r.2 = (.ok y) → i_Q y.1 y.2.2.1 ∧ p ≤ y.2.2.2 ∧ y.2.2.2 ≤ n := hQ0
        unfold k_le3 at hQ0 ⊢
        have c15 : m5 15 = b_s (m3 15) 3 (s 3 + 1) := (t2.2.1.1 15 (by decide)).trans ((b_rn (by decide)).trans h15)
        have cm : ∀ c, c ≠ 1 → c ≠ 15 → c ≠ 17 → c ≠ 18 → c ≠ 22 → m5 c = m c := fun c c1 c2 c3 c4 c5 => (t2.2.1.1 c c1).trans ((b_rn c5).trans (hm c c1 c2 c3 c4))
        have c17 : m5 17 = m3 17 := (t2.2.1.1 17 (by decide)).trans ((b_rn (by decide)).trans h17)
        have c18 : m5 18 = m3 18 := (t2.2.1.1 18 (by decide)).trans ((b_rn (by decide)).trans h18)
        have c22 : m5 22 = b_s (m 22) (s 3) k := by rw [t2.2.1.1 22 (by decide), b_rs, hm 22 (by decide) (by decide) (by decide) (by decide)]
        have cj : ∀ c, c ≠ 1 → j5 c = j3 c := fun c c1 => (t2.2.1.2.1 c c1).trans (hj c c1)
        have d2 : b_r m5 23 (b_s (m5 23) (s 3) r.1) 2 = m 2 := (b_rn (by decide)).trans (cm 2 (by decide) (by decide) (by decide) (by decide) (by decide))
        have u15 : b_r m5 23 (b_s (m5 23) (s 3) r.1) 15 6 = m 15 6 + 1 := by rw [b_rn (by decide), c15, b_sn (by decide), z1, b_ss]
        have u17 : b_r m5 23 (b_s (m5 23) (s 3) r.1) 17 = b_s (m 17) (m 15 6) 3 := (b_rn (by decide)).trans (c17.trans z2)
        have u18 : b_r m5 23 (b_s (m5 23) (s 3) r.1) 18 = b_s (m 18) (m 15 6) (s 3) := (b_rn (by decide)).trans (c18.trans z3)
        have u24 : b_r m5 23 (b_s (m5 23) (s 3) r.1) 24 = m 24 := (b_rn (by decide)).trans (cm 24 (by decide) (by decide) (by decide) (by decide) (by decide))
        generalize hS : b_s (b_s s (67 + s 3) k) (77 + s 3) r.1 = S at hQ0 ⊢
        have hSn : ∀ i, i ≠ 67 + s 3 → i ≠ 77 + s 3 → S i = s i := fun i a1 a2 => by rw [← hS, b_sn a2, b_sn a1]
        have hS1 : S (67 + s 3) = k := by rw [← hS, b_sn (by omega), b_ss]
        have hS2 : S (77 + s 3) = r.1 := by rw [← hS, b_ss]
        have hS3 : S 3 = s 3 := hSn 3 (by omega) (by omega)
        have hS0 : S 0 = s 0 := hSn 0 (by omega) (by omega)
        rw [hS3, hS0] at hQ0 ⊢
        have ha : ∀ i, i < 6 → b_s S 3 (s 3 + 1) (87 + 6 * s 3 + i) = s (87 + 6 * s 3 + i) := fun i hi => by rw [b_sn (by omega), hSn _ (by omega) (by omega)]
        have s5 := s_Fa_readAmounts24 (X := X) (tx := tx) (D := d) (m := b_r m5 23 (b_s (m5 23) (s 3) r.1)) (j := j5) (w := w) (N := b_s N (20 + s 3) W) (s := b_s S 3 (s 3 + 1)) (l_X_fr x1 d2 ((cj 3 (by decide)).trans (z6 3 (by decide) (by decide)))) (l_C_c t2.1 (b_rn (by decide)) (b_rn (by decide)) rfl) (by
          rw [u15, u17, u18, cj 16 (by decide), z4]
          refine r_N_c hn (fun i hi => ?_)
          by_cases y : i = 3
          · rw [y, b_ss, b_ss]
          · rw [b_sn y, b_sn y, hSn _ (by omega) (by omega)]) (by rw [u15]; omega) t2.2.2 (by rw [b_sn (by decide), hS0]; exact hK) (by omega) (fr := s 3 * 6) (to := 87 + 6 * s 3) (by omega) (fun i hi => by rw [u24, ha i hi]; exact x16 (s 3) (by omega) i hi) (fun i hi => by rw [ha i hi]; have := hcl (s 3) (by omega) i hi; omega)
        rw [d2] at s5
        have s00 : b_s S 3 (s 3 + 1) 0 = s 0 := by rw [b_sn (by decide), hS0]
        rw [s00] at s5
        have s6 := k_am_eq (b := m 2) (n := n) (q := q) (g := b_s N (20 + s 3) W) (kinds := s 0) (to := 87 + 6 * s 3) hK 7 S (b_s S 3 (s 3 + 1)) r.2 (fun i hi => (b_sn (by omega)).symm)
        cases h5 : k_am (m 2) n q (b_s N (20 + s 3) W) (s 0) (87 + 6 * s 3) 7 S r.2 with
        | error e =>
          rw [h5] at s6
          have s6 : k_am (m 2) n q (b_s N (20 + s 3) W) (s 0) (87 + 6 * s 3) 7 (b_s S 3 (s 3 + 1)) r.2 = .error e := s6
          rw [s6] at s5
          obtain ⟨m6, j6, g1, g2, g3, g4, g5⟩ := s5
          refine x_L_e rfl (m2 := m6) (j2 := j6) ?_ ⟨fun c c1 c2 => (g2 c c1 (by omega)).trans ((b_rn (by omega)).trans (cm c c1 (by omega) (by omega) (by omega) (by omega))), fun c c1 c2 => (g3 c c1).trans ((cj c c1).trans (z6 c c1 c2)), g4, g5⟩
          rw [e_Fa_readEnding, q_Fa_readEnding_0]
          simp (disch := omega) only [x8, y0, y3, e1, e4, f1, t1, g1, Nat.one_ne_zero, ↓bc_15, ↓bc_1, ↓br_15_13, ↓bc_22, ↓bx_22, bl_22, ↓br_15_14, ↓bc_23, ↓bx_23, bl_23, ↓br_15_15, ↓bc_24, ↓bx_24, bl_24, ↓b_t0, ↓b_t1, ↓b_t2, ↓b_t3, ↓b_t4, ↓b_t5, ↓b_t6, Nat.zero_add, Nat.le_refl, b_rs, b_rn, b_r2, b_ss, b_sn, b_bt, b_bf, b_b0, b_b1, b_bw, b_shl, b_or, b_iv, b_jv, b_sI, b_sJ, ↓z_hl, z_b0, z_b1, z_b2, b_and1c, b_and1z, if_true, if_false, nI_add, pk_mul, b_cl, b_lt, b_le, b_eq, b_eq0, b_le0, b_0lt, b_0le, b_lt0]
          rw [if_pos (by omega), if_neg (by omega), if_neg (by omega)]
        | ok y =>
          rw [h5] at s6 hQ0
          obtain ⟨z, s6, s7⟩ := s6
          rw [s6] at s5
          obtain ⟨m6, j6, g1, g2, g3, g4, g5, g6, g7, g8, g9⟩ := s5
          have hQ := hQ0 _ rfl
          have hy := k_am_fr 7 _ _ _ h5
          have hz : ∀ i, i ≠ 3 → i ≠ 67 + s 3 → i ≠ 77 + s 3 → i < 87 + 6 * s 3 ∨ 87 + 6 * s 3 + 6 ≤ i → b_s y.1 3 (s 3 + 1) i = s i := fun i a1 a2 a3 a4 => by rw [b_sn a1, hy i (by omega), hSn i a2 a3]
          have hh : ∀ c, c ≠ 1 → c ≠ 15 → c ≠ 17 → c ≠ 18 → c ≠ 22 → c ≠ 23 → c ≠ 24 → m6 c = m c := fun c c1 c2 c3 c4 c5 c6 c7 => (g4 c c1 c7).trans ((b_rn c6).trans (cm c c1 c2 c3 c4 c5))
          have i15 : m6 15 = b_s (m3 15) 3 (s 3 + 1) := (g4 15 (by decide) (by decide)).trans ((b_rn (by decide)).trans c15)
          have i17 : m6 17 = m3 17 := (g4 17 (by decide) (by decide)).trans ((b_rn (by decide)).trans c17)
          have i18 : m6 18 = m3 18 := (g4 18 (by decide) (by decide)).trans ((b_rn (by decide)).trans c18)
          have i22 : m6 22 = b_s (m 22) (s 3) k := (g4 22 (by decide) (by decide)).trans ((b_rn (by decide)).trans c22)
          have i23 : m6 23 = b_s (m 23) (s 3) r.1 := by rw [g4 23 (by decide) (by decide), b_rs, cm 23 (by decide) (by decide) (by decide) (by decide) (by decide)]
          have ij : ∀ c, c ≠ 1 → j6 c = j3 c := fun c c1 => (g5 c c1).trans (cj c c1)
          refine x_L_o rfl (m2 := m6) (j2 := j6) ?_ ⟨l_X_fr x1 (hh 2 (by decide) (by decide) (by decide) (by decide) (by decide) (by decide) (by decide)) ((ij 3 (by decide)).trans (z6 3 (by decide) (by decide))), hh 2 (by decide) (by decide) (by decide) (by decide) (by decide) (by decide) (by decide), g2, hQ.2.2, ?_, ?_, ?_, ?_, ?_, ?_, ?_, ?_, ?_, ?_, ?_, ?_, ?_, hQ.1⟩ ⟨fun c c1 c2 => hh c c1 (by omega) (by omega) (by omega) (by omega) (by omega) (by omega), fun c c1 c2 => (ij c c1).trans (z6 c c1 c2), by rw [i15, b_sn (by decide), z1, b_sn (by decide)], by rw [g8, b_rn (by decide), t2.2.1.2.2.1, b_rn (by decide), f2.2.1.2.2.1, b_rn (by decide)]; exact z7, by rw [g9, b_rn (by decide), t2.2.1.2.2.2, b_rn (by decide), f2.2.1.2.2.2, b_rn (by decide)]; exact z8⟩
          · rw [e_Fa_readEnding, q_Fa_readEnding_0]
            simp (disch := omega) only [x8, y0, y3, e1, e4, f1, t1, g1, Nat.one_ne_zero, ↓bc_15, ↓bc_1, ↓br_15_13, ↓bc_22, ↓bx_22, bl_22, ↓br_15_14, ↓bc_23, ↓bx_23, bl_23, ↓br_15_15, ↓bc_24, ↓bx_24, bl_24, ↓b_t0, ↓b_t1, ↓b_t2, ↓b_t3, ↓b_t4, ↓b_t5, ↓b_t6, Nat.zero_add, Nat.le_refl, b_rs, b_rn, b_r2, b_ss, b_sn, b_bt, b_bf, b_b0, b_b1, b_bw, b_shl, b_or, b_iv, b_jv, b_sI, b_sJ, ↓z_hl, z_b0, z_b1, z_b2, b_and1c, b_and1z, if_true, if_false, nI_add, pk_mul, b_cl, b_lt, b_le, b_eq, b_eq0, b_le0, b_0lt, b_0le, b_lt0]
            rw [if_pos (by omega), if_neg (by omega), if_neg (by omega)]
          · rw [i15, b_sn (by decide), z1, b_sn (by decide)]; exact x5.trans (hz 0 (by decide) (by omega) (by omega) (by omega)).symm
          · rw [i15, b_sn (by decide), z1, b_sn (by decide)]; exact x6.trans (hz 1 (by decide) (by omega) (by omega) (by omega)).symm
          · rw [i15, b_sn (by decide), z1, b_sn (by decide)]; exact x7.trans (hz 2 (by decide) (by omega) (by omega) (by omega)).symm
          · show m6 15 3 = b_s y.1 3 (s 3 + 1) 3
            rw [i15, b_ss, b_ss]
          · rw [i15, b_sn (by decide), z1, b_sn (by decide)]
            show _ = if dk = 0 then 4294967295 else b_s y.1 3 (s 3 + 1) 4
            rw [hz 4 (by decide) (by omega) (by omega) (by omega)]; exact x9
          · rw [i15, i17, i18, ij 16 (by decide), b_sn (by decide), z1, b_ss, z2, z3, z4]
            refine r_N_c hn (fun i hi => ?_)
            show b_s y.1 3 (s 3 + 1) i = b_s s 3 (s 3 + 1) i
            by_cases e : i = 3
            · rw [e, b_ss, b_ss]
            · rw [b_sn e, b_sn e, hy i (by omega), hSn i (by omega) (by omega)]
          · intro i hi
            rw [hh 19 (by decide) (by decide) (by decide) (by decide) (by decide) (by decide) (by decide)]
            have hi : i < b_s y.1 3 (s 3 + 1) 1 := hi
            rw [hz 1 (by decide) (by omega) (by omega) (by omega)] at hi
            exact (x11 i hi).trans (hz (5 + i) (by omega) (by omega) (by omega) (by omega)).symm
          · intro i hi
            rw [hh 20 (by decide) (by decide) (by decide) (by decide) (by decide) (by decide) (by decide)]
            have hi : i < b_s y.1 3 (s 3 + 1) 2 := hi
            rw [hz 2 (by decide) (by omega) (by omega) (by omega)] at hi
            exact (x12 i hi).trans (hz (11 + i) (by omega) (by omega) (by omega) (by omega)).symm
          · intro t ht i hi
            rw [hh 21 (by decide) (by decide) (by decide) (by decide) (by decide) (by decide) (by decide)]
            exact (x13 t ht i hi).trans (hz (19 + 6 * t + i) (by omega) (by omega) (by omega) (by omega)).symm
          · intro i hi
            have hi : i < b_s y.1 3 (s 3 + 1) 3 := hi
            rw [b_ss] at hi
            show m6 22 i = b_s y.1 3 (s 3 + 1) (67 + i)
            rw [i22]
            by_cases e : i = s 3
            · rw [e, b_ss, b_sn (by omega), hy _ (by omega), hS1]
            · rw [b_sn e, hz (67 + i) (by omega) (by omega) (by omega) (by omega)]
              exact x14 i (by omega)
          · intro i hi
            have hi : i < b_s y.1 3 (s 3 + 1) 3 := hi
            rw [b_ss] at hi
            show m6 23 i = b_s y.1 3 (s 3 + 1) (77 + i)
            rw [i23]
            by_cases e : i = s 3
            · rw [e, b_ss, b_sn (by omega), hy _ (by omega), hS2]
            · rw [b_sn e, hz (77 + i) (by omega) (by omega) (by omega) (by omega)]
              exact x15 i (by omega)
          · intro t ht i hi
            show m6 24 (t * 6 + i) = b_s y.1 3 (s 3 + 1) (87 + 6 * t + i)
            by_cases e : t = s 3
            · rw [e, b_sn (by omega), g6 i hi]
              exact s7 i hi
            · rw [g7 (t * 6 + i) (by omega), u24, hz (87 + 6 * t + i) (by omega) (by omega) (by omega) (by omega)]
              exact x16 t ht i hi
          · intro i hi
            rw [hh 25 (by decide) (by decide) (by decide) (by decide) (by decide) (by decide) (by decide)]
            exact (x17 i hi).trans (hz (147 + i) (by omega) (by omega) (by omega) (by omega)).symm
end LC
