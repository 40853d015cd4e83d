/-! TEXTS: the class reads a thing -/
/-- amounts depend on their own row only -/
theorem k_am_eq {b : Nat → Nat} {n q : Nat} {g : Nat → Nat} {kinds to : Nat} (hk6 : kinds ≤ 6) : ∀ f (s s' : Nat → Nat) p, (∀ i, i < 6 → s (to + i) = s' (to + i)) → match k_am b n q g kinds to f s p with
    | .error e => k_am b n q g kinds to f s' p = .error e
    | .ok y => ∃ z, k_am b n q g kinds to f s' p = .ok (z, y.2) ∧ ∀ i, i < 6 → z (to + i) = y.1 (to + i)
  | 0, s, s', p, hs => rfl
  | f + 1, s, s', p, hs => by
    by_cases c1 : w_kd b n q p = 59
    · rw [k_am_1 c1, k_am_1 c1]
      exact ⟨s', rfl, fun i hi => (hs i hi).symm⟩
    · cases h2 : k_look b n q g kinds p with
      | error e =>
        rw [k_am_2 c1 h2, k_am_2 c1 h2]
      | ok k =>
        have hk := k_look_lt h2
        have hsk := hs k (by omega)
        by_cases c2 : s (to + k) = 0
        · cases h3 : k_num b n q 1 9 (w_nx b n q p) with
          | error e =>
            rw [k_am_4 c1 h2 c2 h3, k_am_4 c1 h2 (hsk ▸ c2) h3]
          | ok r =>
            rw [k_am_5 c1 h2 c2 h3, k_am_5 c1 h2 (hsk ▸ c2) h3]
            refine k_am_eq hk6 f _ _ _ (fun i hi => ?_)
            by_cases c : i = k
            · rw [c, b_ss, b_ss]
            · rw [b_sn (by omega), b_sn (by omega)]
              exact hs i hi
        · rw [k_am_3 c1 h2 c2, k_am_3 c1 h2 (hsk ▸ c2)]
section LC
variable {X : Nat × (Nat → Int32)} {tx : List Int32} {D : Nat} {m j : Nat → Nat → Nat} {w : (Nat × Nat) × Bool} {b : Nat → Nat} {n q p : Nat} {s N : Nat → Nat} {dk : Nat}
theorem s_Fa_readThing (h : l_S m j b n q s N dk p) (h1 : w_kd b n q p = 1) (hD : 8 ≤ D) : x_L m j w b n q (k_lt b n q s N dk p) (a_ex X tx a_T D 36 [.ref 15, .ref 1] (b_h m j w)) := by
  obtain ⟨d, rfl⟩ : ∃ d, D = d + 1 := ⟨D - 1, by omega⟩
  obtain ⟨x1, x2, x3, x4, x5, x6, x7, x8, x9, x10, x11, x12, x13, x14, x15, x16, x17, x18⟩ := id h
  have hQ0 := fun y hy => i_Q_lt (g := N) (y := y) x18 x4 h1 hy
  have hK := i_S_K x18.1
  have hM := i_S_M x18.1
  have hT := i_S_T x18.1
  have hE := i_S_E x18.1
  have hot := i_S_ot x18.1
  have hcn := x10.1
  subst x2
  unfold k_lt at hQ0 ⊢
  by_cases c : s 2 = 8
  · rw [if_pos c]
    have sb := s_Ta_fail (X := X) (tx := tx) (D := d) (m := m) (j := j) (w := w) x3 (by omega) (k := 4)
    have y := x_C_fail (m := m) (j := j) (n := n) (q := q) (p := p) (k := 4)
    refine x_L_e rfl ?_ ⟨fun c c1 _ => y.1 c c1, fun _ _ _ => rfl, y.2.2.1, y.2.2.2⟩
    rw [e_Fa_readThing, q_Fa_readThing_0]
    simp (disch := omega) only [x7, sb, ↓bc_15, ↓bc_1, ↓br_15_11, ↓bc_20, ↓bx_20, bl_20, ↓br_15_12, ↓bc_21, ↓bx_21, bl_21, ↓b_t0, ↓b_t1, ↓b_t2, ↓b_t3, ↓b_t4, ↓b_t5, ↓b_t6, Nat.zero_add, Nat.le_refl, b_rs, b_rn, b_r2, b_ss, b_sn, b_bt, b_bf, b_b0, b_b1, b_bw, b_shl, b_or, b_iv, b_jv, b_sI, b_sJ, ↓z_hl, z_b0, z_b1, z_b2, b_and1c, b_and1z, if_true, if_false, nI_add, pk_mul, b_cl, b_lt, b_le, b_eq, b_eq0, b_le0, b_0lt, b_0le, b_lt0]
    rw [if_neg (by omega)]
  rw [if_neg c] at hQ0 ⊢
  obtain ⟨m2, j2, e1, e2⟩ := s_Ta_stepT (X := X) (tx := tx) (D := d) (m := m) (j := j) (w := w) x1 x3 (w_kd_in (by omega) (by omega)) (by omega)
  have n2 : m2 2 = m 2 := e2.2.1.1 2 (by decide)
  have n15 : m2 15 = m 15 := e2.2.1.1 15 (by decide)
  have y0 : m2 15 2 = s 2 := by rw [n15]; exact x7
  have s3 := s_Fa_takeNewName (X := X) (tx := tx) (D := d) (m := m2) (j := j2) (w := w) (N := N) (s := s) (l_X_fr x1 n2 (e2.2.1.2.1 3 (by decide))) e2.1 (by rw [n15, e2.2.1.1 17 (by decide), e2.2.1.1 18 (by decide), e2.2.1.2.1 16 (by decide)]; exact x10) (by rw [n15]; omega) (by omega) (so := 2) (nu := s 2) (by omega) (by omega)
  rw [n2] at s3
  cases h3 : k_fresh (m 2) n q N s (w_nx (m 2) n q p) with
  | error e =>
    rw [h3] at s3
    obtain ⟨m3, e4, e5⟩ := s3
    refine x_L_e rfl (m2 := m3) (j2 := j2) ?_ ⟨fun c c1 _ => (e5.1 c c1).trans (e2.2.1.1 c c1), fun c c1 _ => e2.2.1.2.1 c c1, e5.2.2.1, e5.2.2.2⟩
    rw [e_Fa_readThing, q_Fa_readThing_0]
    simp (disch := omega) only [x7, y0, e1, e4, ↓bc_15, ↓bc_1, ↓br_15_11, ↓bc_20, ↓bx_20, bl_20, ↓br_15_12, ↓bc_21, ↓bx_21, bl_21, ↓b_t0, ↓b_t1, ↓b_t2, ↓b_t3, ↓b_t4, ↓b_t5, ↓b_t6, Nat.zero_add, Nat.le_refl, b_rs, b_rn, b_r2, b_ss, b_sn, b_bt, b_bf, b_b0, b_b1, b_bw, b_shl, b_or, b_iv, b_jv, b_sI, b_sJ, ↓z_hl, z_b0, z_b1, z_b2, b_and1c, b_and1z, if_true, if_false, nI_add, pk_mul, b_cl, b_lt, b_le, b_eq, b_eq0, b_le0, b_0lt, b_0le, b_lt0]
    rw [if_pos (by omega)]
  | ok p2 =>
    rw [h3] at s3 hQ0
    obtain ⟨m3, j3, e4, e5, hl⟩ := s3
    have hf := k_fresh_ok h3
    obtain ⟨z1, z2, z3, z4, z5, z6, z7, z8⟩ := w_nn_fr e2 e5
    generalize hW : w_conv (w_le (m 2) n q (w_nx (m 2) n q p)) = W at hQ0 hf
    have hQ0 : ∀ y, k_lt2 (m 2) n q s (b_s N (12 + s 2) W) dk p2 = .ok y → i_Q y.1 y.2.2.1 ∧ p ≤ y.2.2.2 ∧ y.2.2.2 ≤ n := hQ0
    show x_L m j w (m 2) n q (k_lt2 (m 2) n q s (b_s N (12 + s 2) W) dk p2) _
    unfold k_lt2 at hQ0 ⊢
    have y3 : m3 15 2 = s 2 := by rw [z1, b_sn (by decide)]; exact x7
    have hn := r_N_new x10 (by omega) hK hM hT (q := 2) (by decide) (fun x => absurd x (by decide)) (fun x => absurd x (by decide)) (fun _ => by omega) hl (by rw [hW]; exact hf.2.1)
    rw [hW] at hn
    have hn : r_N (b_s (m 17) (m 15 6) 2) (b_s (m 18) (m 15 6) (s 2)) (m 15 6 + 1) (b_s (j 16) (m 15 6) (w_le (m 2) n q (w_nx (m 2) n q p))) (b_s N (12 + s 2) W) (b_s s 2 (s 2 + 1)) := hn
    have v2 : b_r m3 15 (b_s (m3 15) 2 (s 2 + 1)) 2 = m 2 := (b_rn (by decide)).trans (z5 2 (by decide) (by decide) (by decide) (by decide))
    have v15 : b_r m3 15 (b_s (m3 15) 2 (s 2 + 1)) 15 6 = m 15 6 + 1 := by rw [b_rs, b_sn (by decide), z1, b_ss]
    have v17 : b_r m3 15 (b_s (m3 15) 2 (s 2 + 1)) 17 = b_s (m 17) (m 15 6) 2 := (b_rn (by decide)).trans z2
    have v18 : b_r m3 15 (b_s (m3 15) 2 (s 2 + 1)) 18 = b_s (m 18) (m 15 6) (s 2) := (b_rn (by decide)).trans z3
    have s4 := s_Fa_takeName15 (X := X) (tx := tx) (D := d) (m := b_r m3 15 (b_s (m3 15) 2 (s 2 + 1))) (j := j3) (w := w) (N := b_s N (12 + s 2) W) (s := b_s s 2 (s 2 + 1)) (l_X_fr x1 v2 (z6 3 (by decide) (by decide))) (l_C_c e5.1 (b_rn (by decide)) (b_rn (by decide)) rfl) (by rw [v15, v17, v18, z4]; exact hn) (by rw [v15]; omega) (by omega) (so := 1) (by decide)
    rw [v2] at s4
    have s4 : match k_look (m 2) n q (fun k => b_s N (12 + s 2) W (6 + k)) (s 1) p2 with
      | .ok k => ∃ m2 j2, a_ex X tx a_T d 44 [.ref 15, .ref 1, .int (nI 1)] (b_h (b_r m3 15 (b_s (m3 15) 2 (s 2 + 1))) j3 w) = some (b_h m2 j2 w, some (.int (nI k))) ∧ o_C (b_r m3 15 (b_s (m3 15) 2 (s 2 + 1))) m2 j3 j2 n q (w_nx (m 2) n q p2) ∧ k < s 1 ∧ k < 30
      | .error e => ∃ m2, a_ex X tx a_T d 44 [.ref 15, .ref 1, .int (nI 1)] (b_h (b_r m3 15 (b_s (m3 15) 2 (s 2 + 1))) j3 w) = some (b_h m2 j3 w, some (.int (nI 4294967295))) ∧ x_C (b_r m3 15 (b_s (m3 15) 2 (s 2 + 1))) m2 j3 j3 e := s4
    cases h4 : k_look (m 2) n q (fun k => b_s N (12 + s 2) W (6 + k)) (s 1) p2 with
    | error e =>
      rw [h4] at s4
      obtain ⟨m4, f1, f2⟩ := s4
      refine x_L_e rfl (m2 := b_r m4 20 (b_s (m4 20) (s 2) 4294967295)) (j2 := j3) ?_ ⟨fun c c1 c2 => (b_rn (by omega)).trans ((f2.1 c c1).trans ((b_rn (by omega)).trans (z5 c c1 (by omega) (by omega) (by omega)))), fun c c1 c2 => z6 c c1 c2, by rw [b_rn (by decide)]; exact f2.2.2.1, by rw [b_rn (by decide)]; exact f2.2.2.2⟩
      rw [e_Fa_readThing, q_Fa_readThing_0]
      simp (disch := omega) only [x7, y0, y3, e1, e4, f1, Nat.one_ne_zero, ↓bc_15, ↓bc_1, ↓br_15_11, ↓bc_20, ↓bx_20, bl_20, ↓br_15_12, ↓bc_21, ↓bx_21, bl_21, ↓b_t0, ↓b_t1, ↓b_t2, ↓b_t3, ↓b_t4, ↓b_t5, ↓b_t6, Nat.zero_add, Nat.le_refl, b_rs, b_rn, b_r2, b_ss, b_sn, b_bt, b_bf, b_b0, b_b1, b_bw, b_shl, b_or, b_iv, b_jv, b_sI, b_sJ, ↓z_hl, z_b0, z_b1, z_b2, b_and1c, b_and1z, if_true, if_false, nI_add, pk_mul, b_cl, b_lt, b_le, b_eq, b_eq0, b_le0, b_0lt, b_0le, b_lt0]
      rw [if_pos (by omega)]
    | ok k =>
      rw [h4] at s4 hQ0
      obtain ⟨m4, j4, f1, f2, f3, f4⟩ := s4
      have h15 : m4 15 = b_s (m3 15) 2 (s 2 + 1) := (f2.2.1.1 15 (by decide)).trans b_rs
      have hm : ∀ c, c ≠ 1 → c ≠ 15 → c ≠ 17 → c ≠ 18 → m4 c = m c := fun c c1 c2 c3 c4 => (f2.2.1.1 c c1).trans ((b_rn c2).trans (z5 c c1 c2 c3 c4))
      have h17 : m4 17 = m3 17 := (f2.2.1.1 17 (by decide)).trans (b_rn (by decide))
      have h18 : m4 18 = m3 18 := (f2.2.1.1 18 (by decide)).trans (b_rn (by decide))
      have hj : ∀ c, c ≠ 1 → j4 c = j3 c := f2.2.1.2.1
      have w2 : m4 2 = m 2 := hm 2 (by decide) (by decide) (by decide) (by decide)
      have u2 : b_r m4 20 (b_s (m4 20) (s 2) k) 2 = m 2 := (b_rn (by decide)).trans w2
      have u15 : b_r m4 20 (b_s (m4 20) (s 2) k) 15 6 = m 15 6 + 1 := by rw [b_rn (by decide), h15, b_sn (by decide), z1, b_ss]
      have u17 : b_r m4 20 (b_s (m4 20) (s 2) k) 17 = b_s (m 17) (m 15 6) 2 := (b_rn (by decide)).trans (h17.trans z2)
      have u18 : b_r m4 20 (b_s (m4 20) (s 2) k) 18 = b_s (m 18) (m 15 6) (s 2) := (b_rn (by decide)).trans (h18.trans z3)
      have u21 : b_r m4 20 (b_s (m4 20) (s 2) k) 21 = m 21 := (b_rn (by decide)).trans (hm 21 (by decide) (by decide) (by decide) (by decide))
      have ha : ∀ i, i < 6 → b_s (b_s s (11 + s 2) k) 2 (s 2 + 1) (19 + 6 * s 2 + i) = s (19 + 6 * s 2 + i) := fun i hi => by rw [b_sn (by omega), b_sn (by omega)]
      have s5 := s_Fa_readAmounts21 (X := X) (tx := tx) (D := d) (m := b_r m4 20 (b_s (m4 20) (s 2) k)) (j := j4) (w := w) (N := b_s N (12 + s 2) W) (s := b_s (b_s s (11 + s 2) k) 2 (s 2 + 1)) (l_X_fr x1 u2 ((hj 3 (by decide)).trans (z6 3 (by decide) (by decide)))) (l_C_c f2.1 (b_rn (by decide)) (b_rn (by decide)) rfl) (by
        rw [u15, u17, u18, hj 16 (by decide), z4]
        refine r_N_c hn (fun i hi => ?_)
        by_cases y : i = 2
        · rw [y, b_ss, b_ss]
        · rw [b_sn y, b_sn y, b_sn (by omega)]) (by rw [u15]; omega) f2.2.2 (by rw [b_sn (by decide), b_sn (by omega)]; exact hK) (by omega) (fr := s 2 * 6) (to := 19 + 6 * s 2) (by omega) (fun i hi => by rw [u21, ha i hi]; exact x13 (s 2) (by omega) i hi) (fun i hi => by rw [ha i hi]; have := hot (s 2) (by omega) i hi; omega)
      rw [u2] at s5
      have s00 : b_s (b_s s (11 + s 2) k) 2 (s 2 + 1) 0 = s 0 := by rw [b_sn (by decide), b_sn (by omega)]
      rw [s00] at s5
      have s6 := k_am_eq (b := m 2) (n := n) (q := q) (g := b_s N (12 + s 2) W) (kinds := s 0) (to := 19 + 6 * s 2) hK 7 (b_s s (11 + s 2) k) (b_s (b_s s (11 + s 2) k) 2 (s 2 + 1)) (w_nx (m 2) n q p2) (fun i hi => (b_sn (by omega)).symm)
      show x_L m j w (m 2) n q (match k_am (m 2) n q (b_s N (12 + s 2) W) (s 0) (19 + 6 * s 2) 7 (b_s s (11 + s 2) k) (w_nx (m 2) n q p2) with | .error e => .error e | .ok y => .ok (b_s y.1 2 (s 2 + 1), b_s N (12 + s 2) W, dk, y.2)) _
      have hQ0 : ∀ y, @Eq (Except (Nat × Nat) ((Nat → Nat) × (Nat → Nat) × Nat × Nat)) (match k_am (m 2) n q (b_s N (12 + s 2) W) (s 0) (19 + 6 * s 2) 7 (b_s s (11 + s 2) k) (w_nx (m 2) n q p2) with | .error e => .error e | .ok y => .ok (b_s y.1 2 (s 2 + 1), b_s N (12 + s 2) W, dk, y.2)) (.ok y) → i_Q y.1 y.2.2.1 ∧ p ≤ y.2.2.2 ∧ y.2.2.2 ≤ n := hQ0
      cases h5 : k_am (m 2) n q (b_s N (12 + s 2) W) (s 0) (19 + 6 * s 2) 7 (b_s s (11 + s 2) k) (w_nx (m 2) n q p2) with
      | error e =>
        rw [h5] at s6
        have s6 : k_am (m 2) n q (b_s N (12 + s 2) W) (s 0) (19 + 6 * s 2) 7 (b_s (b_s s (11 + s 2) k) 2 (s 2 + 1)) (w_nx (m 2) n q p2) = .error e := s6
        rw [s6] at s5
        obtain ⟨m5, j5, g1, g2, g3, g4, g5⟩ := s5
        refine x_L_e rfl (m2 := m5) (j2 := j5) ?_ ⟨fun c c1 c2 => (g2 c c1 (by omega)).trans ((b_rn (by omega)).trans (hm c c1 (by omega) (by omega) (by omega))), fun c c1 c2 => (g3 c c1).trans ((hj c c1).trans (z6 c c1 c2)), g4, g5⟩
        rw [e_Fa_readThing, q_Fa_readThing_0]
        simp (disch := omega) only [x7, y0, y3, e1, e4, f1, g1, Nat.one_ne_zero, ↓bc_15, ↓bc_1, ↓br_15_11, ↓bc_20, ↓bx_20, bl_20, ↓br_15_12, ↓bc_21, ↓bx_21, bl_21, ↓b_t0, ↓b_t1, ↓b_t2, ↓b_t3, ↓b_t4, ↓b_t5, ↓b_t6, Nat.zero_add, Nat.le_refl, b_rs, b_rn, b_r2, b_ss, b_sn, b_bt, b_bf, b_b0, b_b1, b_bw, b_shl, b_or, b_iv, b_jv, b_sI, b_sJ, ↓z_hl, z_b0, z_b1, z_b2, b_and1c, b_and1z, if_true, if_false, nI_add, pk_mul, b_cl, b_lt, b_le, b_eq, b_eq0, b_le0, b_0lt, b_0le, b_lt0]
        rw [if_pos (by omega), if_neg (by omega)]
      | ok y =>
        rw [h5] at s6 hQ0
        obtain ⟨z, s6, s7⟩ := s6
        rw [s6] at s5
        obtain ⟨m5, j5, g1, g2, g3, g4, g5, g6, g7, g8, g9⟩ := s5
        have hQ := hQ0 _ rfl
        have hy := k_am_fr 7 _ _ _ h5
        have hz : ∀ i, i ≠ 2 → i ≠ 11 + s 2 → i < 19 + 6 * s 2 ∨ 19 + 6 * s 2 + 6 ≤ i → b_s y.1 2 (s 2 + 1) i = s i := fun i a1 a2 a3 => by rw [b_sn a1, hy i (by omega), b_sn a2]
        have hh : ∀ c, c ≠ 1 → c ≠ 15 → c ≠ 17 → c ≠ 18 → c ≠ 20 → c ≠ 21 → m5 c = m c := fun c c1 c2 c3 c4 c5 c6 => (g4 c c1 c6).trans ((b_rn c5).trans (hm c c1 c2 c3 c4))
        have i15 : m5 15 = b_s (m3 15) 2 (s 2 + 1) := (g4 15 (by decide) (by decide)).trans ((b_rn (by decide)).trans h15)
        have i17 : m5 17 = m3 17 := (g4 17 (by decide) (by decide)).trans ((b_rn (by decide)).trans h17)
        have i18 : m5 18 = m3 18 := (g4 18 (by decide) (by decide)).trans ((b_rn (by decide)).trans h18)
        have i20 : m5 20 = b_s (m 20) (s 2) k := by rw [g4 20 (by decide) (by decide), b_rs, hm 20 (by decide) (by decide) (by decide) (by decide)]
        have ij : ∀ c, c ≠ 1 → j5 c = j3 c := fun c c1 => (g5 c c1).trans (hj c c1)
        refine x_L_o rfl (m2 := m5) (j2 := j5) ?_ ⟨l_X_fr x1 (hh 2 (by decide) (by decide) (by decide) (by decide) (by decide) (by decide)) ((ij 3 (by decide)).trans (z6 3 (by decide) (by decide))), hh 2 (by decide) (by decide) (by decide) (by decide) (by decide) (by decide), g2, hQ.2.2, ?_, ?_, ?_, ?_, ?_, ?_, ?_, ?_, ?_, ?_, ?_, ?_, ?_, hQ.1⟩ ⟨fun c c1 c2 => hh c c1 (by omega) (by omega) (by omega) (by omega) (by omega), fun c c1 c2 => (ij c c1).trans (z6 c c1 c2), by rw [i15, b_sn (by decide), z1, b_sn (by decide)], by rw [g8, b_rn (by decide), f2.2.1.2.2.1, b_rn (by decide)]; exact z7, by rw [g9, b_rn (by decide), f2.2.1.2.2.2, b_rn (by decide)]; exact z8⟩
        · rw [e_Fa_readThing, q_Fa_readThing_0]
          simp (disch := omega) only [x7, y0, y3, e1, e4, f1, g1, Nat.one_ne_zero, ↓bc_15, ↓bc_1, ↓br_15_11, ↓bc_20, ↓bx_20, bl_20, ↓br_15_12, ↓bc_21, ↓bx_21, bl_21, ↓b_t0, ↓b_t1, ↓b_t2, ↓b_t3, ↓b_t4, ↓b_t5, ↓b_t6, Nat.zero_add, Nat.le_refl, b_rs, b_rn, b_r2, b_ss, b_sn, b_bt, b_bf, b_b0, b_b1, b_bw, b_shl, b_or, b_iv, b_jv, b_sI, b_sJ, ↓z_hl, z_b0, z_b1, z_b2, b_and1c, b_and1z, if_true, if_false, nI_add, pk_mul, b_cl, b_lt, b_le, b_eq, b_eq0, b_le0, b_0lt, b_0le, b_lt0]
          rw [if_pos (by omega), if_neg (by omega)]
        · rw [i15, b_sn (by decide), z1, b_sn (by decide)]; exact x5.trans (hz 0 (by decide) (by omega) (by omega)).symm
        · rw [i15, b_sn (by decide), z1, b_sn (by decide)]; exact x6.trans (hz 1 (by decide) (by omega) (by omega)).symm
        · show m5 15 2 = b_s y.1 2 (s 2 + 1) 2
          rw [i15, b_ss, b_ss]
        · rw [i15, b_sn (by decide), z1, b_sn (by decide)]; exact x8.trans (hz 3 (by decide) (by omega) (by omega)).symm
        · rw [i15, b_sn (by decide), z1, b_sn (by decide)]
          show _ = if dk = 0 then 4294967295 else b_s y.1 2 (s 2 + 1) 4
          rw [hz 4 (by decide) (by omega) (by omega)]; exact x9
        · rw [i15, i17, i18, ij 16 (by decide), b_sn (by decide), z1, b_ss, z2, z3, z4]
          refine r_N_c hn (fun i hi => ?_)
          show b_s y.1 2 (s 2 + 1) i = b_s s 2 (s 2 + 1) i
          by_cases e : i = 2
          · rw [e, b_ss, b_ss]
          · rw [b_sn e, b_sn e, hy i (by omega), b_sn (by omega)]
        · intro i hi
          rw [hh 19 (by decide) (by decide) (by decide) (by decide) (by decide) (by decide)]
          have hi : i < b_s y.1 2 (s 2 + 1) 1 := hi
          rw [hz 1 (by decide) (by omega) (by omega)] at hi
          exact (x11 i hi).trans (hz (5 + i) (by omega) (by omega) (by omega)).symm
        · intro i hi
          have hi : i < b_s y.1 2 (s 2 + 1) 2 := hi
          rw [b_ss] at hi
          show m5 20 i = b_s y.1 2 (s 2 + 1) (11 + i)
          rw [i20]
          by_cases e : i = s 2
          · rw [e, b_ss, b_sn (by omega), hy _ (by omega), b_ss]
          · rw [b_sn e, hz (11 + i) (by omega) (by omega) (by omega)]
            exact x12 i (by omega)
        · intro t ht i hi
          show m5 21 (t * 6 + i) = b_s y.1 2 (s 2 + 1) (19 + 6 * t + i)
          by_cases e : t = s 2
          · rw [e, b_sn (by omega), g6 i hi]
            exact s7 i hi
          · rw [g7 (t * 6 + i) (by omega), u21, hz (19 + 6 * t + i) (by omega) (by omega) (by omega)]
            exact x13 t ht i hi
        · intro i hi
          rw [hh 22 (by decide) (by decide) (by decide) (by decide) (by decide) (by decide)]
          have hi : i < b_s y.1 2 (s 2 + 1) 3 := hi
          rw [hz 3 (by decide) (by omega) (by omega)] at hi
          exact (x14 i hi).trans (hz (67 + i) (by omega) (by omega) (by omega)).symm
        · intro i hi
          rw [hh 23 (by decide) (by decide) (by decide) (by decide) (by decide) (by decide)]
          have hi : i < b_s y.1 2 (s 2 + 1) 3 := hi
          rw [hz 3 (by decide) (by omega) (by omega)] at hi
          exact (x15 i hi).trans (hz (77 + i) (by omega) (by omega) (by omega)).symm
        · intro t ht i hi
          rw [hh 24 (by decide) (by decide) (by decide) (by decide) (by decide) (by decide)]
          exact (x16 t ht i hi).trans (hz (87 + 6 * t + i) (by omega) (by omega) (by omega)).symm
        · intro i hi
          rw [hh 25 (by decide) (by decide) (by decide) (by decide) (by decide) (by decide)]
          exact (x17 i hi).trans (hz (147 + i) (by omega) (by omega) (by omega)).symm
end LC
