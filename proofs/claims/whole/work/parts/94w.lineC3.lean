/-! TEXTS: the class reads a man -/
section LC
variable {X : Nat × (Nat → Int32)} {tx : List Int32} {D : Nat} {m j : Nat → Nat → Nat} {w : (Nat × Nat) × Bool} {b : Nat → Nat} {n q p : Nat} {s N : Nat → Nat} {dk : Nat}
theorem s_Fa_readMan (h : l_S m j b n q s N dk p) (h1 : w_kd b n q p = 1) (hD : 6 ≤ D) : x_L m j w b n q (k_lm b n q s N dk p) (a_ex X tx a_T D 35 [.ref 15, .ref 1] (b_h m j w)) := by
  obtain ⟨d, rfl⟩ : ∃ d, D = d + 1 := ⟨D - 1, by omega⟩
  obtain ⟨x1, x2, x3, x4, x5, x6, x7, x8, x9, x10, x11, x12, x13, x14, x15, x16, x17, x18⟩ := id h
  have hQ0 := fun y hy => i_Q_lm (g := N) (y := y) x18 x4 h1 hy
  have hK := i_S_K x18.1
  have hM := i_S_M x18.1
  have hT := i_S_T x18.1
  have hE := i_S_E x18.1
  have hcn := x10.1
  subst x2
  unfold k_lm at hQ0 ⊢
  by_cases c : s 1 = 6
  · rw [if_pos c]
    have sb := s_Ta_fail (X := X) (tx := tx) (D := d) (m := m) (j := j) (w := w) x3 (by omega) (k := 4)
    have y := x_C_fail (m := m) (j := j) (n := n) (q := q) (p := p) (k := 4)
    refine x_L_e rfl ?_ ⟨fun c c1 _ => y.1 c c1, fun _ _ _ => rfl, y.2.2.1, y.2.2.2⟩
    rw [e_Fa_readMan, q_Fa_readMan_0]
    simp (disch := omega) only [x6, sb, ↓bc_15, ↓bc_1, ↓br_15_10, ↓bc_19, ↓bx_19, bl_19, ↓b_t0, ↓b_t1, ↓b_t2, ↓b_t3, ↓b_t4, ↓b_t5, ↓b_t6, Nat.zero_add, Nat.le_refl, b_rs, b_rn, b_r2, b_ss, b_sn, b_bt, b_bf, b_b0, b_b1, b_bw, b_shl, b_or, b_iv, b_jv, b_sI, b_sJ, ↓z_hl, z_b0, z_b1, z_b2, b_and1c, b_and1z, if_true, if_false, nI_add, pk_mul, b_cl, b_lt, b_le, b_eq, b_eq0, b_le0, b_0lt, b_0le, b_lt0]
    rw [if_neg (by omega)]
  rw [if_neg c] at hQ0 ⊢
  obtain ⟨m2, j2, e1, e2⟩ := s_Ta_stepT (X := X) (tx := tx) (D := d) (m := m) (j := j) (w := w) x1 x3 (w_kd_in (by omega) (by omega)) (by omega)
  have n2 : m2 2 = m 2 := e2.2.1.1 2 (by decide)
  have n15 : m2 15 = m 15 := e2.2.1.1 15 (by decide)
  have y0 : m2 15 1 = s 1 := by rw [n15]; exact x6
  have s3 := s_Fa_takeNewName (X := X) (tx := tx) (D := d) (m := m2) (j := j2) (w := w) (N := N) (s := s) (l_X_fr x1 n2 (e2.2.1.2.1 3 (by decide))) e2.1 (by rw [n15, e2.2.1.1 17 (by decide), e2.2.1.1 18 (by decide), e2.2.1.2.1 16 (by decide)]; exact x10) (by rw [n15]; omega) (by omega) (so := 1) (nu := s 1) (by omega) (by omega)
  rw [n2] at s3
  cases h3 : k_fresh (m 2) n q N s (w_nx (m 2) n q p) with
  | error e =>
    rw [h3] at s3
    obtain ⟨m3, e4, e5⟩ := s3
    refine x_L_e rfl (m2 := m3) (j2 := j2) ?_ ⟨fun c c1 _ => (e5.1 c c1).trans (e2.2.1.1 c c1), fun c c1 _ => e2.2.1.2.1 c c1, e5.2.2.1, e5.2.2.2⟩
    rw [e_Fa_readMan, q_Fa_readMan_0]
    simp (disch := omega) only [x6, y0, e1, e4, ↓bc_15, ↓bc_1, ↓br_15_10, ↓bc_19, ↓bx_19, bl_19, ↓b_t0, ↓b_t1, ↓b_t2, ↓b_t3, ↓b_t4, ↓b_t5, ↓b_t6, Nat.zero_add, Nat.le_refl, b_rs, b_rn, b_r2, b_ss, b_sn, b_bt, b_bf, b_b0, b_b1, b_bw, b_shl, b_or, b_iv, b_jv, b_sI, b_sJ, ↓z_hl, z_b0, z_b1, z_b2, b_and1c, b_and1z, if_true, if_false, nI_add, pk_mul, b_cl, b_lt, b_le, b_eq, b_eq0, b_le0, b_0lt, b_0le, b_lt0]
    rw [if_pos (by omega)]
  | ok p2 =>
    rw [h3] at s3 hQ0
    obtain ⟨m3, j3, e4, e5, hl⟩ := s3
    have hf := k_fresh_ok h3
    obtain ⟨z1, z2, z3, z4, z5, z6, z7, z8⟩ := w_nn_fr e2 e5
    generalize hW : w_conv (w_le (m 2) n q (w_nx (m 2) n q p)) = W at hQ0 hf
    have hQ0 : ∀ y, k_lm2 (m 2) n q s (b_s N (6 + s 1) W) dk p2 = .ok y → i_Q y.1 y.2.2.1 ∧ p ≤ y.2.2.2 ∧ y.2.2.2 ≤ n := hQ0
    show x_L m j w (m 2) n q (k_lm2 (m 2) n q s (b_s N (6 + s 1) W) dk p2) _
    unfold k_lm2 at hQ0 ⊢
    have y3 : m3 15 1 = s 1 := by rw [z1, b_sn (by decide)]; exact x6
    have hn := r_N_new x10 (by omega) hK hM hT (q := 1) (by decide) (fun x => absurd x (by decide)) (fun _ => by omega) (fun x => absurd x (by decide)) hl (by rw [hW]; exact hf.2.1)
    rw [hW] at hn
    have v2 : b_r m3 15 (b_s (m3 15) 1 (s 1 + 1)) 2 = m 2 := (b_rn (by decide)).trans (z5 2 (by decide) (by decide) (by decide) (by decide))
    have s4 := s_Ta_takeNumber (X := X) (tx := tx) (D := d) (m := b_r m3 15 (b_s (m3 15) 1 (s 1 + 1))) (j := j3) (w := w) (l_X_fr x1 v2 (z6 3 (by decide) (by decide))) (l_C_c e5.1 (b_rn (by decide)) (b_rn (by decide)) rfl) (by omega) (lo := 0) (hi := 999) (by omega) (by omega)
    rw [v2] at s4
    cases h4 : k_num (m 2) n q 0 999 p2 with
    | error e =>
      rw [h4] at s4
      obtain ⟨m4, j4, f1, f2⟩ := s4
      refine x_L_e rfl (m2 := b_r m4 19 (b_s (m4 19) (s 1) 4294967295)) (j2 := j4) ?_ ⟨fun c c1 c2 => (b_rn (by omega)).trans ((f2.1 c c1).trans ((b_rn (by omega)).trans (z5 c c1 (by omega) (by omega) (by omega)))), fun c c1 c2 => (f2.2.1 c c1).trans (z6 c c1 c2), by rw [b_rn (by decide)]; exact f2.2.2.1, by rw [b_rn (by decide)]; exact f2.2.2.2⟩
      rw [e_Fa_readMan, q_Fa_readMan_0]
      simp (disch := omega) only [x6, y0, y3, e1, e4, f1, Nat.one_ne_zero, ↓bc_15, ↓bc_1, ↓br_15_10, ↓bc_19, ↓bx_19, bl_19, ↓b_t0, ↓b_t1, ↓b_t2, ↓b_t3, ↓b_t4, ↓b_t5, ↓b_t6, Nat.zero_add, Nat.le_refl, b_rs, b_rn, b_r2, b_ss, b_sn, b_bt, b_bf, b_b0, b_b1, b_bw, b_shl, b_or, b_iv, b_jv, b_sI, b_sJ, ↓z_hl, z_b0, z_b1, z_b2, b_and1c, b_and1z, if_true, if_false, nI_add, pk_mul, b_cl, b_lt, b_le, b_eq, b_eq0, b_le0, b_0lt, b_0le, b_lt0]
      rw [if_pos (by omega)]
    | ok r =>
      rw [h4] at s4 hQ0
      obtain ⟨m4, j4, f1, f2, f3, f4, f5⟩ := s4
      have hQ := hQ0 _ rfl
      have hz : ∀ k, k ≠ 1 → k ≠ 5 + s 1 → b_s (b_s s (5 + s 1) r.1) 1 (s 1 + 1) k = s k := fun k hk hk2 => by rw [b_sn hk, b_sn hk2]
      have h15 : m4 15 = b_s (m3 15) 1 (s 1 + 1) := (f2.2.1.1 15 (by decide)).trans b_rs
      have hm : ∀ c, c ≠ 1 → c ≠ 15 → c ≠ 17 → c ≠ 18 → m4 c = m c := fun c c1 c2 c3 c4 => (f2.2.1.1 c c1).trans ((b_rn c2).trans (z5 c c1 c2 c3 c4))
      have h17 : m4 17 = m3 17 := (f2.2.1.1 17 (by decide)).trans (b_rn (by decide))
      have h18 : m4 18 = m3 18 := (f2.2.1.1 18 (by decide)).trans (b_rn (by decide))
      have hj : ∀ c, c ≠ 1 → j4 c = j3 c := f2.2.1.2.1
      have w2 : m4 2 = m 2 := hm 2 (by decide) (by decide) (by decide) (by decide)
      refine x_L_o rfl (m2 := b_r m4 19 (b_s (m4 19) (s 1) r.1)) (j2 := j4) ?_ ⟨l_X_fr x1 ((b_rn (by decide)).trans w2) ((hj 3 (by decide)).trans (z6 3 (by decide) (by decide))), (b_rn (by decide)).trans w2, l_C_c f2.1 (b_rn (by decide)) (b_rn (by decide)) rfl, hQ.2.2, ?_, ?_, ?_, ?_, ?_, ?_, ?_, ?_, ?_, ?_, ?_, ?_, ?_, hQ.1⟩ ⟨fun c c1 c2 => (b_rn (by omega)).trans (hm c c1 (by omega) (by omega) (by omega)), fun c c1 c2 => (hj c c1).trans (z6 c c1 c2), by rw [b_rn (by decide), h15, b_sn (by decide), z1, b_sn (by decide)], by rw [b_rn (by decide), f2.2.1.2.2.1, b_rn (by decide)]; exact z7, by rw [b_rn (by decide), f2.2.1.2.2.2, b_rn (by decide)]; exact z8⟩
      · rw [e_Fa_readMan, q_Fa_readMan_0]
        simp (disch := omega) only [x6, y0, y3, e1, e4, f1, Nat.one_ne_zero, ↓bc_15, ↓bc_1, ↓br_15_10, ↓bc_19, ↓bx_19, bl_19, ↓b_t0, ↓b_t1, ↓b_t2, ↓b_t3, ↓b_t4, ↓b_t5, ↓b_t6, Nat.zero_add, Nat.le_refl, b_rs, b_rn, b_r2, b_ss, b_sn, b_bt, b_bf, b_b0, b_b1, b_bw, b_shl, b_or, b_iv, b_jv, b_sI, b_sJ, ↓z_hl, z_b0, z_b1, z_b2, b_and1c, b_and1z, if_true, if_false, nI_add, pk_mul, b_cl, b_lt, b_le, b_eq, b_eq0, b_le0, b_0lt, b_0le, b_lt0]
        rw [if_pos (by omega), if_neg (by omega)]
      · rw [b_rn (by decide), h15, b_sn (by decide), z1, b_sn (by decide)]; exact x5.trans (hz 0 (by decide) (by omega)).symm
      · show b_r m4 19 (b_s (m4 19) (s 1) r.1) 15 1 = b_s (b_s s (5 + s 1) r.1) 1 (s 1 + 1) 1
        rw [b_rn (by decide), h15, b_ss, b_ss]
      · rw [b_rn (by decide), h15, b_sn (by decide), z1, b_sn (by decide)]; exact x7.trans (hz 2 (by decide) (by omega)).symm
      · rw [b_rn (by decide), h15, b_sn (by decide), z1, b_sn (by decide)]; exact x8.trans (hz 3 (by decide) (by omega)).symm
      · rw [b_rn (by decide), h15, b_sn (by decide), z1, b_sn (by decide)]
        show _ = if dk = 0 then 4294967295 else b_s (b_s s (5 + s 1) r.1) 1 (s 1 + 1) 4
        rw [hz 4 (by decide) (by omega)]; exact x9
      · rw [b_rn (by decide), b_rn (by decide), b_rn (by decide), h15, h17, h18, hj 16 (by decide), b_sn (by decide), z1, b_ss, z2, z3, z4]
        refine r_N_c hn (fun k hk => ?_)
        show b_s (b_s s (5 + s 1) r.1) 1 (s 1 + 1) k = b_s s 1 (s 1 + 1) k
        by_cases y : k = 1
        · rw [y, b_ss, b_ss]
        · rw [b_sn y, b_sn y, b_sn (by omega)]
      · intro i hi
        have hi : i < b_s (b_s s (5 + s 1) r.1) 1 (s 1 + 1) 1 := hi
        rw [b_ss] at hi
        show b_r m4 19 (b_s (m4 19) (s 1) r.1) 19 i = b_s (b_s s (5 + s 1) r.1) 1 (s 1 + 1) (5 + i)
        rw [b_rs]
        by_cases y : i = s 1
        · rw [y, b_ss, b_sn (by omega), b_ss]
        · rw [b_sn y, hz (5 + i) (by omega) (by omega), hm 19 (by decide) (by decide) (by decide) (by decide)]
          exact x11 i (by omega)
      · intro i hi
        rw [b_rn (by decide), hm 20 (by decide) (by decide) (by decide) (by decide)]
        exact (x12 i (by have hi : i < b_s (b_s s (5 + s 1) r.1) 1 (s 1 + 1) 2 := hi; rw [hz 2 (by decide) (by omega)] at hi; exact hi)).trans (hz (11 + i) (by omega) (by omega)).symm
      · intro t ht k hk
        rw [b_rn (by decide), hm 21 (by decide) (by decide) (by decide) (by decide)]
        exact (x13 t ht k hk).trans (hz (19 + 6 * t + k) (by omega) (by omega)).symm
      · intro i hi
        rw [b_rn (by decide), hm 22 (by decide) (by decide) (by decide) (by decide)]
        exact (x14 i (by have hi : i < b_s (b_s s (5 + s 1) r.1) 1 (s 1 + 1) 3 := hi; rw [hz 3 (by decide) (by omega)] at hi; exact hi)).trans (hz (67 + i) (by omega) (by omega)).symm
      · intro i hi
        rw [b_rn (by decide), hm 23 (by decide) (by decide) (by decide) (by decide)]
        exact (x15 i (by have hi : i < b_s (b_s s (5 + s 1) r.1) 1 (s 1 + 1) 3 := hi; rw [hz 3 (by decide) (by omega)] at hi; exact hi)).trans (hz (77 + i) (by omega) (by omega)).symm
      · intro t ht k hk
        rw [b_rn (by decide), hm 24 (by decide) (by decide) (by decide) (by decide)]
        exact (x16 t ht k hk).trans (hz (87 + 6 * t + k) (by omega) (by omega)).symm
      · intro i hi
        rw [b_rn (by decide), hm 25 (by decide) (by decide) (by decide) (by decide)]
        exact (x17 i hi).trans (hz (147 + i) (by omega) (by omega)).symm
end LC
