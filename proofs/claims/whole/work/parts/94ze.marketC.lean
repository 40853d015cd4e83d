/-! TEXTS: the class's market -/
section MC
variable {X : Nat × (Nat → Int32)} {tx : List Int32} {D d : Nat} {m j : Nat → Nat → Nat} {w : (Nat × Nat) × Bool} {b : Nat → Nat} {n q p : Nat} {s N : Nat → Nat} {dk : Nat}
theorem w_clr_c : w_clr m 15 = b_s (b_s (b_s (b_s (b_s (b_s (b_s (m 15) 0 0) 1 0) 2 0) 3 0) 4 0) 5 4294967295) 6 0 ∧ w_clr m 21 = b_rg (m 21) 0 48 (fun _ => 0) ∧ w_clr m 24 = b_rg (m 24) 0 60 (fun _ => 0) ∧ w_clr m 25 = b_rg (m 25) 0 10 (fun _ => 0) ∧ ∀ c, c ≠ 15 → c ≠ 21 → c ≠ 24 → c ≠ 25 → w_clr m c = m c := by
  unfold w_clr w_cz
  refine ⟨?_, ?_, ?_, ?_, fun c c1 c2 c3 c4 => ?_⟩
  · rw [b_rn (by decide), b_rn (by decide), b_rn (by decide), b_rs]
  · rw [b_rn (by decide), b_rn (by decide), b_rs, b_rn (by decide)]
  · rw [b_rn (by decide), b_rs, b_rn (by decide), b_rn (by decide)]
  · rw [b_rs, b_rn (by decide), b_rn (by decide), b_rn (by decide)]
  · rw [b_rn c4, b_rn c3, b_rn c2, b_rn c1]
theorem l_S_0 (hX : l_X m j n q) (hb : m 2 = b) (hC : l_C m j n q 0) : l_S (w_clr m) j b n q (b_s (fun _ => 0) 4 1) N 0 0 := by
  obtain ⟨g1, g2, g3, g4, g5⟩ := w_clr_c (m := m)
  have z : ∀ k, k ≠ 4 → b_s (fun _ => 0) 4 1 k = 0 := fun k hk => b_sn hk
  refine ⟨l_X_fr hX (g5 2 (by decide) (by decide) (by decide) (by decide)) rfl, (g5 2 (by decide) (by decide) (by decide) (by decide)).trans hb, l_C_c hC (g5 1 (by decide) (by decide) (by decide) (by decide)) (g5 2 (by decide) (by decide) (by decide) (by decide)) rfl, Nat.zero_le _, ?_, ?_, ?_, ?_, ?_, ⟨?_, fun i hi => ?_, fun q hq n hn => ?_, fun i hi => ?_⟩, fun i hi => ?_, fun i hi => ?_, fun t ht k hk => ?_, fun i hi => ?_, fun i hi => ?_, fun t ht k hk => ?_, fun e he => ?_, i_Q_0⟩
  · rw [g1, b_sn (by decide), b_sn (by decide), b_sn (by decide), b_sn (by decide), b_sn (by decide), b_sn (by decide), b_ss, z 0 (by decide)]
  · rw [g1, b_sn (by decide), b_sn (by decide), b_sn (by decide), b_sn (by decide), b_sn (by decide), b_ss, z 1 (by decide)]
  · rw [g1, b_sn (by decide), b_sn (by decide), b_sn (by decide), b_sn (by decide), b_ss, z 2 (by decide)]
  · rw [g1, b_sn (by decide), b_sn (by decide), b_sn (by decide), b_ss, z 3 (by decide)]
  · rw [g1, b_sn (by decide), b_ss, if_pos rfl]
  · rw [g1, b_ss, z 0 (by decide), z 1 (by decide), z 2 (by decide), z 3 (by decide)]
  · rw [g1, b_ss] at hi
    exact absurd hi (by omega)
  · rw [z q (by omega)] at hn
    exact absurd hn (by omega)
  · rw [g1, b_ss] at hi
    exact absurd hi (by omega)
  · rw [z 1 (by decide)] at hi
    exact absurd hi (by omega)
  · rw [z 2 (by decide)] at hi
    exact absurd hi (by omega)
  · rw [g2, b_rgi (by omega) (by omega), z _ (by omega)]
  · rw [z 3 (by decide)] at hi
    exact absurd hi (by omega)
  · rw [z 3 (by decide)] at hi
    exact absurd hi (by omega)
  · rw [g3, b_rgi (by omega) (by omega), z _ (by omega)]
  · rw [g4, b_rgi (by omega) (by omega), z _ (by omega)]
theorem x_R_b {m2 j2 : Nat → Nat → Nat} {E : Except (Nat × Nat) ((Nat → Nat) × (Nat → Nat) × Nat × Nat)} {r : A_R} (h1 : ∀ c, c < 15 ∨ 25 < c → m2 c = m c) (y : x_R m2 j2 w b n q E r) (hj : j2 = j) : x_R m j w b n q E r := by
  subst hj
  cases E with
  | error e =>
    obtain ⟨m3, j3, a1, a2, a3, a4, a5⟩ := y
    exact ⟨m3, j3, a1, fun c c1 c2 => (a2 c c1 c2).trans (h1 c c2), a3, a4, a5⟩
  | ok v =>
    obtain ⟨m3, j3, a1, a2, a3, a4, a5, a6, a7⟩ := y
    exact ⟨m3, j3, a1, a2, a3, fun c c1 c2 => (a4 c c1 c2).trans (h1 c c2), a5, by rw [a6, h1 1 (by decide)], by rw [a7, h1 1 (by decide)]⟩
theorem s_Fa_read (hX : l_X m j n q) (hb : m 2 = b) (hC : l_C m j n q 0) (hD : 11 ≤ D) : x_R m j w b n q (k_mk b n q (n + 1) (b_s (fun _ => 0) 4 1) N 0 0 0) (a_ex X tx a_T D 32 [.ref 15, .ref 1] (b_h m j w)) := by
  obtain ⟨d, rfl⟩ : ∃ d, D = d + 1 := ⟨D - 1, by omega⟩
  obtain ⟨g1, g2, g3, g4, g5⟩ := w_clr_c (m := m)
  have s1 := s_Fa_clear (X := X) (tx := tx) (D := d) (m := m) (j := j) (w := w) (by omega)
  have hn := hX.1
  have s2 := s_Fa_readL (X := X) (tx := tx) (d := d) (m := w_clr m) (j := j) (w := w) (l_S_0 (N := N) hX hb hC) (fun _ => b_ss) (by rw [g1, b_sn (by decide), b_sn (by decide), b_ss]) (by omega) (a_f1 + 1) (z_fu (by omega))
  rw [l_Fa_read_4] at s2
  refine x_R_b (m2 := w_clr m) (j2 := j) (fun c hc => g5 c (by omega) (by omega) (by omega) (by omega)) ?_ rfl
  have s3 : a_ex X tx a_T (d + 1) 32 [.ref 15, .ref 1] (b_h m j w) = a_rn X tx (a_ex X tx a_T d) (a_go X tx (a_ex X tx a_T d) k_Fa_read_0 a_f1) k_Fa_read_4 0 [.ref 15, .ref 1, .int (nI 0)] [] (b_h (w_clr m) j w) := by
    rw [e_Fa_read, q_Fa_read_0]
    simp (disch := omega) only [s1, ↓bc_15, ↓b_t0, ↓b_t1, ↓b_t2, ↓b_t3, ↓b_t4, ↓b_t5, ↓b_t6, Nat.zero_add, Nat.le_refl, b_rs, b_rn, b_r2, b_ss, b_sn, b_bt, b_bf, b_b0, b_b1, b_bw, b_shl, b_or, b_iv, b_jv, b_sI, b_sJ, ↓z_hl, z_b0, z_b1, z_b2, b_and1c, b_and1z, if_true, if_false, nI_add, pk_mul, b_cl, b_lt, b_le, b_eq, b_eq0, b_le0, b_0lt, b_0le, b_lt0]
  rw [s3]
  exact s2
theorem s_EM_leaveText (hD : 1 ≤ D) : a_ex X tx a_T D 193 [.ref 0] (b_h m j w) = some ((b_h (b_r (b_r m 0 (b_s (m 0) 14 (m 1 10))) 1 (b_s (m 1) 2 0)) j w), none) := by
  obtain ⟨d, rfl⟩ : ∃ d, D = d + 1 := ⟨D - 1, by omega⟩
  rw [e_EM_leaveText, q_EM_leaveText_0]
  simp (disch := omega) only [↓bc_0, ↓br_0_0, ↓bc_1, ↓b_t0, ↓b_t1, ↓b_t2, ↓b_t3, ↓b_t4, ↓b_t5, ↓b_t6, Nat.zero_add, Nat.le_refl, b_rs, b_rn, b_r2, b_ss, b_sn, b_bt, b_bf, b_b0, b_b1, b_bw, b_shl, b_or, b_iv, b_jv, b_sI, b_sJ, ↓z_hl, z_b0, z_b1, z_b2, b_and1c, b_and1z, if_true, if_false, nI_add, pk_mul, b_cl, b_lt, b_le, b_eq, b_eq0, b_le0, b_0lt, b_0le, b_lt0]
def w_lvt (m : Nat → Nat → Nat) : Nat → Nat → Nat := b_r (b_r m 0 (b_s (m 0) 14 (m 1 10))) 1 (b_s (m 1) 2 0)
/-- what a market answers -/
def x_MC (m j : Nat → Nat → Nat) (w : (Nat × Nat) × Bool) (E : Except (Nat × Nat) ((Nat → Nat) × (Nat → Nat) × Nat × Nat)) (r : A_R) : Prop := match E with
  | .ok y => ∃ m1 m2 m3 m4 j1, r = some (b_h (b_r (b_r m4 148 (b_s (b_s (m1 148) 0 0) 1 0)) 50 (b_s (b_s (m1 50) 1 0) 2 0)) (w_cpN j1 4 15) w, some (.int (nI y.2.2.2))) ∧ m2 = w_cpF m1 4 15 ∧ x_b2 (w_bga m2) m3 6 ∧ x_b3 m3 m4 10 ∧ c_F m1 15 y.1 ∧ r_N (m1 17) (m1 18) (m1 15 6) (j1 16) y.2.1 y.1 ∧ i_Q y.1 1 ∧ (∀ c, c ≠ 0 → c ≠ 1 → c < 15 ∨ 25 < c → m1 c = m c) ∧ (∀ c, c ≠ 1 → c ≠ 16 → j1 c = j c) ∧ m1 0 = b_s (m 0) 14 0 ∧ m1 1 2 = 0
  | .error e => ∃ m1 j1, r = some (b_h m1 j1 w, some (.int (nI 4294967295 - nI e.2))) ∧ (∀ c, c ≠ 0 → c ≠ 1 → c < 15 ∨ 25 < c → m1 c = m c) ∧ (∀ c, c ≠ 1 → c ≠ 16 → j1 c = j c) ∧ m1 0 = b_s (m 0) 14 e.1 ∧ m1 1 2 = 0
theorem s_EM_market (hn : m 1 2 = n) (hX : l_X m j n 900) (hD : 13 ≤ D) : x_MC m j w (k_mk (m 2) n 900 (n + 1) (b_s (fun _ => 0) 4 1) N 0 0 0) (a_ex X tx a_T D 154 [.ref 0] (b_h m j w)) := by
  obtain ⟨d, rfl⟩ : ∃ d, D = d + 1 := ⟨D - 1, by omega⟩
  obtain ⟨m1, j1, e1, e2, e3, e4, e5, e6, e7⟩ := s_Ta_begin (X := X) (tx := tx) (D := d) (m := m) (j := j) (w := w) (by omega) hn hX
  have s2 := s_Fa_read (X := X) (tx := tx) (D := d) (m := m1) (j := j1) (w := w) (b := m 2) (N := N) e2 (e4 2 (by decide)) e3 (by omega)
  cases hr : k_mk (m 2) n 900 (n + 1) (b_s (fun _ => 0) 4 1) N 0 0 0 with
  | error e =>
    rw [hr] at s2
    obtain ⟨m2, j2, f1, f2, f3, f4, f5⟩ := s2
    have s3 := s_EM_leaveText (X := X) (tx := tx) (D := d) (m := m2) (j := j2) (w := w) (by omega)
    refine ⟨w_lvt m2, j2, ?_, fun c c1 c2 c3 => ?_, fun c c1 c2 => (f3 c c1 c2).trans (e5 c c1), ?_, ?_⟩
    · rw [e_EM_market, q_EM_market_0]
      simp (disch := omega) only [e1, f1, s3, f5, ↓bc_0, ↓br_0_0, ↓bc_1, ↓br_0_2, ↓bc_15, ↓bc_4, ↓br_0_1, ↓br_0_3, ↓bc_26, ↓br_0_6, ↓bc_148, ↓br_0_5, ↓bc_50, ↓b_t0, ↓b_t1, ↓b_t2, ↓b_t3, ↓b_t4, ↓b_t5, ↓b_t6, Nat.zero_add, Nat.le_refl, b_rs, b_rn, b_r2, b_ss, b_sn, b_bt, b_bf, b_b0, b_b1, b_bw, b_shl, b_or, b_iv, b_jv, b_sI, b_sJ, ↓z_hl, z_b0, z_b1, z_b2, b_and1c, b_and1z, if_true, if_false, nI_add, pk_mul, b_cl, b_lt, b_le, b_eq, b_eq0, b_le0, b_0lt, b_0le, b_lt0]
      rfl
    · unfold w_lvt
      rw [b_rn c2, b_rn c1, f2 c c2 c3, e4 c c2]
    · unfold w_lvt
      rw [b_rn (by decide), b_rs, f4, f2 0 (by decide) (by decide), e4 0 (by decide)]
    · unfold w_lvt
      rw [b_rs, b_ss]
  | ok y =>
    rw [hr] at s2
    obtain ⟨m2, j2, f1, ⟨p, f2⟩, f3, f4, f5, f6, f7⟩ := s2
    have s3 := s_EM_leaveText (X := X) (tx := tx) (D := d) (m := m2) (j := j2) (w := w) (by omega)
    have s3 : a_ex X tx a_T d 193 [.ref 0] (b_h m2 j2 w) = some (b_h (w_lvt m2) j2 w, none) := s3
    have lv : ∀ c, c ≠ 0 → c ≠ 1 → w_lvt m2 c = m2 c := fun c c1 c2 => by unfold w_lvt; rw [b_rn c2, b_rn c1]
    have l0 : w_lvt m2 0 = b_s (m 0) 14 0 := by
      unfold w_lvt
      rw [b_rn (by decide), b_rs, f6, e6, f4 0 (by decide) (by decide), e4 0 (by decide)]
    have l1 : w_lvt m2 1 2 = 0 := by
      unfold w_lvt
      rw [b_rs, b_ss]
    generalize w_lvt m2 = M at s3 lv l0 l1
    have s4 := s_Fa_copy (X := X) (tx := tx) (D := d) (m := M) (j := j2) (w := w) (a := 4) (b := 15) (by unfold b_isfa; omega) (by unfold b_isfa; omega) (by omega) (by omega)
    obtain ⟨m3, m4, g1, g2, g3⟩ := s_Af_begin (X := X) (tx := tx) (D := d) (m := w_cpF M 4 15) (j := w_cpN j2 4 15) (w := w) (by omega)
    obtain ⟨x1, x2, x3, x4, x5, x6, x7, x8, x9, x10, x11, x12, x13, x14, x15, x16, x17, x18⟩ := id f2
    rw [if_neg (by decide)] at x9
    have hF : c_F M 15 y.1 := ⟨by rw [lv 15 (by decide) (by decide)]; exact x5, by rw [lv 15 (by decide) (by decide)]; exact x6, by rw [lv 15 (by decide) (by decide)]; exact x7, by rw [lv 15 (by decide) (by decide)]; exact x8, by rw [lv 15 (by decide) (by decide)]; exact x9, by rw [lv (15 + 4) (by decide) (by decide)]; exact x11, by rw [lv (15 + 5) (by decide) (by decide)]; exact x12, by rw [lv (15 + 6) (by decide) (by decide)]; exact x13, by rw [lv (15 + 7) (by decide) (by decide)]; exact x14, by rw [lv (15 + 8) (by decide) (by decide)]; exact x15, by rw [lv (15 + 9) (by decide) (by decide)]; exact x16, by rw [lv (15 + 10) (by decide) (by decide)]; exact x17⟩
    have hF4 := c_F_cp (a := 4) (b := 15) (by omega) x18.1 hF
    obtain ⟨h1, h2, h3, h4, h5, h6, h7⟩ := c_A_beg g2 g3 hF4 x18.1
    have o148 : m4 148 = M 148 := (h7 148 (by decide)).trans (w_cpF_fr 148 (by omega))
    have o50 : m4 50 = M 50 := (h7 50 (by decide)).trans (w_cpF_fr 50 (by omega))
    have o44 : m4 4 4 = y.2.2.2 := by
      rw [h7 4 (by decide)]
      have : w_cpF M 4 15 4 4 = M 15 4 := by
        unfold w_cpF
        simp (disch := omega) only [b_rn, b_rs, b_ss, b_sn]
      rw [this, lv 15 (by decide) (by decide)]
      exact f3
    have s5 : ∀ {m : Nat → Nat → Nat}, a_ex X tx a_T d 85 [.ref 148] (b_h m (w_cpN j2 4 15) w) = some (b_h (b_r m 148 (b_s (b_s (m 148) 0 0) 1 0)) (w_cpN j2 4 15) w, none) := fun {m} => by
      obtain ⟨d, rfl⟩ : ∃ d2, d = d2 + 1 := ⟨d - 1, by omega⟩
      rw [e_Se_clear, q_Se_clear_0]
      simp (disch := omega) only [↓bc_148, ↓b_t0, ↓b_t1, ↓b_t2, ↓b_t3, ↓b_t4, ↓b_t5, ↓b_t6, Nat.zero_add, Nat.le_refl, b_rs, b_rn, b_r2, b_ss, b_sn, b_bt, b_bf, b_b0, b_b1, b_bw, b_shl, b_or, b_iv, b_jv, b_sI, b_sJ, ↓z_hl, z_b0, z_b1, z_b2, b_and1c, b_and1z, if_true, if_false, nI_add, pk_mul, b_cl, b_lt, b_le, b_eq, b_eq0, b_le0, b_0lt, b_0le, b_lt0]
    have s6 := fun m => s_Pa_clear (X := X) (tx := tx) (D := d) (m := m) (j := w_cpN j2 4 15) (w := w) (by omega)
    refine ⟨M, w_cpF M 4 15, m3, m4, j2, ?_, rfl, g2, g3, hF, ?_, x18, fun c c1 c2 c3 => (lv c c1 c2).trans ((f4 c c2 c3).trans (e4 c c2)), fun c c1 c2 => (f5 c c1 c2).trans (e5 c c1), l0, l1⟩
    · rw [e_EM_market, q_EM_market_0]
      simp (disch := omega) only [e1, f1, s3, s4, g1, s5, s6, o148, o50, o44, Nat.one_ne_zero, ↓bc_0, ↓br_0_0, ↓bc_1, ↓br_0_2, ↓bc_15, ↓bc_4, ↓br_0_1, ↓br_0_3, ↓bc_26, ↓br_0_6, ↓bc_148, ↓br_0_5, ↓bc_50, ↓b_t0, ↓b_t1, ↓b_t2, ↓b_t3, ↓b_t4, ↓b_t5, ↓b_t6, Nat.zero_add, Nat.le_refl, b_rs, b_rn, b_r2, b_ss, b_sn, b_bt, b_bf, b_b0, b_b1, b_bw, b_shl, b_or, b_iv, b_jv, b_sI, b_sJ, ↓z_hl, z_b0, z_b1, z_b2, b_and1c, b_and1z, if_true, if_false, nI_add, pk_mul, b_cl, b_lt, b_le, b_eq, b_eq0, b_le0, b_0lt, b_0le, b_lt0]
    · rw [lv 17 (by decide) (by decide), lv 18 (by decide) (by decide), lv 15 (by decide) (by decide)]
      exact x10
end MC
