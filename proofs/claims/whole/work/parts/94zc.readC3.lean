/-! TEXTS: the class reads a market: the call -/
section RM
variable {X : Nat × (Nat → Int32)} {tx : List Int32} {D d : Nat} {m j : Nat → Nat → Nat} {w : (Nat × Nat) × Bool} {b : Nat → Nat} {n q p : Nat} {s N : Nat → Nat} {dk : Nat}
theorem w_kd_n (h : n ≤ p) : w_kd b n q p = if n ≤ q then 3 else 4 := by
  have := (w_sk_le (b := b) (u := min n q) (p := p)).1
  unfold w_kd
  rw [if_neg (by show ¬ (w_sk b (min n q) p < min n q); omega)]
theorem s_Fa_readL (h : l_S m j b n q s N dk p) (hu : dk = 0 → s 4 = 1) (hl : m 15 4 = 0) (hd : 10 ≤ d) : ∀ F, 10 + (n + 1) < F → x_R m j w b n q (k_mk b n q (n + 1) s N dk 0 p) (a_go X tx (a_ex X tx a_T d) k_Fa_read_0 F 4 [.ref 15, .ref 1, .int (nI 0)] (b_h m j w)) := by
  intro F hF
  refine z_run (Q := x_R m j w b n q (k_mk b n q (n + 1) s N dk 0 p)) (fun c L y => ∃ m' j' s' N' dk' ln' p' i, L = [.ref 15, .ref 1, .int (nI i)] ∧ y = b_h m' j' w ∧ l_S m' j' b n q s' N' dk' p' ∧ (dk' = 0 → s' 4 = 1) ∧ m' 15 4 = ln' ∧ ln' ≤ p' ∧ i ≤ p' ∧ (∀ c, c ≠ 1 → c < 15 ∨ 25 < c → m' c = m c) ∧ (∀ c, c ≠ 1 → c ≠ 16 → j' c = j c) ∧ m' 1 10 = m 1 10 ∧ m' 1 11 = m 1 11 ∧ k_mk b n q (n + 1) s N dk 0 p = k_mk b n q c s' N' dk' ln' p' ∧ n - p' < c) 10 ?_ (n + 1) _ _ ⟨m, j, s, N, dk, 0, p, 0, rfl, rfl, h, hu, hl, Nat.zero_le _, Nat.zero_le _, fun _ _ _ => rfl, fun _ _ _ => rfl, rfl, rfl, rfl, by omega⟩ F hF
  rintro c L y ⟨m', j', s', N', dk', ln', p', i, rfl, rfl, hS, hu', hl', hlp, hip, fm, fj, g10, g11, hk, hc⟩ f _
  obtain ⟨c, rfl⟩ : ∃ c2, c = c2 + 1 := ⟨c - 1, by omega⟩
  have hX := l_S_x hS
  have hb := l_S_b hS
  have hC := l_S_l hS
  have hp := l_S_p hS
  have hn : n ≤ 940 := hX.1
  have hU := l_S_U hS
  have hQ := l_S_q hS
  have h4 : s' 4 ≤ 9 := i_S_U hQ.1
  rw [l_Fa_read_4, q_Fa_read_4]
  have hle : nI 940 ≤ nI i ↔ 940 ≤ i := by rw [b_le (by decide) (by omega)]
  have s1 := s_Ta_atEnd (X := X) (tx := tx) (D := d) (w := w) hX hC (by omega)
  rw [hb] at s1
  have hD := l_S_du hS hu'
  have s2 := s_Ta_takeEnd (X := X) (tx := tx) (D := d) (w := w) (l_S_x hD) (l_S_l hD) (by omega)
  rw [l_S_b hD] at s2
  have s3 : dk' ≠ 0 → a_ex X tx a_T d 15 [.ref 1] (b_h m' j' w) = some (b_h (if w_kd b n q p' = 3 then m' else b_r m' 1 (b_s (b_s (m' 1) 10 1) 11 (w_pl b n q p'))) j' w, some (.int (nI (b_b (decide (w_kd b n q p' = 3)))))) := fun c => by
    rw [if_neg c] at s2
    exact s2
  have s4 : dk' = 0 → a_ex X tx a_T d 15 [.ref 1] (b_h (b_r m' 15 (b_s (m' 15) 5 1)) j' w) = some (b_h (if w_kd b n q p' = 3 then b_r m' 15 (b_s (m' 15) 5 1) else b_r (b_r m' 15 (b_s (m' 15) 5 1)) 1 (b_s (b_s ((b_r m' 15 (b_s (m' 15) 5 1)) 1) 10 1) 11 (w_pl b n q p'))) j' w, some (.int (nI (b_b (decide (w_kd b n q p' = 3)))))) := fun c => by
    rw [if_pos c] at s2
    exact s2
  clear s2
  by_cases c1 : w_kd b n q p' = 3
  · left
    rw [hk, k_mk_1 c1]
    rw [decide_eq_true c1] at s1
    refine x_R_o rfl (m2 := if dk' = 0 then b_r m' 15 (b_s (m' 15) 5 1) else m') (j2 := j') ?_ hD ?_ ?_ fj ?_ ?_
    · by_cases c2 : dk' = 0
      · rw [if_pos c2] at hU
        have t := s4 c2
        rw [if_pos c1, decide_eq_true c1] at t
        rw [if_pos c2]
        by_cases c3 : 940 ≤ i
        · rw [if_pos (hle.mpr c3)]
          simp (disch := omega) only [s1, hU, t, Nat.one_ne_zero, ↓bc_15, ↓bc_1, ↓b_t0, ↓b_t1, ↓b_t2, ↓b_t3, ↓b_t4, ↓b_t5, ↓b_t6, Nat.zero_add, Nat.le_refl, b_rs, b_rn, b_r2, b_ss, b_sn, b_bt, b_bf, b_b0, b_b1, b_bw, b_shl, b_or, b_iv, b_jv, b_sI, b_sJ, ↓z_hl, z_b0, z_b1, z_b2, b_and1c, b_and1z, if_true, if_false, nI_add, pk_mul, b_cl, b_lt, b_le, b_eq, b_eq0, b_le0, b_0lt, b_0le, b_lt0]
        · rw [if_neg (fun x => c3 (hle.mp x))]
          simp (disch := omega) only [s1, hU, t, Nat.one_ne_zero, ↓bc_15, ↓bc_1, ↓b_t0, ↓b_t1, ↓b_t2, ↓b_t3, ↓b_t4, ↓b_t5, ↓b_t6, Nat.zero_add, Nat.le_refl, b_rs, b_rn, b_r2, b_ss, b_sn, b_bt, b_bf, b_b0, b_b1, b_bw, b_shl, b_or, b_iv, b_jv, b_sI, b_sJ, ↓z_hl, z_b0, z_b1, z_b2, b_and1c, b_and1z, if_true, if_false, nI_add, pk_mul, b_cl, b_lt, b_le, b_eq, b_eq0, b_le0, b_0lt, b_0le, b_lt0]
      · rw [if_neg c2] at hU
        have t := s3 c2
        rw [if_pos c1, decide_eq_true c1] at t
        rw [if_neg c2]
        have h9 : s' 4 ≠ 4294967295 := by omega
        by_cases c3 : 940 ≤ i
        · rw [if_pos (hle.mpr c3)]
          simp (disch := omega) only [s1, hU, t, Nat.one_ne_zero, ↓bc_15, ↓bc_1, ↓b_t0, ↓b_t1, ↓b_t2, ↓b_t3, ↓b_t4, ↓b_t5, ↓b_t6, Nat.zero_add, Nat.le_refl, b_rs, b_rn, b_r2, b_ss, b_sn, b_bt, b_bf, b_b0, b_b1, b_bw, b_shl, b_or, b_iv, b_jv, b_sI, b_sJ, ↓z_hl, z_b0, z_b1, z_b2, b_and1c, b_and1z, if_true, if_false, nI_add, pk_mul, b_cl, b_lt, b_le, b_eq, b_eq0, b_le0, b_0lt, b_0le, b_lt0]
          rw [if_neg h9]
        · rw [if_neg (fun x => c3 (hle.mp x))]
          simp (disch := omega) only [s1, hU, t, Nat.one_ne_zero, ↓bc_15, ↓bc_1, ↓b_t0, ↓b_t1, ↓b_t2, ↓b_t3, ↓b_t4, ↓b_t5, ↓b_t6, Nat.zero_add, Nat.le_refl, b_rs, b_rn, b_r2, b_ss, b_sn, b_bt, b_bf, b_b0, b_b1, b_bw, b_shl, b_or, b_iv, b_jv, b_sI, b_sJ, ↓z_hl, z_b0, z_b1, z_b2, b_and1c, b_and1z, if_true, if_false, nI_add, pk_mul, b_cl, b_lt, b_le, b_eq, b_eq0, b_le0, b_0lt, b_0le, b_lt0]
          rw [if_neg h9]
    · show _ = ln'
      by_cases c2 : dk' = 0
      · rw [if_pos c2, b_rs, b_sn (by decide)]; exact hl'
      · rw [if_neg c2]; exact hl'
    · intro x x1 x2
      by_cases c2 : dk' = 0
      · rw [if_pos c2, b_rn (by omega)]; exact fm x x1 x2
      · rw [if_neg c2]; exact fm x x1 x2
    · by_cases c2 : dk' = 0
      · rw [if_pos c2, b_rn (by decide)]; exact g10
      · rw [if_neg c2]; exact g10
    · by_cases c2 : dk' = 0
      · rw [if_pos c2, b_rn (by decide)]; exact g11
      · rw [if_neg c2]; exact g11
  · rw [decide_eq_false c1] at s1
    by_cases c3 : 940 ≤ i
    · left
      have hn9 : n ≤ p' := by omega
      have ck := w_kd_n (b := b) (q := q) hn9
      have ck4 : w_kd b n q p' = 4 := by
        by_cases x : n ≤ q
        · rw [if_pos x] at ck; exact absurd ck c1
        · rw [if_neg x] at ck; exact ck
      have cy : w_ky b n q p' = 4294967295 := by unfold w_ky; exact if_neg (by omega)
      have hE : k_line b n q s' N' dk' p' = .error (1, w_pl b n q p') := by
        unfold k_line
        rw [cy, if_neg (by decide), if_neg (by decide), if_neg (by decide), if_neg (by decide), if_neg (by decide), if_neg (by decide)]
      rw [hk, k_mk_2 c1 hE]
      rw [if_pos (hle.mpr c3)]
      by_cases c2 : dk' = 0
      · rw [if_pos c2] at hU
        have t := s4 c2
        rw [if_neg c1, decide_eq_false c1] at t
        refine x_R_e rfl (m2 := b_r (b_r m' 15 (b_s (m' 15) 5 1)) 1 (b_s (b_s ((b_r m' 15 (b_s (m' 15) 5 1)) 1) 10 1) 11 (w_pl b n q p'))) (j2 := j') ?_ ⟨fun x x1 x2 => by rw [b_rn x1, b_rn (by omega)]; exact fm x x1 x2, fj, by rw [b_rs, b_sn (by decide), b_ss], by rw [b_rs, b_ss]⟩
        simp (disch := omega) only [s1, hU, t, Nat.one_ne_zero, ↓bc_15, ↓bc_1, ↓b_t0, ↓b_t1, ↓b_t2, ↓b_t3, ↓b_t4, ↓b_t5, ↓b_t6, Nat.zero_add, Nat.le_refl, b_rs, b_rn, b_r2, b_ss, b_sn, b_bt, b_bf, b_b0, b_b1, b_bw, b_shl, b_or, b_iv, b_jv, b_sI, b_sJ, ↓z_hl, z_b0, z_b1, z_b2, b_and1c, b_and1z, if_true, if_false, nI_add, pk_mul, b_cl, b_lt, b_le, b_eq, b_eq0, b_le0, b_0lt, b_0le, b_lt0]
      · rw [if_neg c2] at hU
        have t := s3 c2
        rw [if_neg c1, decide_eq_false c1] at t
        have h9 : s' 4 ≠ 4294967295 := by omega
        refine x_R_e rfl (m2 := b_r m' 1 (b_s (b_s (m' 1) 10 1) 11 (w_pl b n q p'))) (j2 := j') ?_ ⟨fun x x1 x2 => by rw [b_rn x1]; exact fm x x1 x2, fj, by rw [b_rs, b_sn (by decide), b_ss], by rw [b_rs, b_ss]⟩
        simp (disch := omega) only [s1, hU, t, Nat.one_ne_zero, ↓bc_15, ↓bc_1, ↓b_t0, ↓b_t1, ↓b_t2, ↓b_t3, ↓b_t4, ↓b_t5, ↓b_t6, Nat.zero_add, Nat.le_refl, b_rs, b_rn, b_r2, b_ss, b_sn, b_bt, b_bf, b_b0, b_b1, b_bw, b_shl, b_or, b_iv, b_jv, b_sI, b_sJ, ↓z_hl, z_b0, z_b1, z_b2, b_and1c, b_and1z, if_true, if_false, nI_add, pk_mul, b_cl, b_lt, b_le, b_eq, b_eq0, b_le0, b_0lt, b_0le, b_lt0]
        rw [if_neg h9]
    · rw [if_neg (fun x => c3 (hle.mp x))]
      have sl := s_Fa_readLine (X := X) (tx := tx) (D := d) (w := w) hS (by omega)
      cases h5 : k_line b n q s' N' dk' p' with
      | error e =>
        left
        rw [h5] at sl
        obtain ⟨m2, j2, e1, e2⟩ := sl
        rw [hk, k_mk_2 c1 h5]
        refine x_R_e rfl (m2 := m2) (j2 := j2) ?_ ⟨fun x x1 x2 => (e2.1 x x1 x2).trans (fm x x1 x2), fun x x1 x2 => (e2.2.1 x x1 x2).trans (fj x x1 x2), e2.2.2.1, e2.2.2.2⟩
        simp (disch := omega) only [s1, e1, ↓bc_15, ↓bc_1, ↓b_t0, ↓b_t1, ↓b_t2, ↓b_t3, ↓b_t4, ↓b_t5, ↓b_t6, Nat.zero_add, Nat.le_refl, b_rs, b_rn, b_r2, b_ss, b_sn, b_bt, b_bf, b_b0, b_b1, b_bw, b_shl, b_or, b_iv, b_jv, b_sI, b_sJ, ↓z_hl, z_b0, z_b1, z_b2, b_and1c, b_and1z, if_true, if_false, nI_add, pk_mul, b_cl, b_lt, b_le, b_eq, b_eq0, b_le0, b_0lt, b_0le, b_lt0]
      | ok y =>
        rw [h5] at sl
        obtain ⟨m2, j2, e1, e2, e3⟩ := sl
        have hy := i_Q_line hQ hp h5
        have hu2 := k_line_4 h5 hu'
        have s5 := s_Ta_takeSign (X := X) (tx := tx) (D := d) (w := w) (l_S_x e2) (l_S_l e2) (by omega) (c := 59) (by decide) (by decide)
        rw [l_S_b e2] at s5
        cases h6 : k_sign b n q 59 y.2.2.2 with
        | error e =>
          left
          rw [h6] at s5
          obtain ⟨m3, j3, f1, f2⟩ := s5
          rw [hk, k_mk_3 c1 h5 h6]
          refine x_R_e rfl (m2 := m3) (j2 := j3) ?_ ⟨fun x x1 x2 => (f2.1 x x1).trans ((e3.1 x x1 x2).trans (fm x x1 x2)), fun x x1 x2 => (f2.2.1 x x1).trans ((e3.2.1 x x1 x2).trans (fj x x1 x2)), f2.2.2.1, f2.2.2.2⟩
          simp (disch := omega) only [s1, e1, f1, Nat.one_ne_zero, ↓bc_15, ↓bc_1, ↓b_t0, ↓b_t1, ↓b_t2, ↓b_t3, ↓b_t4, ↓b_t5, ↓b_t6, Nat.zero_add, Nat.le_refl, b_rs, b_rn, b_r2, b_ss, b_sn, b_bt, b_bf, b_b0, b_b1, b_bw, b_shl, b_or, b_iv, b_jv, b_sI, b_sJ, ↓z_hl, z_b0, z_b1, z_b2, b_and1c, b_and1z, if_true, if_false, nI_add, pk_mul, b_cl, b_lt, b_le, b_eq, b_eq0, b_le0, b_0lt, b_0le, b_lt0]
        | ok p2 =>
          right
          rw [h6] at s5
          obtain ⟨m3, j3, f1, f2, f3, f4⟩ := s5
          have hs := k_sign_ok (by decide) h6
          have l15 : m3 15 4 = ln' := by rw [f3.1 15 (by decide), e3.2.2.1]; exact hl'
          have hS3 : l_S (b_r m3 15 (b_s (m3 15) 4 (ln' + 1))) j3 b n q y.1 y.2.1 y.2.2.1 p2 := by
            obtain ⟨x1, x2, x3, x4, x5, x6, x7, x8, x9, x10, x11, x12, x13, x14, x15, x16, x17, x18⟩ := id e2
            have r : ∀ c, c ≠ 15 → c ≠ 1 → b_r m3 15 (b_s (m3 15) 4 (ln' + 1)) c = m2 c := fun c c1 c2 => (b_rn c1).trans (f3.1 c c2)
            have r15 : b_r m3 15 (b_s (m3 15) 4 (ln' + 1)) 15 = b_s (m2 15) 4 (ln' + 1) := by rw [b_rs, f3.1 15 (by decide)]
            refine ⟨l_X_fr x1 (r 2 (by decide) (by decide)) (f3.2.1 3 (by decide)), (r 2 (by decide) (by decide)).trans x2, l_C_c f2 (b_rn (by decide)) (b_rn (by decide)) rfl, hs.2.2, by rw [r15, b_sn (by decide)]; exact x5, by rw [r15, b_sn (by decide)]; exact x6, by rw [r15, b_sn (by decide)]; exact x7, by rw [r15, b_sn (by decide)]; exact x8, by rw [r15, b_sn (by decide)]; exact x9, by rw [r15, r 17 (by decide) (by decide), r 18 (by decide) (by decide), f3.2.1 16 (by decide), b_sn (by decide)]; exact x10, ?_, ?_, ?_, ?_, ?_, ?_, ?_, x18⟩
            · rw [r 19 (by decide) (by decide)]; exact x11
            · rw [r 20 (by decide) (by decide)]; exact x12
            · rw [r 21 (by decide) (by decide)]; exact x13
            · rw [r 22 (by decide) (by decide)]; exact x14
            · rw [r 23 (by decide) (by decide)]; exact x15
            · rw [r 24 (by decide) (by decide)]; exact x16
            · rw [r 25 (by decide) (by decide)]; exact x17
          have hp2 := hs.2.1
          have hp3 := hs.2.2
          have hy2 := hy.2.1
          refine ⟨c, [.ref 15, .ref 1, .int (nI (i + 1))], b_h (b_r m3 15 (b_s (m3 15) 4 (ln' + 1))) j3 w, by omega, ⟨_, _, y.1, y.2.1, y.2.2.1, ln' + 1, p2, i + 1, rfl, rfl, hS3, hu2, by rw [b_rs, b_ss], by omega, by omega, fun x x1 x2 => by rw [b_rn (by omega), f3.1 x x1, e3.1 x x1 x2]; exact fm x x1 x2, fun x x1 x2 => by rw [f3.2.1 x x1, e3.2.1 x x1 x2]; exact fj x x1 x2, by rw [b_rn (by decide), f3.2.2.1, e3.2.2.2.1]; exact g10, by rw [b_rn (by decide), f3.2.2.2, e3.2.2.2.2]; exact g11, hk.trans (k_mk_4 c1 h5 h6), by omega⟩, ?_⟩
          simp (disch := omega) only [s1, e1, f1, l15, Nat.one_ne_zero, ↓bc_15, ↓bc_1, ↓b_t0, ↓b_t1, ↓b_t2, ↓b_t3, ↓b_t4, ↓b_t5, ↓b_t6, Nat.zero_add, Nat.le_refl, b_rs, b_rn, b_r2, b_ss, b_sn, b_bt, b_bf, b_b0, b_b1, b_bw, b_shl, b_or, b_iv, b_jv, b_sI, b_sJ, ↓z_hl, z_b0, z_b1, z_b2, b_and1c, b_and1z, if_true, if_false, nI_add, pk_mul, b_cl, b_lt, b_le, b_eq, b_eq0, b_le0, b_0lt, b_0le, b_lt0]
end RM
