/-! TEXTS: the class reads amounts -/
def x_A (m j : Nat → Nat → Nat) (w : (Nat × Nat) × Bool) (n q A fr to : Nat) (E : Except (Nat × Nat) ((Nat → Nat) × Nat)) (r : A_R) : Prop := match E with
  | .ok y => ∃ m2 j2, r = some (b_h m2 j2 w, some (.int (nI 1))) ∧ l_C m2 j2 n q y.2 ∧ y.2 ≤ n ∧ (∀ c, c ≠ 1 → c ≠ A → m2 c = m c) ∧ (∀ c, c ≠ 1 → j2 c = j c) ∧ (∀ k, k < 6 → m2 A (fr + k) = y.1 (to + k)) ∧ (∀ x, x < fr ∨ fr + 6 ≤ x → m2 A x = m A x) ∧ m2 1 10 = m 1 10 ∧ m2 1 11 = m 1 11
  | .error e => ∃ m2 j2, r = some (b_h m2 j2 w, some (.int (nI 0))) ∧ (∀ c, c ≠ 1 → c ≠ A → m2 c = m c) ∧ (∀ c, c ≠ 1 → j2 c = j c) ∧ m2 1 10 = e.1 ∧ m2 1 11 = e.2
theorem x_A_e {m j m2 j2 : Nat → Nat → Nat} {w : (Nat × Nat) × Bool} {n q A fr to : Nat} {E : Except (Nat × Nat) ((Nat → Nat) × Nat)} {r : A_R} {e : Nat × Nat} (hE : E = .error e) (h1 : r = some (b_h m2 j2 w, some (.int (nI 0)))) (h2 : ∀ c, c ≠ 1 → c ≠ A → m2 c = m c) (h3 : ∀ c, c ≠ 1 → j2 c = j c) (h4 : m2 1 10 = e.1) (h5 : m2 1 11 = e.2) : x_A m j w n q A fr to E r := by
  rw [hE]
  exact ⟨m2, j2, h1, h2, h3, h4, h5⟩
section AC
variable {X : Nat × (Nat → Int32)} {tx : List Int32} {D : Nat} {m j : Nat → Nat → Nat} {w : (Nat × Nat) × Bool} {n q p : Nat} {N s : Nat → Nat}
theorem s_Fa_readAmounts21 (hX : l_X m j n q) (h : l_C m j n q p) (hN : r_N (m 17) (m 18) (m 15 6) (j 16) N s) (hc : m 15 6 ≤ 30) (hp : p ≤ n) (hK : s 0 ≤ 6) (hD : 6 ≤ D) {fr to : Nat} (hf : fr + 6 ≤ 48) (ha : ∀ k, k < 6 → m 21 (fr + k) = s (to + k)) (hb : ∀ k, k < 6 → s (to + k) < 1000) : x_A m j w n q 21 fr to (k_am (m 2) n q N (s 0) to 7 s p) (a_ex X tx a_T D 38 [.ref 15, .ref 1, .ref 21, .int (nI fr)] (b_h m j w)) := by
  obtain ⟨d, rfl⟩ : ∃ d, D = d + 1 := ⟨D - 1, by omega⟩
  rw [e_Fa_readAmounts, q_Fa_readAmounts_0, ← l_Fa_readAmounts_2]
  refine z_run (Q := x_A m j w n q 21 fr to (k_am (m 2) n q N (s 0) to 7 s p)) (fun c L y => ∃ m' j' s' p' i u5 u6, c + i = 7 ∧ L = [.ref 15, .ref 1, .ref 21, .int (nI fr), .int (nI i), u5, u6] ∧ y = b_h m' j' w ∧ l_C m' j' n q p' ∧ p' ≤ n ∧ (∀ c, c ≠ 1 → c ≠ 21 → m' c = m c) ∧ (∀ c, c ≠ 1 → j' c = j c) ∧ (∀ k, k < 6 → m' 21 (fr + k) = s' (to + k)) ∧ (∀ k, k < 6 → s' (to + k) < 1000) ∧ (∀ x, x < fr ∨ fr + 6 ≤ x → m' 21 x = m 21 x) ∧ m' 1 10 = m 1 10 ∧ m' 1 11 = m 1 11 ∧ k_am (m 2) n q N (s 0) to 7 s p = k_am (m 2) n q N (s 0) to c s' p' ∧ w_zn s' to < c) 0 ?_ 7 _ _ ⟨m, j, s, p, 0, _, _, rfl, rfl, rfl, h, hp, fun _ _ _ => rfl, fun _ _ => rfl, ha, hb, fun _ _ => rfl, rfl, rfl, rfl, by have := w_zn_le (s := s) (to := to); omega⟩ _ (z_fu (by omega))
  rintro c L y ⟨m', j', s', p', i, u5, u6, hi, rfl, rfl, hC, hp', fm, fj, ga, gb, gx, g10, g11, hk, hz⟩ f _
  obtain ⟨c, rfl⟩ : ∃ c2, c = c2 + 1 := ⟨c - 1, by omega⟩
  rw [l_Fa_readAmounts_2, q_Fa_readAmounts_2]
  have m2 : m' 2 = m 2 := fm 2 (by decide) (by decide)
  have hX' : l_X m' j' n q := l_X_fr hX m2 (fj 3 (by decide))
  have hN' : r_N (m' 17) (m' 18) (m' 15 6) (j' 16) N s := by
    rw [fm 17 (by decide) (by decide), fm 18 (by decide) (by decide), fm 15 (by decide) (by decide), fj 16 (by decide)]
    exact hN
  have hc' : m' 15 6 ≤ 30 := by rw [fm 15 (by decide) (by decide)]; exact hc
  have s1 := s_Ta_atSign (X := X) (tx := tx) (D := d) (m := m') (j := j') (w := w) hX' hC (by omega) (c := 59) (by omega)
  have s2 := s_Fa_lookUp15 (X := X) (tx := tx) (D := d) (m := m') (j := j') (w := w) hX' hC hN' hc' (by omega) (so := 0) (by omega)
  have b0 : (fun k => N (w_base 0 + k)) = N := funext fun k => by show N (0 + k) = N k; rw [Nat.zero_add]
  rw [b0, m2] at s2
  rw [m2] at s1
  by_cases c1 : w_kd (m 2) n q p' = 59
  · left
    rw [decide_eq_true c1] at s1
    rw [hk, k_am_1 c1]
    refine ⟨m', j', ?_, hC, hp', fm, fj, ga, gx, g10, g11⟩
    simp (disch := omega) only [s1, Nat.one_ne_zero, ↓bc_1, ↓bc_15, ↓b_t0, ↓b_t1, ↓b_t2, ↓b_t3, ↓b_t4, ↓b_t5, ↓b_t6, Nat.zero_add, Nat.le_refl, b_rs, b_rn, b_r2, b_ss, b_sn, b_bt, b_bf, b_b0, b_b1, b_bw, b_shl, b_or, b_iv, b_jv, b_sI, b_sJ, ↓z_hl, z_b0, z_b1, z_b2, b_and1c, b_and1z, if_true, if_false, nI_add, pk_mul, b_cl, b_lt, b_le, b_eq, b_eq0, b_le0, b_0lt, b_0le, b_lt0]
    rw [if_neg (by omega)]
  · rw [decide_eq_false c1] at s1
    cases h2 : k_look (m 2) n q N (s 0) p' with
    | error e =>
      left
      rw [h2] at s2
      obtain ⟨m3, e1, e2⟩ := s2
      refine x_A_e (hk.trans (k_am_2 c1 h2)) (m2 := m3) (j2 := j') ?_ (fun c x1 x2 => (e2.1 c x1).trans (fm c x1 x2)) fj e2.2.2.1 e2.2.2.2
      simp (disch := omega) only [s1, e1, b_lt0M, ↓bc_1, ↓bc_15, ↓b_t0, ↓b_t1, ↓b_t2, ↓b_t3, ↓b_t4, ↓b_t5, ↓b_t6, Nat.zero_add, Nat.le_refl, b_rs, b_rn, b_r2, b_ss, b_sn, b_bt, b_bf, b_b0, b_b1, b_bw, b_shl, b_or, b_iv, b_jv, b_sI, b_sJ, ↓z_hl, z_b0, z_b1, z_b2, b_and1c, b_and1z, if_true, if_false, nI_add, pk_mul, b_cl, b_lt, b_le, b_eq, b_eq0, b_le0, b_0lt, b_0le, b_lt0]
      rw [if_neg (by omega)]
    | ok k =>
      rw [h2] at s2
      obtain ⟨e1, e2, e3⟩ := s2
      have hk1 := k_am_lo h2
      have a1 : m' 21 (fr + k) = s' (to + k) := ga k (by omega)
      have a2 := gb k (by omega)
      by_cases c2 : s' (to + k) = 0
      · rw [c2] at a1
        obtain ⟨m3, j3, f1, f2⟩ := s_Ta_stepT (X := X) (tx := tx) (D := d) (m := m') (j := j') (w := w) hX' hC (by rw [m2]; exact w_kd_in (by omega) (by omega)) (by omega)
        rw [m2] at f2
        have n2 : m3 2 = m 2 := (f2.2.1.1 2 (by decide)).trans m2
        have s3 := s_Ta_takeNumber (X := X) (tx := tx) (D := d) (m := m3) (j := j3) (w := w) (l_X_fr hX' (f2.2.1.1 2 (by decide)) (f2.2.1.2.1 3 (by decide))) f2.1 (by omega) (lo := 1) (hi := 9) (by omega) (by omega)
        rw [n2] at s3
        cases h3 : k_num (m 2) n q 1 9 (w_nx (m 2) n q p') with
        | error e =>
          left
          rw [h3] at s3
          obtain ⟨m4, j4, e4, e5⟩ := s3
          refine x_A_e (hk.trans (k_am_4 c1 h2 c2 h3)) (m2 := m4) (j2 := j4) ?_ (fun c x1 x2 => (e5.1 c x1).trans ((f2.2.1.1 c x1).trans (fm c x1 x2))) (fun c x1 => (e5.2.1 c x1).trans ((f2.2.1.2.1 c x1).trans (fj c x1))) e5.2.2.1 e5.2.2.2
          simp (disch := omega) only [s1, e1, a1, f1, e4, ↓bc_21, ↓bx_21, bl_21, ↓bc_1, ↓bc_15, ↓b_t0, ↓b_t1, ↓b_t2, ↓b_t3, ↓b_t4, ↓b_t5, ↓b_t6, Nat.zero_add, Nat.le_refl, b_rs, b_rn, b_r2, b_ss, b_sn, b_bt, b_bf, b_b0, b_b1, b_bw, b_shl, b_or, b_iv, b_jv, b_sI, b_sJ, ↓z_hl, z_b0, z_b1, z_b2, b_and1c, b_and1z, if_true, if_false, nI_add, pk_mul, b_cl, b_lt, b_le, b_eq, b_eq0, b_le0, b_0lt, b_0le, b_lt0]
          rw [if_neg (by omega), if_pos (by omega)]
        | ok r =>
          right
          rw [h3] at s3
          obtain ⟨m4, j4, e4, e5, e6, e7, e8⟩ := s3
          have q4 : m4 21 = m' 21 := (e5.2.1.1 21 (by decide)).trans (f2.2.1.1 21 (by decide))
          have hz2 := w_zn_s (s := s') (to := to) (k := k) (v := r.1) (by omega) c2 (by omega)
          refine ⟨c, [.ref 15, .ref 1, .ref 21, .int (nI fr), .int (nI (i + 1)), .int (nI k), .int (nI r.1)], b_h (b_r m4 21 (b_s (m4 21) (fr + k) r.1)) j4 w, Nat.lt_succ_self c, ⟨b_r m4 21 (b_s (m4 21) (fr + k) r.1), j4, b_s s' (to + k) r.1, r.2, i + 1, _, _, by omega, rfl, rfl, l_C_c e5.1 (b_rn (by decide)) (b_rn (by decide)) rfl, e5.2.2, fun c x1 x2 => (b_rn x2).trans ((e5.2.1.1 c x1).trans ((f2.2.1.1 c x1).trans (fm c x1 x2))), fun c x1 => (e5.2.1.2.1 c x1).trans ((f2.2.1.2.1 c x1).trans (fj c x1)), fun k2 hk2 => ?_, fun k2 hk2 => ?_, fun x hx => ?_, ?_, ?_, hk.trans (k_am_5 c1 h2 c2 h3), by omega⟩, ?_⟩
          · rw [b_rs]
            by_cases y : k2 = k
            · rw [y, b_ss, b_ss]
            · rw [b_sn (by omega), b_sn (by omega), q4]; exact ga k2 hk2
          · by_cases y : k2 = k
            · rw [y, b_ss]; omega
            · rw [b_sn (by omega)]; exact gb k2 hk2
          · rw [b_rs, b_sn (by omega), q4]; exact gx x hx
          · rw [b_rn (by decide), e5.2.1.2.2.1, f2.2.1.2.2.1]; exact g10
          · rw [b_rn (by decide), e5.2.1.2.2.2, f2.2.1.2.2.2]; exact g11
          · simp (disch := omega) only [s1, e1, a1, f1, e4, ↓bc_21, ↓bx_21, bl_21, ↓bc_1, ↓bc_15, ↓b_t0, ↓b_t1, ↓b_t2, ↓b_t3, ↓b_t4, ↓b_t5, ↓b_t6, Nat.zero_add, Nat.le_refl, b_rs, b_rn, b_r2, b_ss, b_sn, b_bt, b_bf, b_b0, b_b1, b_bw, b_shl, b_or, b_iv, b_jv, b_sI, b_sJ, ↓z_hl, z_b0, z_b1, z_b2, b_and1c, b_and1z, if_true, if_false, nI_add, pk_mul, b_cl, b_lt, b_le, b_eq, b_eq0, b_le0, b_0lt, b_0le, b_lt0]
            rw [if_neg (by omega), if_pos (by omega), if_neg (by omega)]
      · left
        have sb := s_Ta_fail (X := X) (tx := tx) (D := d) (m := m') (j := j') (w := w) hC (by omega) (k := 3)
        rw [m2] at sb
        refine x_A_e (hk.trans (k_am_3 c1 h2 c2)) (m2 := b_r m' 1 (b_s (b_s (m' 1) 10 3) 11 (w_pl (m 2) n q p'))) (j2 := j') ?_ (fun c x1 x2 => (b_rn x1).trans (fm c x1 x2)) fj (by rw [b_rs, b_sn (by decide), b_ss]) (by rw [b_rs, b_ss])
        simp (disch := omega) only [s1, e1, a1, sb, ↓bc_21, ↓bx_21, bl_21, ↓bc_1, ↓bc_15, ↓b_t0, ↓b_t1, ↓b_t2, ↓b_t3, ↓b_t4, ↓b_t5, ↓b_t6, Nat.zero_add, Nat.le_refl, b_rs, b_rn, b_r2, b_ss, b_sn, b_bt, b_bf, b_b0, b_b1, b_bw, b_shl, b_or, b_iv, b_jv, b_sI, b_sJ, ↓z_hl, z_b0, z_b1, z_b2, b_and1c, b_and1z, if_true, if_false, nI_add, pk_mul, b_cl, b_lt, b_le, b_eq, b_eq0, b_le0, b_0lt, b_0le, b_lt0]
        rw [if_neg (by omega), if_pos (by omega), if_neg c2]
theorem s_Fa_readAmounts24 (hX : l_X m j n q) (h : l_C m j n q p) (hN : r_N (m 17) (m 18) (m 15 6) (j 16) N s) (hc : m 15 6 ≤ 30) (hp : p ≤ n) (hK : s 0 ≤ 6) (hD : 6 ≤ D) {fr to : Nat} (hf : fr + 6 ≤ 60) (ha : ∀ k, k < 6 → m 24 (fr + k) = s (to + k)) (hb : ∀ k, k < 6 → s (to + k) < 1000) : x_A m j w n q 24 fr to (k_am (m 2) n q N (s 0) to 7 s p) (a_ex X tx a_T D 38 [.ref 15, .ref 1, .ref 24, .int (nI fr)] (b_h m j w)) := by
  obtain ⟨d, rfl⟩ : ∃ d, D = d + 1 := ⟨D - 1, by omega⟩
  rw [e_Fa_readAmounts, q_Fa_readAmounts_0, ← l_Fa_readAmounts_2]
  refine z_run (Q := x_A m j w n q 24 fr to (k_am (m 2) n q N (s 0) to 7 s p)) (fun c L y => ∃ m' j' s' p' i u5 u6, c + i = 7 ∧ L = [.ref 15, .ref 1, .ref 24, .int (nI fr), .int (nI i), u5, u6] ∧ y = b_h m' j' w ∧ l_C m' j' n q p' ∧ p' ≤ n ∧ (∀ c, c ≠ 1 → c ≠ 24 → m' c = m c) ∧ (∀ c, c ≠ 1 → j' c = j c) ∧ (∀ k, k < 6 → m' 24 (fr + k) = s' (to + k)) ∧ (∀ k, k < 6 → s' (to + k) < 1000) ∧ (∀ x, x < fr ∨ fr + 6 ≤ x → m' 24 x = m 24 x) ∧ m' 1 10 = m 1 10 ∧ m' 1 11 = m 1 11 ∧ k_am (m 2) n q N (s 0) to 7 s p = k_am (m 2) n q N (s 0) to c s' p' ∧ w_zn s' to < c) 0 ?_ 7 _ _ ⟨m, j, s, p, 0, _, _, rfl, rfl, rfl, h, hp, fun _ _ _ => rfl, fun _ _ => rfl, ha, hb, fun _ _ => rfl, rfl, rfl, rfl, by have := w_zn_le (s := s) (to := to); omega⟩ _ (z_fu (by omega))
  rintro c L y ⟨m', j', s', p', i, u5, u6, hi, rfl, rfl, hC, hp', fm, fj, ga, gb, gx, g10, g11, hk, hz⟩ f _
  obtain ⟨c, rfl⟩ : ∃ c2, c = c2 + 1 := ⟨c - 1, by omega⟩
  rw [l_Fa_readAmounts_2, q_Fa_readAmounts_2]
  have m2 : m' 2 = m 2 := fm 2 (by decide) (by decide)
  have hX' : l_X m' j' n q := l_X_fr hX m2 (fj 3 (by decide))
  have hN' : r_N (m' 17) (m' 18) (m' 15 6) (j' 16) N s := by
    rw [fm 17 (by decide) (by decide), fm 18 (by decide) (by decide), fm 15 (by decide) (by decide), fj 16 (by decide)]
    exact hN
  have hc' : m' 15 6 ≤ 30 := by rw [fm 15 (by decide) (by decide)]; exact hc
  have s1 := s_Ta_atSign (X := X) (tx := tx) (D := d) (m := m') (j := j') (w := w) hX' hC (by omega) (c := 59) (by omega)
  have s2 := s_Fa_lookUp15 (X := X) (tx := tx) (D := d) (m := m') (j := j') (w := w) hX' hC hN' hc' (by omega) (so := 0) (by omega)
  have b0 : (fun k => N (w_base 0 + k)) = N := funext fun k => by show N (0 + k) = N k; rw [Nat.zero_add]
  rw [b0, m2] at s2
  rw [m2] at s1
  by_cases c1 : w_kd (m 2) n q p' = 59
  · left
    rw [decide_eq_true c1] at s1
    rw [hk, k_am_1 c1]
    refine ⟨m', j', ?_, hC, hp', fm, fj, ga, gx, g10, g11⟩
    simp (disch := omega) only [s1, Nat.one_ne_zero, ↓bc_1, ↓bc_15, ↓b_t0, ↓b_t1, ↓b_t2, ↓b_t3, ↓b_t4, ↓b_t5, ↓b_t6, Nat.zero_add, Nat.le_refl, b_rs, b_rn, b_r2, b_ss, b_sn, b_bt, b_bf, b_b0, b_b1, b_bw, b_shl, b_or, b_iv, b_jv, b_sI, b_sJ, ↓z_hl, z_b0, z_b1, z_b2, b_and1c, b_and1z, if_true, if_false, nI_add, pk_mul, b_cl, b_lt, b_le, b_eq, b_eq0, b_le0, b_0lt, b_0le, b_lt0]
    rw [if_neg (by omega)]
  · rw [decide_eq_false c1] at s1
    cases h2 : k_look (m 2) n q N (s 0) p' with
    | error e =>
      left
      rw [h2] at s2
      obtain ⟨m3, e1, e2⟩ := s2
      refine x_A_e (hk.trans (k_am_2 c1 h2)) (m2 := m3) (j2 := j') ?_ (fun c x1 x2 => (e2.1 c x1).trans (fm c x1 x2)) fj e2.2.2.1 e2.2.2.2
      simp (disch := omega) only [s1, e1, b_lt0M, ↓bc_1, ↓bc_15, ↓b_t0, ↓b_t1, ↓b_t2, ↓b_t3, ↓b_t4, ↓b_t5, ↓b_t6, Nat.zero_add, Nat.le_refl, b_rs, b_rn, b_r2, b_ss, b_sn, b_bt, b_bf, b_b0, b_b1, b_bw, b_shl, b_or, b_iv, b_jv, b_sI, b_sJ, ↓z_hl, z_b0, z_b1, z_b2, b_and1c, b_and1z, if_true, if_false, nI_add, pk_mul, b_cl, b_lt, b_le, b_eq, b_eq0, b_le0, b_0lt, b_0le, b_lt0]
      rw [if_neg (by omega)]
    | ok k =>
      rw [h2] at s2
      obtain ⟨e1, e2, e3⟩ := s2
      have hk1 := k_am_lo h2
      have a1 : m' 24 (fr + k) = s' (to + k) := ga k (by omega)
      have a2 := gb k (by omega)
      by_cases c2 : s' (to + k) = 0
      · rw [c2] at a1
        obtain ⟨m3, j3, f1, f2⟩ := s_Ta_stepT (X := X) (tx := tx) (D := d) (m := m') (j := j') (w := w) hX' hC (by rw [m2]; exact w_kd_in (by omega) (by omega)) (by omega)
        rw [m2] at f2
        have n2 : m3 2 = m 2 := (f2.2.1.1 2 (by decide)).trans m2
        have s3 := s_Ta_takeNumber (X := X) (tx := tx) (D := d) (m := m3) (j := j3) (w := w) (l_X_fr hX' (f2.2.1.1 2 (by decide)) (f2.2.1.2.1 3 (by decide))) f2.1 (by omega) (lo := 1) (hi := 9) (by omega) (by omega)
        rw [n2] at s3
        cases h3 : k_num (m 2) n q 1 9 (w_nx (m 2) n q p') with
        | error e =>
          left
          rw [h3] at s3
          obtain ⟨m4, j4, e4, e5⟩ := s3
          refine x_A_e (hk.trans (k_am_4 c1 h2 c2 h3)) (m2 := m4) (j2 := j4) ?_ (fun c x1 x2 => (e5.1 c x1).trans ((f2.2.1.1 c x1).trans (fm c x1 x2))) (fun c x1 => (e5.2.1 c x1).trans ((f2.2.1.2.1 c x1).trans (fj c x1))) e5.2.2.1 e5.2.2.2
          simp (disch := omega) only [s1, e1, a1, f1, e4, ↓bc_24, ↓bx_24, bl_24, ↓bc_1, ↓bc_15, ↓b_t0, ↓b_t1, ↓b_t2, ↓b_t3, ↓b_t4, ↓b_t5, ↓b_t6, Nat.zero_add, Nat.le_refl, b_rs, b_rn, b_r2, b_ss, b_sn, b_bt, b_bf, b_b0, b_b1, b_bw, b_shl, b_or, b_iv, b_jv, b_sI, b_sJ, ↓z_hl, z_b0, z_b1, z_b2, b_and1c, b_and1z, if_true, if_false, nI_add, pk_mul, b_cl, b_lt, b_le, b_eq, b_eq0, b_le0, b_0lt, b_0le, b_lt0]
          rw [if_neg (by omega), if_pos (by omega)]
        | ok r =>
          right
          rw [h3] at s3
          obtain ⟨m4, j4, e4, e5, e6, e7, e8⟩ := s3
          have q4 : m4 24 = m' 24 := (e5.2.1.1 24 (by decide)).trans (f2.2.1.1 24 (by decide))
          have hz2 := w_zn_s (s := s') (to := to) (k := k) (v := r.1) (by omega) c2 (by omega)
          refine ⟨c, [.ref 15, .ref 1, .ref 24, .int (nI fr), .int (nI (i + 1)), .int (nI k), .int (nI r.1)], b_h (b_r m4 24 (b_s (m4 24) (fr + k) r.1)) j4 w, Nat.lt_succ_self c, ⟨b_r m4 24 (b_s (m4 24) (fr + k) r.1), j4, b_s s' (to + k) r.1, r.2, i + 1, _, _, by omega, rfl, rfl, l_C_c e5.1 (b_rn (by decide)) (b_rn (by decide)) rfl, e5.2.2, fun c x1 x2 => (b_rn x2).trans ((e5.2.1.1 c x1).trans ((f2.2.1.1 c x1).trans (fm c x1 x2))), fun c x1 => (e5.2.1.2.1 c x1).trans ((f2.2.1.2.1 c x1).trans (fj c x1)), fun k2 hk2 => ?_, fun k2 hk2 => ?_, fun x hx => ?_, ?_, ?_, hk.trans (k_am_5 c1 h2 c2 h3), by omega⟩, ?_⟩
          · rw [b_rs]
            by_cases y : k2 = k
            · rw [y, b_ss, b_ss]
            · rw [b_sn (by omega), b_sn (by omega), q4]; exact ga k2 hk2
          · by_cases y : k2 = k
            · rw [y, b_ss]; omega
            · rw [b_sn (by omega)]; exact gb k2 hk2
          · rw [b_rs, b_sn (by omega), q4]; exact gx x hx
          · rw [b_rn (by decide), e5.2.1.2.2.1, f2.2.1.2.2.1]; exact g10
          · rw [b_rn (by decide), e5.2.1.2.2.2, f2.2.1.2.2.2]; exact g11
          · simp (disch := omega) only [s1, e1, a1, f1, e4, ↓bc_24, ↓bx_24, bl_24, ↓bc_1, ↓bc_15, ↓b_t0, ↓b_t1, ↓b_t2, ↓b_t3, ↓b_t4, ↓b_t5, ↓b_t6, Nat.zero_add, Nat.le_refl, b_rs, b_rn, b_r2, b_ss, b_sn, b_bt, b_bf, b_b0, b_b1, b_bw, b_shl, b_or, b_iv, b_jv, b_sI, b_sJ, ↓z_hl, z_b0, z_b1, z_b2, b_and1c, b_and1z, if_true, if_false, nI_add, pk_mul, b_cl, b_lt, b_le, b_eq, b_eq0, b_le0, b_0lt, b_0le, b_lt0]
            rw [if_neg (by omega), if_pos (by omega), if_neg (by omega)]
      · left
        have sb := s_Ta_fail (X := X) (tx := tx) (D := d) (m := m') (j := j') (w := w) hC (by omega) (k := 3)
        rw [m2] at sb
        refine x_A_e (hk.trans (k_am_3 c1 h2 c2)) (m2 := b_r m' 1 (b_s (b_s (m' 1) 10 3) 11 (w_pl (m 2) n q p'))) (j2 := j') ?_ (fun c x1 x2 => (b_rn x1).trans (fm c x1 x2)) fj (by rw [b_rs, b_sn (by decide), b_ss]) (by rw [b_rs, b_ss])
        simp (disch := omega) only [s1, e1, a1, sb, ↓bc_24, ↓bx_24, bl_24, ↓bc_1, ↓bc_15, ↓b_t0, ↓b_t1, ↓b_t2, ↓b_t3, ↓b_t4, ↓b_t5, ↓b_t6, Nat.zero_add, Nat.le_refl, b_rs, b_rn, b_r2, b_ss, b_sn, b_bt, b_bf, b_b0, b_b1, b_bw, b_shl, b_or, b_iv, b_jv, b_sI, b_sJ, ↓z_hl, z_b0, z_b1, z_b2, b_and1c, b_and1z, if_true, if_false, nI_add, pk_mul, b_cl, b_lt, b_le, b_eq, b_eq0, b_le0, b_0lt, b_0le, b_lt0]
        rw [if_neg (by omega), if_pos (by omega), if_neg c2]
end AC
