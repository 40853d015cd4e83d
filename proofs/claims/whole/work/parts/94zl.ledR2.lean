/-! LEDGERS: all lines; the class's side -/
def x_lg (m m2 j j2 : Nat → Nat → Nat) : Prop := (∀ c, c ≠ 1 → c < 156 ∨ 161 < c → m2 c = m c) ∧ (∀ c, c ≠ 1 → j2 c = j c) ∧ ∀ k, k ≠ 0 → m2 156 k = m 156 k
def x_LR (m j : Nat → Nat → Nat) (w : (Nat × Nat) × Bool) (E : Except (Nat × Nat) ((Nat → Nat × Nat × Nat) × Nat)) (r : A_R) : Prop := match E with
  | .ok v => ∃ m2 j2, r = some (b_h m2 j2 w, some (.int (nI 1))) ∧ x_lg m m2 j j2 ∧ m2 156 0 = v.2 ∧ v.2 ≤ 40 ∧ (∀ i, i < v.2 → x_ln m2 i (v.1 i) ∧ z_lv (m 236) (v.1 i)) ∧ m2 1 10 = m 1 10 ∧ m2 1 11 = m 1 11
  | .error e => ∃ m2 j2, r = some (b_h m2 j2 w, some (.int (nI 0))) ∧ x_lg m m2 j j2 ∧ m2 1 10 = e.1 ∧ m2 1 11 = e.2
section LR
variable {X : Nat × (Nat → Int32)} {tx : List Int32} {D d : Nat} {m j : Nat → Nat → Nat} {w : (Nat × Nat) × Bool} {b : Nat → Nat} {n q p : Nat} {N : Nat → Nat}
theorem x_LR_e {E : Except (Nat × Nat) ((Nat → Nat × Nat × Nat) × Nat)} {r : A_R} {e : Nat × Nat} {m2 j2 : Nat → Nat → Nat} (hE : E = .error e) (h1 : r = some (b_h m2 j2 w, some (.int (nI 0)))) (h2 : x_lg m m2 j j2) (h3 : m2 1 10 = e.1) (h4 : m2 1 11 = e.2) : x_LR m j w E r := by
  rw [hE]
  exact ⟨m2, j2, h1, h2, h3, h4⟩
theorem s_Le_read (hX : l_X m j n q) (h : l_C m j n q p) (hp : p ≤ n) (hb : m 2 = b) (hi : i_S (m 236)) (hN : r_N (m 6) (m 7) (m 4 6) (j 5) N (m 236)) (hD : 12 ≤ D) (L0 : Nat → Nat × Nat × Nat) : x_LR m j w (k_lg b n q N (m 236) (n + 1) L0 0 p) (a_ex X tx a_T D 96 [.ref 156, .ref 1, .ref 4] (b_h m j w)) := by
  obtain ⟨d, rfl⟩ : ∃ d, D = d + 1 := ⟨D - 1, by omega⟩
  have hT := i_S_T hi
  have hK := i_S_K hi
  have hM := i_S_M hi
  have hE := i_S_E hi
  have hc30 : m 4 6 ≤ 30 := by have := hN.1; omega
  have hn9 := hX.1
  have main : x_LR m j w (k_lg b n q N (m 236) (n + 1) L0 0 p) (a_go X tx (a_ex X tx a_T d) k_Le_read_0 (a_f1 + 1) 5 [.ref 156, .ref 1, .ref 4, .int (nI 0), .retAddr 0] (b_h (b_r m 156 (b_s (m 156) 0 0)) j w)) := by
    refine z_run (Q := x_LR m j w (k_lg b n q N (m 236) (n + 1) L0 0 p)) (fun c L y => ∃ m' j' L' ln' p' u, L = [.ref 156, .ref 1, .ref 4, .int (nI ln'), u] ∧ y = b_h m' j' w ∧ l_C m' j' n q p' ∧ p' ≤ n ∧ m' 156 0 = ln' ∧ ln' ≤ 40 ∧ (∀ i, i < ln' → x_ln m' i (L' i) ∧ z_lv (m 236) (L' i)) ∧ x_lg m m' j j' ∧ m' 1 10 = m 1 10 ∧ m' 1 11 = m 1 11 ∧ k_lg b n q N (m 236) (n + 1) L0 0 p = k_lg b n q N (m 236) c L' ln' p' ∧ n - p' < c) 10 ?_ (n + 1) _ _ ⟨b_r m 156 (b_s (m 156) 0 0), j, L0, 0, p, _, rfl, rfl, l_C_c h (b_rn (by decide)) (b_rn (by decide)) rfl, hp, by rw [b_rs, b_ss], by decide, fun i hi => absurd hi (Nat.not_lt_zero i), ⟨fun c c1 c2 => b_rn (by omega), fun _ _ => rfl, fun k hk => by rw [b_rs, b_sn hk]⟩, by rw [b_rn (by decide)], by rw [b_rn (by decide)], rfl, by omega⟩ _ (z_fu (by omega))
    rintro c L y ⟨m', j', L', ln', p', u, rfl, rfl, hC, hp', hl', hl40, hLL, hf, g10, g11, hk, hc⟩ f hF
    obtain ⟨c, rfl⟩ : ∃ c2, c = c2 + 1 := ⟨c - 1, by omega⟩
    have X' : l_X m' j' n q := l_X_fr hX (hf.1 2 (by decide) (by decide)) (hf.2.1 3 (by decide))
    have b' : m' 2 = b := (hf.1 2 (by decide) (by decide)).trans hb
    have hN' : r_N (m' 6) (m' 7) (m' 4 6) (j' 5) N (m 236) := by rw [hf.1 6 (by decide) (by decide), hf.1 7 (by decide) (by decide), hf.1 4 (by decide) (by decide), hf.2.1 5 (by decide)]; exact hN
    have hc' : m' 4 6 ≤ 30 := by rw [hf.1 4 (by decide) (by decide)]; exact hc30
    rw [l_Le_read_5, q_Le_read_5]
    have s1 := s_Ta_atEnd (X := X) (tx := tx) (D := d) (w := w) X' hC (by omega)
    rw [b'] at s1
    have s2 := s_Ta_takeEnd (X := X) (tx := tx) (D := d) (w := w) X' hC (by omega)
    rw [b'] at s2
    have n40 : ¬ (nI 40 < nI ln') := by rw [b_lt (by decide) (by omega)]; omega
    rw [if_neg n40]
    by_cases c1 : w_kd b n q p' = 3
    · left
      rw [hk, k_lg_1 c1]
      rw [decide_eq_true c1] at s1
      rw [if_pos c1, decide_eq_true c1] at s2
      refine ⟨m', j', ?_, hf, hl', hl40, hLL, g10, g11⟩
      simp (disch := omega) only [s1, s2, Nat.one_ne_zero, ↓bc_156, ↓bc_1, ↓b_t0, ↓b_t1, ↓b_t2, ↓b_t3, ↓b_t4, ↓b_t5, ↓b_t6, Nat.zero_add, Nat.le_refl, b_rs, b_rn, b_r2, b_ss, b_sn, b_bt, b_bf, b_b0, b_b1, b_bw, b_shl, b_or, b_iv, b_jv, b_sI, b_sJ, ↓z_hl, z_b0, z_b1, z_b2, b_and1c, b_and1z, if_true, if_false, nI_add, pk_mul, b_cl, b_lt, b_le, b_eq, b_eq0, b_le0, b_0lt, b_0le, b_lt0]
    · rw [decide_eq_false c1] at s1
      have s3 := s_Le_readFirst (X := X) (tx := tx) (D := d) (w := w) (fu := if ln' = 40 then 1 else 0) X' hC hN' hc' hT hl' hl40 (by omega) rfl
      rw [b'] at s3
      have pre : a_kc (b_h m' j' w) 1 10 (a_b1 (a_ex X tx a_T d 9 [.ref 1] (b_h m' j' w)) fun x4 h3 => (if x4 = 0 then a_kc h3 156 4 ((if (a_iv h3 156 0) < (nI 40) then a_rn X tx (a_ex X tx a_T d) (a_go X tx (a_ex X tx a_T d) k_Le_read_0 f) k_Le_read_18 0 [.ref 156, .ref 1, .ref 4, .int (nI ln'), u] [.int (nI 0)] h3 else a_rn X tx (a_ex X tx a_T d) (a_go X tx (a_ex X tx a_T d) k_Le_read_0 f) k_Le_read_18 0 [.ref 156, .ref 1, .ref 4, .int (nI ln'), u] [.int (nI 1)] h3)) else a_kc h3 1 10 (a_b1 (a_ex X tx a_T d 15 [.ref 1] h3) fun x6 h5 => (if x6 &&& 1 = x6 then some (h5, some (.int x6)) else none)))) = a_rn X tx (a_ex X tx a_T d) (a_go X tx (a_ex X tx a_T d) k_Le_read_0 f) k_Le_read_18 0 [.ref 156, .ref 1, .ref 4, .int (nI ln'), u] [.int (nI (if ln' = 40 then 1 else 0))] (b_h m' j' w) := by
        simp (disch := omega) only [s1, hl', ↓bc_156, ↓bc_1, ↓b_t0, ↓b_t1, ↓b_t2, ↓b_t3, ↓b_t4, ↓b_t5, ↓b_t6, Nat.zero_add, Nat.le_refl, b_rs, b_rn, b_r2, b_ss, b_sn, b_bt, b_bf, b_b0, b_b1, b_bw, b_shl, b_or, b_iv, b_jv, b_sI, b_sJ, ↓z_hl, z_b0, z_b1, z_b2, b_and1c, b_and1z, if_true, if_false, nI_add, pk_mul, b_cl, b_lt, b_le, b_eq, b_eq0, b_le0, b_0lt, b_0le, b_lt0]
        by_cases e : ln' = 40
        · rw [if_neg (by omega), if_pos e]
        · rw [if_pos (by omega), if_neg e]
      rw [pre, q_Le_read_18]
      cases h5 : k_ll b n q N (m 236) ln' p' with
      | error e =>
        left
        rw [h5] at s3
        obtain ⟨m2, j2, e1, e2⟩ := s3
        refine x_LR_e (hk.trans (k_lg_2 c1 h5)) (m2 := m2) (j2 := j2) ?_ ⟨fun x x1 x2 => (e2.1 x x1 (by omega)).trans (hf.1 x x1 x2), fun x x1 => (e2.2.1 x x1).trans (hf.2.1 x x1), fun k hk => by rw [e2.1 156 (by decide) (by decide)]; exact hf.2.2 k hk⟩ e2.2.2.1 e2.2.2.2
        simp (disch := omega) only [e1, ↓bc_156, ↓bc_1, ↓b_t0, ↓b_t1, ↓b_t2, ↓b_t3, ↓b_t4, ↓b_t5, ↓b_t6, Nat.zero_add, Nat.le_refl, b_rs, b_rn, b_r2, b_ss, b_sn, b_bt, b_bf, b_b0, b_b1, b_bw, b_shl, b_or, b_iv, b_jv, b_sI, b_sJ, ↓z_hl, z_b0, z_b1, z_b2, b_and1c, b_and1z, if_true, if_false, nI_add, pk_mul, b_cl, b_lt, b_le, b_eq, b_eq0, b_le0, b_0lt, b_0le, b_lt0]
      | ok y =>
        rw [h5] at s3
        obtain ⟨m2, j2, e1, o1, o2, o3, o4⟩ := s3
        have m22 : m2 2 = b := (o3.1 2 (by decide) (by decide)).trans b'
        have X2 : l_X m2 j2 n q := l_X_fr X' (o3.1 2 (by decide) (by decide)) (o3.2.1 3 (by decide))
        have s5 := s_Ta_takeSign (X := X) (tx := tx) (D := d) (m := m2) (j := j2) (w := w) X2 o1 (by omega) (c := 59) (by decide) (by decide)
        rw [m22] at s5
        obtain ⟨v1, v2⟩ := k_ll_ok h5
        have v40 := k_ll_40 h5
        cases h6 : k_sign b n q 59 y.2 with
        | error e =>
          left
          rw [h6] at s5
          obtain ⟨m3, j3, f1, f2⟩ := s5
          have e2 := x_lE_x o3 f2
          refine x_LR_e (hk.trans (k_lg_3 c1 h5 h6)) (m2 := m3) (j2 := j3) ?_ ⟨fun x x1 x2 => (e2.1 x x1 (by omega)).trans (hf.1 x x1 x2), fun x x1 => (e2.2.1 x x1).trans (hf.2.1 x x1), fun k hk => by rw [e2.1 156 (by decide) (by decide)]; exact hf.2.2 k hk⟩ e2.2.2.1 e2.2.2.2
          simp (disch := omega) only [e1, f1, Nat.one_ne_zero, ↓bc_156, ↓bc_1, ↓b_t0, ↓b_t1, ↓b_t2, ↓b_t3, ↓b_t4, ↓b_t5, ↓b_t6, Nat.zero_add, Nat.le_refl, b_rs, b_rn, b_r2, b_ss, b_sn, b_bt, b_bf, b_b0, b_b1, b_bw, b_shl, b_or, b_iv, b_jv, b_sI, b_sJ, ↓z_hl, z_b0, z_b1, z_b2, b_and1c, b_and1z, if_true, if_false, nI_add, pk_mul, b_cl, b_lt, b_le, b_eq, b_eq0, b_le0, b_0lt, b_0le, b_lt0]
        | ok p2 =>
          right
          rw [h6] at s5
          obtain ⟨m3, j3, f1, f2⟩ := s5
          have hs := k_sign_ok (by decide) h6
          have hs2 := hs.2.1
          have hs3 := hs.2.2
          have f3 : x_lf m' m3 j' j3 ln' := x_lf_t o3 (x_lf_o f2)
          have l3 : m3 156 0 = ln' := by rw [f3.1 156 (by decide) (by decide)]; exact hl'
          refine ⟨c, [.ref 156, .ref 1, .ref 4, .int (nI (ln' + 1)), .int (nI (if ln' = 40 then 1 else 0))], b_h (b_r m3 156 (b_s (m3 156) 0 (ln' + 1))) j3 w, by omega, ⟨_, j3, (fun i => if i = ln' then y.1 else L' i), ln' + 1, p2, _, rfl, rfl, l_C_c f2.1 (b_rn (by decide)) (b_rn (by decide)) rfl, hs3, by rw [b_rs, b_ss], by omega, fun i hi => ?_, ⟨fun x x1 x2 => by rw [b_rn (by omega), f3.1 x x1 (by omega)]; exact hf.1 x x1 x2, fun x x1 => (f3.2.1 x x1).trans (hf.2.1 x x1), fun k hk => by rw [b_rs, b_sn hk, f3.1 156 (by decide) (by decide)]; exact hf.2.2 k hk⟩, by rw [b_rn (by decide), f3.2.2.1]; exact g10, by rw [b_rn (by decide), f3.2.2.2.1]; exact g11, hk.trans (k_lg_4 c1 h5 h6), by omega⟩, ?_⟩
          · show x_ln _ i (if i = ln' then y.1 else L' i) ∧ z_lv (m 236) (if i = ln' then y.1 else L' i)
            have c5 : ∀ c, 157 ≤ c → c ≤ 161 → b_r m3 156 (b_s (m3 156) 0 (ln' + 1)) c = m2 c := fun c c1 c2 => by rw [b_rn (by omega), f2.2.1.1 c (by omega)]
            unfold x_ln
            rw [c5 157 (by decide) (by decide), c5 158 (by decide) (by decide), c5 159 (by decide) (by decide), c5 160 (by decide) (by decide), c5 161 (by decide) (by decide)]
            by_cases e : i = ln'
            · rw [if_pos e, e]
              exact ⟨o4, v1⟩
            · rw [if_neg e, o3.2.2.2.2 157 (by decide) (by decide) i e, o3.2.2.2.2 158 (by decide) (by decide) i e, o3.2.2.2.2 159 (by decide) (by decide) i e, o3.2.2.2.2 160 (by decide) (by decide) i e, o3.2.2.2.2 161 (by decide) (by decide) i e]
              exact hLL i (by omega)
          · simp (disch := omega) only [e1, f1, l3, Nat.one_ne_zero, ↓bc_156, ↓bc_1, ↓b_t0, ↓b_t1, ↓b_t2, ↓b_t3, ↓b_t4, ↓b_t5, ↓b_t6, Nat.zero_add, Nat.le_refl, b_rs, b_rn, b_r2, b_ss, b_sn, b_bt, b_bf, b_b0, b_b1, b_bw, b_shl, b_or, b_iv, b_jv, b_sI, b_sJ, ↓z_hl, z_b0, z_b1, z_b2, b_and1c, b_and1z, if_true, if_false, nI_add, pk_mul, b_cl, b_lt, b_le, b_eq, b_eq0, b_le0, b_0lt, b_0le, b_lt0]
  rw [l_Le_read_5] at main
  rw [e_Le_read, q_Le_read_0]
  simp (disch := omega) only [↓bc_156, ↓bc_1, ↓b_t0, ↓b_t1, ↓b_t2, ↓b_t3, ↓b_t4, ↓b_t5, ↓b_t6, Nat.zero_add, Nat.le_refl, b_rs, b_rn, b_r2, b_ss, b_sn, b_bt, b_bf, b_b0, b_b1, b_bw, b_shl, b_or, b_iv, b_jv, b_sI, b_sJ, ↓z_hl, z_b0, z_b1, z_b2, b_and1c, b_and1z, if_true, if_false, nI_add, pk_mul, b_cl, b_lt, b_le, b_eq, b_eq0, b_le0, b_0lt, b_0le, b_lt0]
  exact main
end LR
