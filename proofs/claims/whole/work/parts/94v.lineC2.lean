/-! TEXTS: the class reads a line, further -/
section LC
variable {X : Nat × (Nat → Int32)} {tx : List Int32} {D : Nat} {m j : Nat → Nat → Nat} {w : (Nat × Nat) × Bool} {b : Nat → Nat} {n q p : Nat} {s N : Nat → Nat} {dk : Nat}
/-- what a new name leaves -/
theorem w_nn_fr {m m2 m3 j j2 j3 : Nat → Nat → Nat} {so nu l n q p p2 : Nat} (e : o_C m m2 j j2 n q p) (o : o_C (w_nnM m2 so nu) m3 (w_nnJ m2 j2 l) j3 n q p2) : m3 15 = b_s (m 15) 6 (m 15 6 + 1) ∧ m3 17 = b_s (m 17) (m 15 6) so ∧ m3 18 = b_s (m 18) (m 15 6) nu ∧ j3 16 = b_s (j 16) (m 15 6) l ∧ (∀ c, c ≠ 1 → c ≠ 15 → c ≠ 17 → c ≠ 18 → m3 c = m c) ∧ (∀ c, c ≠ 1 → c ≠ 16 → j3 c = j c) ∧ m3 1 10 = m 1 10 ∧ m3 1 11 = m 1 11 := by
  obtain ⟨_, ⟨a1, a2, a3, a4⟩, _⟩ := e
  obtain ⟨_, ⟨b1, b2, b3, b4⟩, _⟩ := o
  have c15 := a1 15 (by decide)
  have c17 := a1 17 (by decide)
  have c18 := a1 18 (by decide)
  have c16 := a2 16 (by decide)
  refine ⟨?_, ?_, ?_, ?_, fun c x1 x2 x3 x4 => ?_, fun c x1 x2 => ?_, ?_, ?_⟩
  · rw [b1 15 (by decide)]; unfold w_nnM; rw [b_rs, c15]
  · rw [b1 17 (by decide)]; unfold w_nnM; rw [b_rn (by decide), b_rn (by decide), b_rs, c15, c17]
  · rw [b1 18 (by decide)]; unfold w_nnM; rw [b_rn (by decide), b_rs, c15, c18]
  · rw [b2 16 (by decide)]; unfold w_nnJ; rw [b_rs, c15, c16]
  · rw [b1 c x1]; unfold w_nnM; rw [b_rn x2, b_rn x4, b_rn x3]; exact a1 c x1
  · rw [b2 c x1]; unfold w_nnJ; rw [b_rn x2]; exact a2 c x1
  · rw [b3]; unfold w_nnM; rw [b_rn (by decide), b_rn (by decide), b_rn (by decide)]; exact a3
  · rw [b4]; unfold w_nnM; rw [b_rn (by decide), b_rn (by decide), b_rn (by decide)]; exact a4
theorem s_Fa_readKind (h : l_S m j b n q s N dk p) (h1 : w_kd b n q p = 1) (hD : 6 ≤ D) : x_L m j w b n q (k_lk b n q s N dk p) (a_ex X tx a_T D 34 [.ref 15, .ref 1] (b_h m j w)) := by
  obtain ⟨d, rfl⟩ : ∃ d, D = d + 1 := ⟨D - 1, by omega⟩
  obtain ⟨x1, x2, x3, x4, x5, x6, x7, x8, x9, x10, x11, x12, x13, x14, x15, x16, x17, x18⟩ := id h
  have hQ0 := fun y hy => i_Q_lk (g := N) (y := y) x18 x4 h1 hy
  have hK := i_S_K x18.1
  have hM := i_S_M x18.1
  have hT := i_S_T x18.1
  have hE := i_S_E x18.1
  have hcn := x10.1
  subst x2
  unfold k_lk at hQ0 ⊢
  by_cases c : s 0 = 6
  · rw [if_pos c]
    have sb := s_Ta_fail (X := X) (tx := tx) (D := d) (m := m) (j := j) (w := w) x3 (by omega) (k := 4)
    have y := x_C_fail (m := m) (j := j) (n := n) (q := q) (p := p) (k := 4)
    refine x_L_e rfl ?_ ⟨fun c c1 _ => y.1 c c1, fun _ _ _ => rfl, y.2.2.1, y.2.2.2⟩
    rw [e_Fa_readKind, q_Fa_readKind_0]
    simp (disch := omega) only [x5, sb, ↓bc_15, ↓bc_1, ↓b_t0, ↓b_t1, ↓b_t2, ↓b_t3, ↓b_t4, ↓b_t5, ↓b_t6, Nat.zero_add, Nat.le_refl, b_rs, b_rn, b_r2, b_ss, b_sn, b_bt, b_bf, b_b0, b_b1, b_bw, b_shl, b_or, b_iv, b_jv, b_sI, b_sJ, ↓z_hl, z_b0, z_b1, z_b2, b_and1c, b_and1z, if_true, if_false, nI_add, pk_mul, b_cl, b_lt, b_le, b_eq, b_eq0, b_le0, b_0lt, b_0le, b_lt0]
    rw [if_neg (by omega)]
  rw [if_neg c] at hQ0 ⊢
  obtain ⟨m2, j2, e1, e2⟩ := s_Ta_stepT (X := X) (tx := tx) (D := d) (m := m) (j := j) (w := w) x1 x3 (w_kd_in (by omega) (by omega)) (by omega)
  have n2 : m2 2 = m 2 := e2.2.1.1 2 (by decide)
  have n15 : m2 15 = m 15 := e2.2.1.1 15 (by decide)
  have y0 : m2 15 0 = s 0 := by rw [n15]; exact x5
  have s3 := s_Fa_takeNewName (X := X) (tx := tx) (D := d) (m := m2) (j := j2) (w := w) (N := N) (s := s) (l_X_fr x1 n2 (e2.2.1.2.1 3 (by decide))) e2.1 (by rw [n15, e2.2.1.1 17 (by decide), e2.2.1.1 18 (by decide), e2.2.1.2.1 16 (by decide)]; exact x10) (by rw [n15]; omega) (by omega) (so := 0) (nu := s 0) (by omega) (by omega)
  rw [n2] at s3
  cases h3 : k_fresh (m 2) n q N s (w_nx (m 2) n q p) with
  | error e =>
    rw [h3] at s3
    obtain ⟨m3, e4, e5⟩ := s3
    refine x_L_e rfl (m2 := m3) (j2 := j2) ?_ ⟨fun c c1 _ => (e5.1 c c1).trans (e2.2.1.1 c c1), fun c c1 _ => e2.2.1.2.1 c c1, e5.2.2.1, e5.2.2.2⟩
    rw [e_Fa_readKind, q_Fa_readKind_0]
    simp (disch := omega) only [x5, y0, e1, e4, ↓bc_15, ↓bc_1, ↓b_t0, ↓b_t1, ↓b_t2, ↓b_t3, ↓b_t4, ↓b_t5, ↓b_t6, Nat.zero_add, Nat.le_refl, b_rs, b_rn, b_r2, b_ss, b_sn, b_bt, b_bf, b_b0, b_b1, b_bw, b_shl, b_or, b_iv, b_jv, b_sI, b_sJ, ↓z_hl, z_b0, z_b1, z_b2, b_and1c, b_and1z, if_true, if_false, nI_add, pk_mul, b_cl, b_lt, b_le, b_eq, b_eq0, b_le0, b_0lt, b_0le, b_lt0]
    rw [if_pos (by omega)]
  | ok p2 =>
    rw [h3] at s3 hQ0
    obtain ⟨m3, j3, e4, e5, hl⟩ := s3
    have hf := k_fresh_ok h3
    obtain ⟨z1, z2, z3, z4, z5, z6, z7, z8⟩ := w_nn_fr e2 e5
    have hQ := hQ0 _ rfl
    have y3 : m3 15 0 = s 0 := by rw [z1, b_sn (by decide)]; exact x5
    have hn := r_N_new x10 (by omega) hK hM hT (q := 0) (by decide) (fun _ => by omega) (fun x => absurd x (by decide)) (fun x => absurd x (by decide)) hl hf.2.1
    have hz : ∀ k, k ≠ 0 → b_s s 0 (s 0 + 1) k = s k := fun k hk => b_sn hk
    refine x_L_o rfl (m2 := b_r m3 15 (b_s (m3 15) 0 (s 0 + 1))) (j2 := j3) ?_ ⟨l_X_fr x1 ((b_rn (by decide)).trans (z5 2 (by decide) (by decide) (by decide) (by decide))) (z6 3 (by decide) (by decide)), (b_rn (by decide)).trans (z5 2 (by decide) (by decide) (by decide) (by decide)), l_C_c e5.1 (b_rn (by decide)) (b_rn (by decide)) rfl, hQ.2.2, ?_, ?_, ?_, ?_, ?_, ?_, ?_, ?_, ?_, ?_, ?_, ?_, ?_, hQ.1⟩ ⟨fun c c1 c2 => (b_rn (by omega)).trans (z5 c c1 (by omega) (by omega) (by omega)), z6, by rw [b_rs, b_sn (by decide), z1, b_sn (by decide)], by rw [b_rn (by decide)]; exact z7, by rw [b_rn (by decide)]; exact z8⟩
    · rw [e_Fa_readKind, q_Fa_readKind_0]
      simp (disch := omega) only [x5, y0, y3, e1, e4, Nat.one_ne_zero, ↓bc_15, ↓bc_1, ↓b_t0, ↓b_t1, ↓b_t2, ↓b_t3, ↓b_t4, ↓b_t5, ↓b_t6, Nat.zero_add, Nat.le_refl, b_rs, b_rn, b_r2, b_ss, b_sn, b_bt, b_bf, b_b0, b_b1, b_bw, b_shl, b_or, b_iv, b_jv, b_sI, b_sJ, ↓z_hl, z_b0, z_b1, z_b2, b_and1c, b_and1z, if_true, if_false, nI_add, pk_mul, b_cl, b_lt, b_le, b_eq, b_eq0, b_le0, b_0lt, b_0le, b_lt0]
      rw [if_pos (by omega)]
    · show b_r m3 15 (b_s (m3 15) 0 (s 0 + 1)) 15 0 = b_s s 0 (s 0 + 1) 0
      rw [b_rs, b_ss, b_ss]
    · rw [b_rs, b_sn (by decide), z1, b_sn (by decide)]; exact x6.trans (hz 1 (by decide)).symm
    · rw [b_rs, b_sn (by decide), z1, b_sn (by decide)]; exact x7.trans (hz 2 (by decide)).symm
    · rw [b_rs, b_sn (by decide), z1, b_sn (by decide)]; exact x8.trans (hz 3 (by decide)).symm
    · rw [b_rs, b_sn (by decide), z1, b_sn (by decide)]
      show _ = if dk = 0 then 4294967295 else b_s s 0 (s 0 + 1) 4
      rw [hz 4 (by decide)]; exact x9
    · rw [b_rs, b_rn (by decide), b_rn (by decide), b_sn (by decide), z1, b_ss, z2, z3, z4]
      have b0 : w_base 0 + s 0 = s 0 := Nat.zero_add _
      rw [b0] at hn
      exact hn
    · intro i hi
      rw [b_rn (by decide), z5 19 (by decide) (by decide) (by decide) (by decide)]
      exact (x11 i (by have hi : i < b_s s 0 (s 0 + 1) 1 := hi; rw [hz 1 (by decide)] at hi; exact hi)).trans (hz (5 + i) (by omega)).symm
    · intro i hi
      rw [b_rn (by decide), z5 20 (by decide) (by decide) (by decide) (by decide)]
      exact (x12 i (by have hi : i < b_s s 0 (s 0 + 1) 2 := hi; rw [hz 2 (by decide)] at hi; exact hi)).trans (hz (11 + i) (by omega)).symm
    · intro t ht k hk
      rw [b_rn (by decide), z5 21 (by decide) (by decide) (by decide) (by decide)]
      exact (x13 t ht k hk).trans (hz (19 + 6 * t + k) (by omega)).symm
    · intro i hi
      rw [b_rn (by decide), z5 22 (by decide) (by decide) (by decide) (by decide)]
      exact (x14 i (by have hi : i < b_s s 0 (s 0 + 1) 3 := hi; rw [hz 3 (by decide)] at hi; exact hi)).trans (hz (67 + i) (by omega)).symm
    · intro i hi
      rw [b_rn (by decide), z5 23 (by decide) (by decide) (by decide) (by decide)]
      exact (x15 i (by have hi : i < b_s s 0 (s 0 + 1) 3 := hi; rw [hz 3 (by decide)] at hi; exact hi)).trans (hz (77 + i) (by omega)).symm
    · intro t ht k hk
      rw [b_rn (by decide), z5 24 (by decide) (by decide) (by decide) (by decide)]
      exact (x16 t ht k hk).trans (hz (87 + 6 * t + k) (by omega)).symm
    · intro i hi
      rw [b_rn (by decide), z5 25 (by decide) (by decide) (by decide) (by decide)]
      exact (x17 i hi).trans (hz (147 + i) (by omega)).symm
end LC
