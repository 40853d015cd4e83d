/-! TEXTS: the class reads a line -/
def l_S (m j : Nat → Nat → Nat) (b : Nat → Nat) (n q : Nat) (s N : Nat → Nat) (dk p : Nat) : Prop :=
  (l_X m j n q) ∧
  (m 2 = b) ∧
  (l_C m j n q p) ∧
  (p ≤ n) ∧
  (m 15 0 = s 0) ∧
  (m 15 1 = s 1) ∧
  (m 15 2 = s 2) ∧
  (m 15 3 = s 3) ∧
  (m 15 5 = if dk = 0 then 4294967295 else s 4) ∧
  (r_N (m 17) (m 18) (m 15 6) (j 16) N s) ∧
  (∀ i, i < s 1 → m 19 i = s (5 + i)) ∧
  (∀ t, t < s 2 → m 20 t = s (11 + t)) ∧
  (∀ t, t < 8 → ∀ k, k < 6 → m 21 (t * 6 + k) = s (19 + 6 * t + k)) ∧
  (∀ e, e < s 3 → m 22 e = s (67 + e)) ∧
  (∀ e, e < s 3 → m 23 e = s (77 + e)) ∧
  (∀ e, e < 10 → ∀ k, k < 6 → m 24 (e * 6 + k) = s (87 + 6 * e + k)) ∧
  (∀ e, e < 10 → m 25 e = s (147 + e)) ∧
  (i_Q s dk)
theorem l_S_x {m j : Nat → Nat → Nat} {b : Nat → Nat} {n q : Nat} {s N : Nat → Nat} {dk p : Nat} (h : l_S m j b n q s N dk p) : l_X m j n q := h.1
theorem l_S_b {m j : Nat → Nat → Nat} {b : Nat → Nat} {n q : Nat} {s N : Nat → Nat} {dk p : Nat} (h : l_S m j b n q s N dk p) : m 2 = b := h.2.1
theorem l_S_l {m j : Nat → Nat → Nat} {b : Nat → Nat} {n q : Nat} {s N : Nat → Nat} {dk p : Nat} (h : l_S m j b n q s N dk p) : l_C m j n q p := h.2.2.1
theorem l_S_p {m j : Nat → Nat → Nat} {b : Nat → Nat} {n q : Nat} {s N : Nat → Nat} {dk p : Nat} (h : l_S m j b n q s N dk p) : p ≤ n := h.2.2.2.1
theorem l_S_K {m j : Nat → Nat → Nat} {b : Nat → Nat} {n q : Nat} {s N : Nat → Nat} {dk p : Nat} (h : l_S m j b n q s N dk p) : m 15 0 = s 0 := h.2.2.2.2.1
theorem l_S_M {m j : Nat → Nat → Nat} {b : Nat → Nat} {n q : Nat} {s N : Nat → Nat} {dk p : Nat} (h : l_S m j b n q s N dk p) : m 15 1 = s 1 := h.2.2.2.2.2.1
theorem l_S_T {m j : Nat → Nat → Nat} {b : Nat → Nat} {n q : Nat} {s N : Nat → Nat} {dk p : Nat} (h : l_S m j b n q s N dk p) : m 15 2 = s 2 := h.2.2.2.2.2.2.1
theorem l_S_E {m j : Nat → Nat → Nat} {b : Nat → Nat} {n q : Nat} {s N : Nat → Nat} {dk p : Nat} (h : l_S m j b n q s N dk p) : m 15 3 = s 3 := h.2.2.2.2.2.2.2.1
theorem l_S_U {m j : Nat → Nat → Nat} {b : Nat → Nat} {n q : Nat} {s N : Nat → Nat} {dk p : Nat} (h : l_S m j b n q s N dk p) : m 15 5 = if dk = 0 then 4294967295 else s 4 := h.2.2.2.2.2.2.2.2.1
theorem l_S_nm {m j : Nat → Nat → Nat} {b : Nat → Nat} {n q : Nat} {s N : Nat → Nat} {dk p : Nat} (h : l_S m j b n q s N dk p) : r_N (m 17) (m 18) (m 15 6) (j 16) N s := h.2.2.2.2.2.2.2.2.2.1
theorem l_S_ct {m j : Nat → Nat → Nat} {b : Nat → Nat} {n q : Nat} {s N : Nat → Nat} {dk p : Nat} (h : l_S m j b n q s N dk p) : ∀ i, i < s 1 → m 19 i = s (5 + i) := h.2.2.2.2.2.2.2.2.2.2.1
theorem l_S_wh {m j : Nat → Nat → Nat} {b : Nat → Nat} {n q : Nat} {s N : Nat → Nat} {dk p : Nat} (h : l_S m j b n q s N dk p) : ∀ t, t < s 2 → m 20 t = s (11 + t) := h.2.2.2.2.2.2.2.2.2.2.2.1
theorem l_S_ot {m j : Nat → Nat → Nat} {b : Nat → Nat} {n q : Nat} {s N : Nat → Nat} {dk p : Nat} (h : l_S m j b n q s N dk p) : ∀ t, t < 8 → ∀ k, k < 6 → m 21 (t * 6 + k) = s (19 + 6 * t + k) := h.2.2.2.2.2.2.2.2.2.2.2.2.1
theorem l_S_ht {m j : Nat → Nat → Nat} {b : Nat → Nat} {n q : Nat} {s N : Nat → Nat} {dk p : Nat} (h : l_S m j b n q s N dk p) : ∀ e, e < s 3 → m 22 e = s (67 + e) := h.2.2.2.2.2.2.2.2.2.2.2.2.2.1
theorem l_S_pt {m j : Nat → Nat → Nat} {b : Nat → Nat} {n q : Nat} {s N : Nat → Nat} {dk p : Nat} (h : l_S m j b n q s N dk p) : ∀ e, e < s 3 → m 23 e = s (77 + e) := h.2.2.2.2.2.2.2.2.2.2.2.2.2.2.1
theorem l_S_cl {m j : Nat → Nat → Nat} {b : Nat → Nat} {n q : Nat} {s N : Nat → Nat} {dk p : Nat} (h : l_S m j b n q s N dk p) : ∀ e, e < 10 → ∀ k, k < 6 → m 24 (e * 6 + k) = s (87 + 6 * e + k) := h.2.2.2.2.2.2.2.2.2.2.2.2.2.2.2.1
theorem l_S_fd {m j : Nat → Nat → Nat} {b : Nat → Nat} {n q : Nat} {s N : Nat → Nat} {dk p : Nat} (h : l_S m j b n q s N dk p) : ∀ e, e < 10 → m 25 e = s (147 + e) := h.2.2.2.2.2.2.2.2.2.2.2.2.2.2.2.2.1
theorem l_S_q {m j : Nat → Nat → Nat} {b : Nat → Nat} {n q : Nat} {s N : Nat → Nat} {dk p : Nat} (h : l_S m j b n q s N dk p) : i_Q s dk := h.2.2.2.2.2.2.2.2.2.2.2.2.2.2.2.2.2
def x_fr (m m2 j j2 : Nat → Nat → Nat) : Prop := (∀ c, c ≠ 1 → c < 15 ∨ 25 < c → m2 c = m c) ∧ (∀ c, c ≠ 1 → c ≠ 16 → j2 c = j c) ∧ m2 15 4 = m 15 4 ∧ m2 1 10 = m 1 10 ∧ m2 1 11 = m 1 11
def x_E (m m2 j j2 : Nat → Nat → Nat) (e : Nat × Nat) : Prop := (∀ c, c ≠ 1 → c < 15 ∨ 25 < c → m2 c = m c) ∧ (∀ c, c ≠ 1 → c ≠ 16 → j2 c = j c) ∧ m2 1 10 = e.1 ∧ m2 1 11 = e.2
def x_L (m j : Nat → Nat → Nat) (w : (Nat × Nat) × Bool) (b : Nat → Nat) (n q : Nat) (E : Except (Nat × Nat) ((Nat → Nat) × (Nat → Nat) × Nat × Nat)) (r : A_R) : Prop := match E with
  | .ok y => ∃ m2 j2, r = some (b_h m2 j2 w, some (.int (nI 1))) ∧ l_S m2 j2 b n q y.1 y.2.1 y.2.2.1 y.2.2.2 ∧ x_fr m m2 j j2
  | .error e => ∃ m2 j2, r = some (b_h m2 j2 w, some (.int (nI 0))) ∧ x_E m m2 j j2 e
theorem x_L_o {m j m2 j2 : Nat → Nat → Nat} {w : (Nat × Nat) × Bool} {b : Nat → Nat} {n q : Nat} {E : Except (Nat × Nat) ((Nat → Nat) × (Nat → Nat) × Nat × Nat)} {r : A_R} {y : (Nat → Nat) × (Nat → Nat) × Nat × Nat} (hE : E = .ok y) (h1 : r = some (b_h m2 j2 w, some (.int (nI 1)))) (h2 : l_S m2 j2 b n q y.1 y.2.1 y.2.2.1 y.2.2.2) (h3 : x_fr m m2 j j2) : x_L m j w b n q E r := by
  rw [hE]
  exact ⟨m2, j2, h1, h2, h3⟩
theorem x_L_e {m j m2 j2 : Nat → Nat → Nat} {w : (Nat × Nat) × Bool} {b : Nat → Nat} {n q : Nat} {E : Except (Nat × Nat) ((Nat → Nat) × (Nat → Nat) × Nat × Nat)} {r : A_R} {e : Nat × Nat} (hE : E = .error e) (h1 : r = some (b_h m2 j2 w, some (.int (nI 0)))) (h2 : x_E m m2 j j2 e) : x_L m j w b n q E r := by
  rw [hE]
  exact ⟨m2, j2, h1, h2⟩
theorem r_N_c {so nu L N s s2 : Nat → Nat} {c : Nat} (h : r_N so nu c L N s) (hs : ∀ k, k < 4 → s2 k = s k) : r_N so nu c L N s2 := by
  obtain ⟨h1, h2, h3, h4⟩ := h
  refine ⟨by rw [hs 0 (by decide), hs 1 (by decide), hs 2 (by decide), hs 3 (by decide)]; exact h1, fun i hi => ?_, fun k hk v hv => ?_, h4⟩
  · obtain ⟨a1, a2, a3, a4⟩ := h2 i hi
    exact ⟨a1, by rw [hs _ (by omega)]; exact a2, a3, a4⟩
  · rw [hs _ (by omega)] at hv
    exact h3 k hk v hv
section LC
variable {X : Nat × (Nat → Int32)} {tx : List Int32} {D : Nat} {m j : Nat → Nat → Nat} {w : (Nat × Nat) × Bool} {b : Nat → Nat} {n q p : Nat} {s N : Nat → Nat} {dk : Nat}
theorem s_Fa_readDusk (h : l_S m j b n q s N dk p) (h1 : w_kd b n q p = 1) (hD : 6 ≤ D) : x_L m j w b n q (k_ld b n q s N dk p) (a_ex X tx a_T D 40 [.ref 15, .ref 1] (b_h m j w)) := by
  obtain ⟨d, rfl⟩ : ∃ d, D = d + 1 := ⟨D - 1, by omega⟩
  obtain ⟨x1, x2, x3, x4, x5, x6, x7, x8, x9, x10, x11, x12, x13, x14, x15, x16, x17, x18⟩ := id h
  have hU := i_S_U x18.1
  subst x2
  cases hE : k_ld (m 2) n q s N dk p with
  | error e =>
    unfold k_ld at hE
    by_cases c : dk = 0
    · rw [if_pos c] at x9
      rw [if_neg (fun x => x c)] at hE
      obtain ⟨m2, j2, e1, e2⟩ := s_Ta_stepT (X := X) (tx := tx) (D := d) (m := m) (j := j) (w := w) x1 x3 (w_kd_in (by omega) (by omega)) (by omega)
      have n2 : m2 2 = m 2 := e2.2.1.1 2 (by decide)
      have s3 := s_Ta_takeNumber (X := X) (tx := tx) (D := d) (m := m2) (j := j2) (w := w) (l_X_fr x1 n2 (e2.2.1.2.1 3 (by decide))) e2.1 (by omega) (lo := 0) (hi := 9) (by omega) (by omega)
      rw [n2] at s3
      cases h3 : k_num (m 2) n q 0 9 (w_nx (m 2) n q p) with
      | error e9 =>
        rw [h3] at s3 hE
        obtain ⟨m4, j4, e4, e5⟩ := s3
        have hee := Except.error.inj hE
        subst hee
        refine x_L_e rfl (m2 := b_r m4 15 (b_s (m4 15) 5 4294967295)) (j2 := j4) ?_ ⟨fun c c1 c2 => (b_rn (by omega)).trans ((e5.1 c c1).trans (e2.2.1.1 c c1)), fun c c1 _ => (e5.2.1 c c1).trans (e2.2.1.2.1 c c1), by rw [b_rn (by decide)]; exact e5.2.2.1, by rw [b_rn (by decide)]; exact e5.2.2.2⟩
        rw [e_Fa_readDusk, q_Fa_readDusk_0]
        simp (disch := omega) only [x9, e1, e4, ↓bc_15, ↓bc_1, ↓b_t0, ↓b_t1, ↓b_t2, ↓b_t3, ↓b_t4, ↓b_t5, ↓b_t6, Nat.zero_add, Nat.le_refl, b_rs, b_rn, b_r2, b_ss, b_sn, b_bt, b_bf, b_b0, b_b1, b_bw, b_shl, b_or, b_iv, b_jv, b_sI, b_sJ, ↓z_hl, z_b0, z_b1, z_b2, b_and1c, b_and1z, if_true, if_false, nI_add, pk_mul, b_cl, b_lt, b_le, b_eq, b_eq0, b_le0, b_0lt, b_0le, b_lt0]
      | ok r =>
        rw [h3] at hE
        exact absurd hE (by simp only [reduceCtorEq, not_false_eq_true])
    · rw [if_neg c] at x9
      rw [if_pos c] at hE
      have hee := Except.error.inj hE
      subst hee
      have sb := s_Ta_fail (X := X) (tx := tx) (D := d) (m := m) (j := j) (w := w) x3 (by omega) (k := 3)
      have y := x_C_fail (m := m) (j := j) (n := n) (q := q) (p := p) (k := 3)
      refine x_L_e rfl ?_ ⟨fun c c1 _ => y.1 c c1, fun _ _ _ => rfl, y.2.2.1, y.2.2.2⟩
      rw [e_Fa_readDusk, q_Fa_readDusk_0]
      simp (disch := omega) only [x9, sb, ↓bc_15, ↓bc_1, ↓b_t0, ↓b_t1, ↓b_t2, ↓b_t3, ↓b_t4, ↓b_t5, ↓b_t6, Nat.zero_add, Nat.le_refl, b_rs, b_rn, b_r2, b_ss, b_sn, b_bt, b_bf, b_b0, b_b1, b_bw, b_shl, b_or, b_iv, b_jv, b_sI, b_sJ, ↓z_hl, z_b0, z_b1, z_b2, b_and1c, b_and1z, if_true, if_false, nI_add, pk_mul, b_cl, b_lt, b_le, b_eq, b_eq0, b_le0, b_0lt, b_0le, b_lt0]
      rw [if_neg (by omega)]
  | ok v =>
    have hQ := i_Q_ld x18 x4 h1 hE
    unfold k_ld at hE
    by_cases c : dk = 0
    · rw [if_pos c] at x9
      rw [if_neg (fun x => x c)] at hE
      obtain ⟨m2, j2, e1, e2⟩ := s_Ta_stepT (X := X) (tx := tx) (D := d) (m := m) (j := j) (w := w) x1 x3 (w_kd_in (by omega) (by omega)) (by omega)
      have n2 : m2 2 = m 2 := e2.2.1.1 2 (by decide)
      have s3 := s_Ta_takeNumber (X := X) (tx := tx) (D := d) (m := m2) (j := j2) (w := w) (l_X_fr x1 n2 (e2.2.1.2.1 3 (by decide))) e2.1 (by omega) (lo := 0) (hi := 9) (by omega) (by omega)
      rw [n2] at s3
      cases h3 : k_num (m 2) n q 0 9 (w_nx (m 2) n q p) with
      | error e9 =>
        rw [h3] at hE
        exact absurd hE (by simp only [reduceCtorEq, not_false_eq_true])
      | ok r =>
        rw [h3] at s3 hE
        obtain ⟨m4, j4, e4, e5, e6, e7, e8⟩ := s3
        have hee := Except.ok.inj hE
        subst hee
        have hz : ∀ k, k ≠ 4 → b_s s 4 r.1 k = s k := fun k hk => b_sn hk
        have f : ∀ c, c ≠ 1 → m4 c = m c := fun c c1 => (e5.2.1.1 c c1).trans (e2.2.1.1 c c1)
        have fj : ∀ c, c ≠ 1 → j4 c = j c := fun c c1 => (e5.2.1.2.1 c c1).trans (e2.2.1.2.1 c c1)
        refine x_L_o rfl (m2 := b_r m4 15 (b_s (m4 15) 5 r.1)) (j2 := j4) ?_ ⟨?_, ?_, ?_, e5.2.2, ?_, ?_, ?_, ?_, ?_, ?_, ?_, ?_, ?_, ?_, ?_, ?_, ?_, hQ.1⟩ ⟨fun c c1 c2 => (b_rn (by omega)).trans (f c c1), fun c c1 _ => fj c c1, by rw [b_rs, b_sn (by decide), f 15 (by decide)], by rw [b_rn (by decide), e5.2.1.2.2.1, e2.2.1.2.2.1], by rw [b_rn (by decide), e5.2.1.2.2.2, e2.2.1.2.2.2]⟩
        · rw [e_Fa_readDusk, q_Fa_readDusk_0]
          simp (disch := omega) only [x9, e1, e4, ↓bc_15, ↓bc_1, ↓b_t0, ↓b_t1, ↓b_t2, ↓b_t3, ↓b_t4, ↓b_t5, ↓b_t6, Nat.zero_add, Nat.le_refl, b_rs, b_rn, b_r2, b_ss, b_sn, b_bt, b_bf, b_b0, b_b1, b_bw, b_shl, b_or, b_iv, b_jv, b_sI, b_sJ, ↓z_hl, z_b0, z_b1, z_b2, b_and1c, b_and1z, if_true, if_false, nI_add, pk_mul, b_cl, b_lt, b_le, b_eq, b_eq0, b_le0, b_0lt, b_0le, b_lt0]
          rw [if_neg (by omega)]
        · exact l_X_fr x1 (by rw [b_rn (by decide)]; exact f 2 (by decide)) (fj 3 (by decide))
        · rw [b_rn (by decide)]; exact f 2 (by decide)
        · exact l_C_c e5.1 (b_rn (by decide)) (b_rn (by decide)) rfl
        · rw [b_rs, b_sn (by decide), f 15 (by decide)]; exact x5.trans (hz 0 (by decide)).symm
        · rw [b_rs, b_sn (by decide), f 15 (by decide)]; exact x6.trans (hz 1 (by decide)).symm
        · rw [b_rs, b_sn (by decide), f 15 (by decide)]; exact x7.trans (hz 2 (by decide)).symm
        · rw [b_rs, b_sn (by decide), f 15 (by decide)]; exact x8.trans (hz 3 (by decide)).symm
        · show b_r m4 15 (b_s (m4 15) 5 r.1) 15 5 = if 1 = 0 then 4294967295 else b_s s 4 r.1 4
          rw [b_rs, b_ss, if_neg (by decide), b_ss]
        · rw [b_rs, b_rn (by decide), b_rn (by decide), b_sn (by decide), f 15 (by decide), f 17 (by decide), f 18 (by decide), fj 16 (by decide)]
          exact r_N_c x10 (fun k hk => hz k (by omega))
        · intro i hi
          rw [b_rn (by decide), f 19 (by decide)]
          exact (x11 i (by have hi : i < b_s s 4 r.1 1 := hi; rw [hz 1 (by decide)] at hi; exact hi)).trans (hz (5 + i) (by omega)).symm
        · intro i hi
          rw [b_rn (by decide), f 20 (by decide)]
          exact (x12 i (by have hi : i < b_s s 4 r.1 2 := hi; rw [hz 2 (by decide)] at hi; exact hi)).trans (hz (11 + i) (by omega)).symm
        · intro t ht k hk
          rw [b_rn (by decide), f 21 (by decide)]
          exact (x13 t ht k hk).trans (hz (19 + 6 * t + k) (by omega)).symm
        · intro i hi
          rw [b_rn (by decide), f 22 (by decide)]
          exact (x14 i (by have hi : i < b_s s 4 r.1 3 := hi; rw [hz 3 (by decide)] at hi; exact hi)).trans (hz (67 + i) (by omega)).symm
        · intro i hi
          rw [b_rn (by decide), f 23 (by decide)]
          exact (x15 i (by have hi : i < b_s s 4 r.1 3 := hi; rw [hz 3 (by decide)] at hi; exact hi)).trans (hz (77 + i) (by omega)).symm
        · intro t ht k hk
          rw [b_rn (by decide), f 24 (by decide)]
          exact (x16 t ht k hk).trans (hz (87 + 6 * t + k) (by omega)).symm
        · intro i hi
          rw [b_rn (by decide), f 25 (by decide)]
          exact (x17 i hi).trans (hz (147 + i) (by omega)).symm
    · rw [if_pos c] at hE
      exact absurd hE (by simp only [reduceCtorEq, not_false_eq_true])
end LC
