/-! SENTENCES: the class reads one condition -/
def z_dp : List (Nat × Nat × Nat) → Nat
  | [] => 0
  | c :: A => if c.1 = 20 then z_dp A else if c.1 = 21 ∨ c.1 = 22 then z_dp A - 1 else z_dp A + 1
def z_wf : List (Nat × Nat × Nat) → Prop
  | [] => True
  | c :: A => (c.1 = 20 → 1 ≤ z_dp A) ∧ (c.1 = 21 ∨ c.1 = 22 → 2 ≤ z_dp A) ∧ z_dp (c :: A) ≤ 20 ∧ z_wf A
theorem q_leaf_c {b : Nat → Nat} {n q : Nat} {N S : Nat → Nat} {A : List (Nat × Nat × Nat)} {ky p : Nat} {y : List (Nat × Nat × Nat) × Nat} (hk : 12 ≤ ky ∧ ky ≤ 18) (h : q_leaf b n q N S A ky p = .ok y) : ∃ c : Nat × Nat × Nat, y.1 = c :: A ∧ c.1 ≤ 6 := by
  unfold q_leaf at h
  by_cases c1 : ky = 12
  · rw [if_pos c1] at h
    rw [← Except.ok.inj h]
    exact ⟨_, rfl, by show 0 ≤ 6; decide⟩
  · rw [if_neg c1] at h
    by_cases c2 : ky < 16
    · rw [if_pos c2] at h
      cases q1 : k_look b n q (fun k => N (w_base (q_so ky) + k)) (S (q_so ky)) p with
      | error e =>
        rw [q1] at h
        exact z_exn h
      | ok k =>
        rw [q1] at h
        rw [← Except.ok.inj h]
        exact ⟨_, rfl, by show ky - 12 ≤ 6; omega⟩
    · rw [if_neg c2] at h
      by_cases c3 : 60 ≤ w_kd b n q p ∧ w_kd b n q p ≤ 62
      · rw [if_pos c3] at h
        cases q1 : k_num b n q 0 999 (w_nx b n q p) with
        | error e =>
          rw [q1] at h
          exact z_exn h
        | ok r =>
          rw [q1] at h
          rw [← Except.ok.inj h]
          exact ⟨_, rfl, by show ky - 12 ≤ 6; omega⟩
      · rw [if_neg c3] at h
        exact z_exn h
def z_H (m j : Nat → Nat → Nat) (b : Nat → Nat) (n q : Nat) (N S : Nat → Nat) (A : List (Nat × Nat × Nat)) (ones p pd : Nat) : Prop := l_X m j n q ∧ m 2 = b ∧ l_C m j n q p ∧ p ≤ n ∧ r_N (m 6) (m 7) (m 4 6) (j 5) N S ∧ m 4 6 ≤ 30 ∧ z_Q m S A ones ∧ ones ≤ 20 ∧ A.length + pd ≤ 2 * ones ∧ z_wf A ∧ z_dp A ≤ ones
def x_RO (m j : Nat → Nat → Nat) (w : (Nat × Nat) × Bool) (b : Nat → Nat) (n q : Nat) (N S : Nat → Nat) (depth pd : Nat) (A : List (Nat × Nat × Nat)) (ones p : Nat) (base : List Nat → Prop) (fin : Nat → Prop) (r : A_R) : Prop :=
  (∃ m2 j2 e, r = some (b_h m2 j2 w, some (.int (nI 0))) ∧ z_qE m m2 j j2 e ∧ ∀ σ f, q_deep σ = depth → base σ → n - p < f → q_run b n q N S f σ A ones false p = .error e) ∨
  (∃ m2 j2 A2 o2 p2, r = some (b_h m2 j2 w, some (.int (nI 1))) ∧ l_C m2 j2 n q p2 ∧ p < p2 ∧ p2 ≤ n ∧ z_qf m m2 j j2 ∧ z_Q m2 S A2 o2 ∧ ones < o2 ∧ o2 ≤ 20 ∧ A2.length + pd + 1 ≤ 2 * o2 ∧ z_wf A2 ∧ z_dp A2 = z_dp A + 1 ∧ fin p2 ∧ ∀ σ f, q_deep σ = depth → base σ → n - p < f → ∃ f2, n - p2 < f2 ∧ q_run b n q N S f σ A ones false p = q_run b n q N S f2 σ A2 o2 true p2)
def q_base (σ : List Nat) : Prop := q_t σ 20 ∧ q_t σ 21 ∧ q_t σ 22
def p_one (X : Nat × (Nat → Int32)) (tx : List Int32) (w : (Nat × Nat) × Bool) (b : Nat → Nat) (n q : Nat) (N S : Nat → Nat) (k : Nat) : Prop := ∀ depth, depth + k = 9 → ∀ m j A ones p pd D, z_H m j b n q N S A ones p pd → 2 * k + 10 ≤ D → x_RO m j w b n q N S depth pd A ones p (fun _ => True) (fun _ => True) (a_ex X tx a_T D 88 [.ref 152, .ref 1, .ref 4, .int (nI depth)] (b_h m j w))
def p_cond (X : Nat × (Nat → Int32)) (tx : List Int32) (w : (Nat × Nat) × Bool) (b : Nat → Nat) (n q : Nat) (N S : Nat → Nat) (k : Nat) : Prop := ∀ depth, depth + k = 9 → ∀ m j A ones p pd D, z_H m j b n q N S A ones p pd → 2 * k + 11 ≤ D → x_RO m j w b n q N S depth pd A ones p q_base (fun p2 => w_ky b n q p2 ≠ 9 ∧ w_ky b n q p2 ≠ 10) (a_ex X tx a_T D 87 [.ref 152, .ref 1, .ref 4, .int (nI depth)] (b_h m j w))
section RO
variable {X : Nat × (Nat → Int32)} {tx : List Int32} {D d : Nat} {m j : Nat → Nat → Nat} {w : (Nat × Nat) × Bool} {b : Nat → Nat} {n q p : Nat} {N S : Nat → Nat} {A : List (Nat × Nat × Nat)} {ones : Nat}
theorem z_H_f {m2 j2 : Nat → Nat → Nat} {A2 : List (Nat × Nat × Nat)} {o2 p2 pd pd2 : Nat} (h : z_H m j b n q N S A ones p pd) (hf : z_qf m m2 j j2) (hC : l_C m2 j2 n q p2) (hp : p2 ≤ n) (hQ : z_Q m2 S A2 o2) (ho : o2 ≤ 20) (hl : A2.length + pd2 ≤ 2 * o2) (hw : z_wf A2) (hd : z_dp A2 ≤ o2) : z_H m2 j2 b n q N S A2 o2 p2 pd2 := by
  obtain ⟨h1, h2, h3, h4, h5, h6, h7⟩ := h
  exact ⟨l_X_fr h1 (hf.1 2 (by decide) (by decide)) (hf.2.1 3 (by decide)), (hf.1 2 (by decide) (by decide)).trans h2, hC, hp, by rw [hf.1 6 (by decide) (by decide), hf.1 7 (by decide) (by decide), hf.1 4 (by decide) (by decide), hf.2.1 5 (by decide)]; exact h5, by rw [hf.1 4 (by decide) (by decide)]; exact h6, hQ, ho, hl, hw, hd⟩
theorem s_Se_one {k : Nat} (ih : ∀ k', k = k' + 1 → p_one X tx w b n q N S k' ∧ p_cond X tx w b n q N S k') : p_one X tx w b n q N S k := by
  intro depth hdk m j A ones p pd D hH hD
  obtain ⟨d, rfl⟩ : ∃ d, D = d + 1 := ⟨D - 1, by omega⟩
  obtain ⟨hX, hb, hC, hp, hN, hc30, hQ, ho20, hl, hwf, hdp⟩ := id hH
  have s1 := s_Ta_atSign (X := X) (tx := tx) (D := d) (m := m) (j := j) (w := w) hX hC (by omega) (c := 40) (by decide)
  have s2 := s_Ta_word (X := X) (tx := tx) (D := d) (m := m) (j := j) (w := w) hC (by omega)
  have sb := fun k => s_Ta_fail (X := X) (tx := tx) (D := d) (m := m) (j := j) (w := w) hC (by omega) (k := k)
  have yb := fun k => x_C_fail (m := m) (j := j) (n := n) (q := q) (p := p) (k := k)
  rw [hb] at s1 s2
  simp only [hb] at sb yb
  have hky := w_ky_lt (b := b) (n := n) (q := q) (p := p)
  have hk1 : ∀ k, k < 19 → w_ky b n q p = k → w_kd b n q p = 1 := fun k h1 h2 => ((w_ky_iff h1).mp h2).1
  have z10 : (nI 1 = (0 : Int32)) = False := eq_false (by decide +kernel)
  have z00 : (nI 0 = (0 : Int32)) = True := eq_true (by decide +kernel)
  have zM12 : (nI 4294967295 < nI 12) = True := eq_true (by decide +kernel)
  have zM11 : (nI 4294967295 = nI 11) = False := eq_false (by decide +kernel)
  by_cases c1 : w_ky b n q p ≠ 11 ∧ w_kd b n q p ≠ 40 ∧ (w_ky b n q p < 12 ∨ 18 < w_ky b n q p)
  · left
    rw [decide_eq_false c1.2.1] at s1
    refine ⟨_, j, (1, w_pl b n q p), ?_, z_qE_x (yb 1), fun σ f _ _ hf => ?_⟩
    · rw [e_Se_readOne, q_Se_readOne_0]
      by_cases cM : w_ky b n q p = 4294967295
      · rw [cM] at s2
        simp (disch := omega) only [s1, s2, sb, zM12, zM11, ↓bc_1, ↓bc_152, ↓b_t0, ↓b_t1, ↓b_t2, ↓b_t3, ↓b_t4, ↓b_t5, ↓b_t6, Nat.zero_add, Nat.le_refl, b_rs, b_rn, b_r2, b_ss, b_sn, b_bt, b_bf, b_b0, b_b1, b_bw, b_shl, b_or, b_iv, b_jv, b_sI, b_sJ, ↓z_hl, z_b0, z_b1, z_b2, b_and1c, b_and1z, if_true, if_false, nI_add, pk_mul, b_cl, b_lt, b_le, b_eq, b_eq0, b_le0, b_0lt, b_0le, b_lt0]
      · simp (disch := omega) only [s1, s2, sb, ↓bc_1, ↓bc_152, ↓b_t0, ↓b_t1, ↓b_t2, ↓b_t3, ↓b_t4, ↓b_t5, ↓b_t6, Nat.zero_add, Nat.le_refl, b_rs, b_rn, b_r2, b_ss, b_sn, b_bt, b_bf, b_b0, b_b1, b_bw, b_shl, b_or, b_iv, b_jv, b_sI, b_sJ, ↓z_hl, z_b0, z_b1, z_b2, b_and1c, b_and1z, if_true, if_false, nI_add, pk_mul, b_cl, b_lt, b_le, b_eq, b_eq0, b_le0, b_0lt, b_0le, b_lt0]
        rw [if_neg c1.1]
        by_cases c2 : w_ky b n q p < 12
        · rw [if_pos c2]
        · rw [if_neg c2, if_neg (by omega)]
    · obtain ⟨f, rfl⟩ : ∃ f2, f = f2 + 1 := ⟨f - 1, by omega⟩
      refine q_run_oe ?_
      unfold q_op
      exact if_pos c1
  have pre : ∃ x5, (w_kd b n q p ≠ 40 → x5 = w_ky b n q p) ∧ a_ex X tx a_T (d + 1) 88 [.ref 152, .ref 1, .ref 4, .int (nI depth)] (b_h m j w) = a_rn X tx (a_ex X tx a_T d) (a_go X tx (a_ex X tx a_T d) k_Se_readOne_0 a_f1) k_Se_readOne_22 0 [.ref 152, .ref 1, .ref 4, .int (nI depth), .int (nI (b_b (decide (w_kd b n q p = 40)))), .int (nI x5)] [] (b_h m j w) := by
    by_cases c40 : w_kd b n q p = 40
    · rw [decide_eq_true c40] at s1 ⊢
      refine ⟨w_ky b n q p, fun x => absurd c40 x, ?_⟩
      rw [e_Se_readOne, q_Se_readOne_0]
      simp (disch := omega) only [s1, s2, z10, ↓bc_1, ↓bc_152, ↓b_t0, ↓b_t1, ↓b_t2, ↓b_t3, ↓b_t4, ↓b_t5, ↓b_t6, Nat.zero_add, Nat.le_refl, b_rs, b_rn, b_r2, b_ss, b_sn, b_bt, b_bf, b_b0, b_b1, b_bw, b_shl, b_or, b_iv, b_jv, b_sI, b_sJ, ↓z_hl, z_b0, z_b1, z_b2, b_and1c, b_and1z, if_true, if_false, nI_add, pk_mul, b_cl, b_lt, b_le, b_eq, b_eq0, b_le0, b_0lt, b_0le, b_lt0]
    · rw [decide_eq_false c40] at s1 ⊢
      refine ⟨w_ky b n q p, fun _ => rfl, ?_⟩
      rw [e_Se_readOne, q_Se_readOne_0]
      by_cases c11 : w_ky b n q p = 11
      · rw [c11] at s2 ⊢
        simp (disch := omega) only [s1, s2, ↓bc_1, ↓bc_152, ↓b_t0, ↓b_t1, ↓b_t2, ↓b_t3, ↓b_t4, ↓b_t5, ↓b_t6, Nat.zero_add, Nat.le_refl, b_rs, b_rn, b_r2, b_ss, b_sn, b_bt, b_bf, b_b0, b_b1, b_bw, b_shl, b_or, b_iv, b_jv, b_sI, b_sJ, ↓z_hl, z_b0, z_b1, z_b2, b_and1c, b_and1z, if_true, if_false, nI_add, pk_mul, b_cl, b_lt, b_le, b_eq, b_eq0, b_le0, b_0lt, b_0le, b_lt0]
      · have hr : 12 ≤ w_ky b n q p ∧ w_ky b n q p ≤ 18 := by omega
        simp (disch := omega) only [s1, s2, ↓bc_1, ↓bc_152, ↓b_t0, ↓b_t1, ↓b_t2, ↓b_t3, ↓b_t4, ↓b_t5, ↓b_t6, Nat.zero_add, Nat.le_refl, b_rs, b_rn, b_r2, b_ss, b_sn, b_bt, b_bf, b_b0, b_b1, b_bw, b_shl, b_or, b_iv, b_jv, b_sI, b_sJ, ↓z_hl, z_b0, z_b1, z_b2, b_and1c, b_and1z, if_true, if_false, nI_add, pk_mul, b_cl, b_lt, b_le, b_eq, b_eq0, b_le0, b_0lt, b_0le, b_lt0]
        rw [if_neg c11, if_neg (by omega), if_pos hr.2]
  obtain ⟨x5, hx5, pre⟩ := pre
  rw [pre]
  by_cases c4 : ones = 20 ∨ 8 < depth
  · left
    refine ⟨_, j, (4, w_pl b n q p), ?_, z_qE_x (yb 4), fun σ f hσ _ hf => ?_⟩
    · rw [q_Se_readOne_22]
      by_cases g1 : ones = 20
      · have h20 : m 152 0 = 20 := hQ.1.trans g1
        rw [bc_152, b_iv, h20, if_pos (by decide +kernel), bc_1, sb 4, z_b1, if_pos (of_eq_true b_and1z)]
      · rw [bc_152, b_iv, hQ.1, if_neg (by rw [b_le (by decide) (by omega)]; omega), if_neg (by rw [b_le (by omega) (by decide)]; omega), bc_1, sb 4, z_b1, if_pos (of_eq_true b_and1z)]
    · obtain ⟨f, rfl⟩ : ∃ f2, f = f2 + 1 := ⟨f - 1, by omega⟩
      refine q_run_oe ?_
      unfold q_op
      rw [if_neg c1, hσ, if_pos c4]
  have hkd : w_kd b n q p = 40 ∨ w_kd b n q p = 1 := by
    by_cases x : w_kd b n q p = 40
    · exact Or.inl x
    · exact Or.inr (hk1 _ (by omega) rfl)
  have hin : w_pb2 b n q p < min n q := w_kd_in (by omega) (by omega)
  have nx := w_nx_in hin
  obtain ⟨k, rfl⟩ : ∃ k2, k = k2 + 1 := ⟨k - 1, by omega⟩
  obtain ⟨ihO, ihC⟩ := ih k rfl
  have v1 : ∀ c, c ≠ 152 → b_r m 152 (b_s (m 152) 0 (ones + 1)) c = m c := fun c hc => b_rn hc
  have F1 : z_qf m (b_r m 152 (b_s (m 152) 0 (ones + 1))) j j := ⟨fun c _ h2 => v1 c (by omega), fun _ _ => rfl, by rw [v1 1 (by decide)], by rw [v1 1 (by decide)]⟩
  have Q1 : z_Q (b_r m 152 (b_s (m 152) 0 (ones + 1))) S A (ones + 1) := by
    obtain ⟨a1, a2, a3⟩ := hQ
    refine ⟨by rw [b_rs, b_ss], by rw [b_rs, b_sn (by decide)]; exact a2, ?_⟩
    rw [v1 153 (by decide), v1 154 (by decide), v1 155 (by decide)]
    exact a3
  obtain ⟨m2, j2, e2, o2⟩ := s_Ta_stepT (X := X) (tx := tx) (D := d) (m := b_r m 152 (b_s (m 152) 0 (ones + 1))) (j := j) (w := w) (l_X_fr hX (v1 2 (by decide)) rfl) (l_C_c hC (v1 1 (by decide)) (v1 2 (by decide)) rfl) (by rw [v1 2 (by decide), hb]; exact hin) (by omega)
  rw [v1 2 (by decide), hb] at o2
  have F2 : z_qf m m2 j j2 := z_qf_t F1 (z_qf_o o2)
  have Q2 : z_Q m2 S A (ones + 1) := z_Q_o Q1 o2
  have h46 := hQ.1
  have hb2 : m2 2 = b := (F2.1 2 (by decide) (by decide)).trans hb
  have opn : ∀ σ f, q_deep σ = depth → n - p < f → ∃ f2, f = f2 + 1 ∧ n - w_nx b n q p < f2 := fun σ f _ hf => ⟨f - 1, by omega, by omega⟩
  by_cases c40 : w_kd b n q p = 40
  · have g11 : w_ky b n q p ≠ 11 := fun x => by have := hk1 11 (by decide) x; omega
    rw [decide_eq_true c40]
    have hq : ∀ σ, q_deep σ = depth → q_op b n q N S σ A ones p = .ok (23 :: σ, A, false, w_nx b n q p) := fun σ hσ => by
      unfold q_op
      rw [if_neg c1, hσ, if_neg c4, if_pos c40]
    have s3 := ihC (depth + 1) (by omega) m2 j2 A (ones + 1) (w_nx b n q p) pd d (z_H_f (pd := pd) (pd2 := pd) hH F2 o2.1 o2.2.2 Q2 (by omega) (by omega) hwf (by omega)) (by omega)
    rcases s3 with ⟨m3, j3, e, e3, x3, r3⟩ | ⟨m3, j3, A3, o3, p3, e3, l3, lt3, le3, f3, q3, g3, g4, g5, g6, g7, g8, r3⟩
    · left
      refine ⟨m3, j3, e, ?_, z_qE_t F2 x3, fun σ f hσ _ hf => ?_⟩
      · rw [q_Se_readOne_22]
        simp only [show nI (b_b true) = nI 1 from rfl, z10, if_false]
        simp (disch := omega) only [h46, e2, e3, ↓bc_1, ↓bc_152, ↓b_t0, ↓b_t1, ↓b_t2, ↓b_t3, ↓b_t4, ↓b_t5, ↓b_t6, Nat.zero_add, Nat.le_refl, b_rs, b_rn, b_r2, b_ss, b_sn, b_bt, b_bf, b_b0, b_b1, b_bw, b_shl, b_or, b_iv, b_jv, b_sI, b_sJ, ↓z_hl, z_b0, z_b1, z_b2, b_and1c, b_and1z, if_true, if_false, nI_add, pk_mul, b_cl, b_lt, b_le, b_eq, b_eq0, b_le0, b_0lt, b_0le, b_lt0]
        rw [if_neg (by omega), if_pos (by omega)]
      · obtain ⟨f2, rfl, hf2⟩ := opn σ f hσ hf
        rw [q_run_oo (hq σ hσ)]
        exact r3 (23 :: σ) f2 (by rw [show q_deep (23 :: σ) = q_deep σ + 1 from if_pos (Or.inr rfl), hσ]) ⟨by show (23 : Nat) ≠ 20; decide, by show (23 : Nat) ≠ 21; decide, by show (23 : Nat) ≠ 22; decide⟩ hf2
    · have s5 := s_Ta_takeSign (X := X) (tx := tx) (D := d) (m := m3) (j := j3) (w := w) (l_X_fr hX ((f3.1 2 (by decide) (by decide)).trans (F2.1 2 (by decide) (by decide))) ((f3.2.1 3 (by decide)).trans (F2.2.1 3 (by decide)))) l3 (by omega) (c := 41) (by decide) (by decide)
      rw [(f3.1 2 (by decide) (by decide)).trans hb2] at s5
      have hq2 : ∀ σ, q_nots (23 :: σ) A3 = (23 :: σ, A3) ∧ q_joins 22 (23 :: σ) A3 = (23 :: σ, A3) := fun σ => ⟨rfl, rfl⟩
      unfold k_sign at s5
      by_cases c41 : w_kd b n q p3 = 41
      · rw [if_pos c41] at s5
        obtain ⟨m4, j4, e4, o4⟩ := s5
        have nx3 := w_nx_in (w_kd_in (b := b) (n := n) (q := q) (p := p3) (by omega) (by omega))
        right
        refine ⟨m4, j4, A3, o3, w_nx b n q p3, ?_, o4.1, by omega, nx3.2, z_qf_t F2 (z_qf_t f3 (z_qf_o o4)), z_Q_o q3 o4, by omega, g4, g5, g6, g7, trivial, fun σ f hσ _ hf => ?_⟩
        · rw [q_Se_readOne_22]
          simp only [show nI (b_b true) = nI 1 from rfl, z10, if_false]
          simp (disch := omega) only [h46, e2, e3, e4, Nat.one_ne_zero, ↓bc_1, ↓bc_152, ↓b_t0, ↓b_t1, ↓b_t2, ↓b_t3, ↓b_t4, ↓b_t5, ↓b_t6, Nat.zero_add, Nat.le_refl, b_rs, b_rn, b_r2, b_ss, b_sn, b_bt, b_bf, b_b0, b_b1, b_bw, b_shl, b_or, b_iv, b_jv, b_sI, b_sJ, ↓z_hl, z_b0, z_b1, z_b2, b_and1c, b_and1z, if_true, if_false, nI_add, pk_mul, b_cl, b_lt, b_le, b_eq, b_eq0, b_le0, b_0lt, b_0le, b_lt0]
          rw [if_neg (by omega), if_pos (by omega)]
        · obtain ⟨f2, rfl, hf2⟩ := opn σ f hσ hf
          rw [q_run_oo (hq σ hσ)]
          obtain ⟨f3, hf3, r4⟩ := r3 (23 :: σ) f2 (by rw [show q_deep (23 :: σ) = q_deep σ + 1 from if_pos (Or.inr rfl), hσ]) ⟨by show (23 : Nat) ≠ 20; decide, by show (23 : Nat) ≠ 21; decide, by show (23 : Nat) ≠ 22; decide⟩ hf2
          obtain ⟨f3, rfl⟩ : ∃ f4, f3 = f4 + 1 := ⟨f3 - 1, by omega⟩
          refine ⟨f3, by omega, ?_⟩
          show q_run b n q N S f2 (23 :: σ) A (ones + 1) false (w_nx b n q p) = _
          rw [r4]
          have hbe : q_be b n q (23 :: σ) A3 p3 = .ok (σ, A3, true, w_nx b n q p3) := by
            unfold q_be
            rw [if_neg g8.2, if_neg g8.1, if_pos c41, (hq2 σ).1]
            dsimp only
            rw [(hq2 σ).2]
          rw [q_run_bo (by omega) hbe]
      · rw [if_neg c41] at s5
        obtain ⟨m4, j4, e4, x4⟩ := s5
        left
        refine ⟨m4, j4, (1, w_pl b n q p3), ?_, z_qE_t F2 (z_qE_t f3 (z_qE_x x4)), fun σ f hσ _ hf => ?_⟩
        · rw [q_Se_readOne_22]
          simp only [show nI (b_b true) = nI 1 from rfl, z10, if_false]
          simp (disch := omega) only [h46, e2, e3, e4, Nat.one_ne_zero, ↓bc_1, ↓bc_152, ↓b_t0, ↓b_t1, ↓b_t2, ↓b_t3, ↓b_t4, ↓b_t5, ↓b_t6, Nat.zero_add, Nat.le_refl, b_rs, b_rn, b_r2, b_ss, b_sn, b_bt, b_bf, b_b0, b_b1, b_bw, b_shl, b_or, b_iv, b_jv, b_sI, b_sJ, ↓z_hl, z_b0, z_b1, z_b2, b_and1c, b_and1z, if_true, if_false, nI_add, pk_mul, b_cl, b_lt, b_le, b_eq, b_eq0, b_le0, b_0lt, b_0le, b_lt0]
          rw [if_neg (by omega), if_pos (by omega)]
        · obtain ⟨f2, rfl, hf2⟩ := opn σ f hσ hf
          rw [q_run_oo (hq σ hσ)]
          obtain ⟨f3, hf3, r4⟩ := r3 (23 :: σ) f2 (by rw [show q_deep (23 :: σ) = q_deep σ + 1 from if_pos (Or.inr rfl), hσ]) ⟨by show (23 : Nat) ≠ 20; decide, by show (23 : Nat) ≠ 21; decide, by show (23 : Nat) ≠ 22; decide⟩ hf2
          obtain ⟨f3, rfl⟩ : ∃ f4, f3 = f4 + 1 := ⟨f3 - 1, by omega⟩
          show q_run b n q N S f2 (23 :: σ) A (ones + 1) false (w_nx b n q p) = _
          rw [r4]
          by_cases c3 : w_kd b n q p3 = 3
          · rw [q_run_w, if_pos c3, (hq2 σ).1]
            dsimp only
            rw [(hq2 σ).2]
            exact if_neg (fun x => by cases x)
          · refine q_run_be c3 ?_
            unfold q_be
            rw [if_neg g8.2, if_neg g8.1, if_neg c41]
  rw [decide_eq_false c40]
  have hx := hx5 c40
  by_cases c11 : w_ky b n q p = 11
  · have x11 : x5 = 11 := hx.trans c11
    subst x11
    have hq : ∀ σ, q_deep σ = depth → q_op b n q N S σ A ones p = .ok (20 :: σ, A, false, w_nx b n q p) := fun σ hσ => by
      unfold q_op
      rw [if_neg c1, hσ, if_neg c4, if_neg c40, if_pos c11]
    have s3 := ihO (depth + 1) (by omega) m2 j2 A (ones + 1) (w_nx b n q p) (pd + 1) d (z_H_f (pd := pd) (pd2 := pd + 1) hH F2 o2.1 o2.2.2 Q2 (by omega) (by omega) hwf (by omega)) (by omega)
    rcases s3 with ⟨m3, j3, e, e3, x3, r3⟩ | ⟨m3, j3, A3, o3, p3, e3, l3, lt3, le3, f3, q3, g3, g4, g5, g6, g7, g8, r3⟩
    · left
      refine ⟨m3, j3, e, ?_, z_qE_t F2 x3, fun σ f hσ _ hf => ?_⟩
      · rw [q_Se_readOne_22]
        simp only [show nI (b_b false) = nI 0 from rfl, z00, if_true]
        simp (disch := omega) only [h46, e2, e3, ↓bc_1, ↓bc_152, ↓b_t0, ↓b_t1, ↓b_t2, ↓b_t3, ↓b_t4, ↓b_t5, ↓b_t6, Nat.zero_add, Nat.le_refl, b_rs, b_rn, b_r2, b_ss, b_sn, b_bt, b_bf, b_b0, b_b1, b_bw, b_shl, b_or, b_iv, b_jv, b_sI, b_sJ, ↓z_hl, z_b0, z_b1, z_b2, b_and1c, b_and1z, if_true, if_false, nI_add, pk_mul, b_cl, b_lt, b_le, b_eq, b_eq0, b_le0, b_0lt, b_0le, b_lt0]
        rw [if_neg (by omega), if_pos (by omega)]
      · obtain ⟨f2, rfl, hf2⟩ := opn σ f hσ hf
        rw [q_run_oo (hq σ hσ)]
        exact r3 (20 :: σ) f2 (by rw [show q_deep (20 :: σ) = q_deep σ + 1 from if_pos (Or.inl rfl), hσ]) trivial hf2
    · right
      have s4 := s_Se_add (X := X) (tx := tx) (D := d) (m := m3) (j := j3) (w := w) (by omega) (L := A3.length) (a := 11) (b := 0) (c := 0) q3.2.1 (by omega)
      have hdp3 : z_dp ((20, 0, 0) :: A3) = z_dp A3 := if_pos rfl
      refine ⟨w_add m3 A3.length 11 0 0, j3, (20, 0, 0) :: A3, o3, p3, ?_, l_C_a l3, by omega, le3, z_qf_a (z_qf_t F2 f3), z_Q_add q3 (Or.inr (Or.inr (Or.inl ⟨rfl, rfl⟩))), by omega, g4, by rw [List.length_cons]; omega, ⟨fun _ => by omega, fun x => absurd (show (20 : Nat) = 21 ∨ (20 : Nat) = 22 from x) (by decide), by rw [hdp3]; omega, g6⟩, by rw [hdp3]; exact g7, trivial, fun σ f hσ _ hf => ?_⟩
      · rw [q_Se_readOne_22]
        simp only [show nI (b_b false) = nI 0 from rfl, z00, if_true]
        simp (disch := omega) only [h46, e2, e3, s4, Nat.one_ne_zero, ↓bc_1, ↓bc_152, ↓b_t0, ↓b_t1, ↓b_t2, ↓b_t3, ↓b_t4, ↓b_t5, ↓b_t6, Nat.zero_add, Nat.le_refl, b_rs, b_rn, b_r2, b_ss, b_sn, b_bt, b_bf, b_b0, b_b1, b_bw, b_shl, b_or, b_iv, b_jv, b_sI, b_sJ, ↓z_hl, z_b0, z_b1, z_b2, b_and1c, b_and1z, if_true, if_false, nI_add, pk_mul, b_cl, b_lt, b_le, b_eq, b_eq0, b_le0, b_0lt, b_0le, b_lt0]
        rw [if_neg (by omega), if_pos (by omega)]
      · obtain ⟨f2, rfl, hf2⟩ := opn σ f hσ hf
        rw [q_run_oo (hq σ hσ)]
        obtain ⟨f3, hf3, r4⟩ := r3 (20 :: σ) f2 (by rw [show q_deep (20 :: σ) = q_deep σ + 1 from if_pos (Or.inl rfl), hσ]) trivial hf2
        refine ⟨f3, hf3, ?_⟩
        show q_run b n q N S f2 (20 :: σ) A (ones + 1) false (w_nx b n q p) = _
        rw [r4, q_L1]
  have hr : 12 ≤ w_ky b n q p ∧ w_ky b n q p ≤ 18 := by omega
  subst hx
  have hq : ∀ σ, q_deep σ = depth → q_op b n q N S σ A ones p = match q_leaf b n q N S A (w_ky b n q p) (w_nx b n q p) with
    | .error e => .error e
    | .ok y => .ok (σ, y.1, true, y.2) := fun σ hσ => by
    unfold q_op
    rw [if_neg c1, hσ, if_neg c4, if_neg c40, if_neg c11]
    cases q_leaf b n q N S A (w_ky b n q p) (w_nx b n q p) <;> rfl
  have X2 : l_X m2 j2 n q := l_X_fr hX (F2.1 2 (by decide) (by decide)) (F2.2.1 3 (by decide))
  have N2 : r_N (m2 6) (m2 7) (m2 4 6) (j2 5) N S := by rw [F2.1 6 (by decide) (by decide), F2.1 7 (by decide) (by decide), F2.1 4 (by decide) (by decide), F2.2.1 5 (by decide)]; exact hN
  have hc2 : m2 4 6 ≤ 30 := by rw [F2.1 4 (by decide) (by decide)]; exact hc30
  have s3 : x_LF m2 j2 w n q S (ones + 1) (q_leaf b n q N S A (w_ky b n q p) (w_nx b n q p)) (if 16 ≤ w_ky b n q p then a_ex X tx a_T d 90 [.ref 152, .ref 1, .int (nI (w_ky b n q p))] (b_h m2 j2 w) else a_ex X tx a_T d 89 [.ref 152, .ref 1, .ref 4, .int (nI (w_ky b n q p))] (b_h m2 j2 w)) := by
    by_cases c16 : 16 ≤ w_ky b n q p
    · rw [if_pos c16]
      have := s_Se_readComparison (X := X) (tx := tx) (D := d) (m := m2) (j := j2) (w := w) (N := N) X2 o2.1 Q2 (by omega) (ky := w_ky b n q p) ⟨c16, hr.2⟩ (by omega)
      rw [hb2] at this
      exact this
    · rw [if_neg c16]
      have := s_Se_readNamed (X := X) (tx := tx) (D := d) (m := m2) (j := j2) (w := w) X2 o2.1 N2 hc2 Q2 (by omega) (ky := w_ky b n q p) ⟨hr.1, by omega⟩ (by omega)
      rw [hb2] at this
      exact this
  cases q1 : q_leaf b n q N S A (w_ky b n q p) (w_nx b n q p) with
  | error e =>
    rw [q1] at s3
    obtain ⟨m3, j3, e3, x3⟩ := s3
    left
    refine ⟨m3, j3, e, ?_, z_qE_t F2 x3, fun σ f hσ _ hf => ?_⟩
    · rw [q_Se_readOne_22]
      simp only [show nI (b_b false) = nI 0 from rfl, z00, if_true]
      by_cases c16 : 16 ≤ w_ky b n q p
      · rw [if_pos c16] at e3
        simp (disch := omega) only [h46, e2, e3, ↓bc_1, ↓bc_152, ↓b_t0, ↓b_t1, ↓b_t2, ↓b_t3, ↓b_t4, ↓b_t5, ↓b_t6, Nat.zero_add, Nat.le_refl, b_rs, b_rn, b_r2, b_ss, b_sn, b_bt, b_bf, b_b0, b_b1, b_bw, b_shl, b_or, b_iv, b_jv, b_sI, b_sJ, ↓z_hl, z_b0, z_b1, z_b2, b_and1c, b_and1z, if_true, if_false, nI_add, pk_mul, b_cl, b_lt, b_le, b_eq, b_eq0, b_le0, b_0lt, b_0le, b_lt0]
        rw [if_neg (by omega), if_pos (by omega), if_neg c11, if_pos c16]
      · rw [if_neg c16] at e3
        simp (disch := omega) only [h46, e2, e3, ↓bc_1, ↓bc_152, ↓b_t0, ↓b_t1, ↓b_t2, ↓b_t3, ↓b_t4, ↓b_t5, ↓b_t6, Nat.zero_add, Nat.le_refl, b_rs, b_rn, b_r2, b_ss, b_sn, b_bt, b_bf, b_b0, b_b1, b_bw, b_shl, b_or, b_iv, b_jv, b_sI, b_sJ, ↓z_hl, z_b0, z_b1, z_b2, b_and1c, b_and1z, if_true, if_false, nI_add, pk_mul, b_cl, b_lt, b_le, b_eq, b_eq0, b_le0, b_0lt, b_0le, b_lt0]
        rw [if_neg (by omega), if_pos (by omega), if_neg c11, if_neg c16]
    · obtain ⟨f2, rfl, hf2⟩ := opn σ f hσ hf
      refine q_run_oe ?_
      rw [hq σ hσ, q1]
  | ok y =>
    rw [q1] at s3
    obtain ⟨m3, j3, e3, l3, f3, q3⟩ := s3
    obtain ⟨_, a2, a3⟩ := q_leaf_ok nx.2 q1
    obtain ⟨c, a4, a5⟩ := q_leaf_c hr q1
    right
    have hdp3 : z_dp y.1 = z_dp A + 1 := by
      rw [a4]
      show (if c.1 = 20 then z_dp A else if c.1 = 21 ∨ c.1 = 22 then z_dp A - 1 else z_dp A + 1) = _
      rw [if_neg (by omega), if_neg (by omega)]
    refine ⟨m3, j3, y.1, ones + 1, y.2, ?_, l3, by omega, a3, z_qf_t F2 f3, q3, by omega, by omega, by rw [a4, List.length_cons]; omega, ?_, hdp3, trivial, fun σ f hσ _ hf => ?_⟩
    · rw [q_Se_readOne_22]
      simp only [show nI (b_b false) = nI 0 from rfl, z00, if_true]
      by_cases c16 : 16 ≤ w_ky b n q p
      · rw [if_pos c16] at e3
        simp (disch := omega) only [h46, e2, e3, ↓bc_1, ↓bc_152, ↓b_t0, ↓b_t1, ↓b_t2, ↓b_t3, ↓b_t4, ↓b_t5, ↓b_t6, Nat.zero_add, Nat.le_refl, b_rs, b_rn, b_r2, b_ss, b_sn, b_bt, b_bf, b_b0, b_b1, b_bw, b_shl, b_or, b_iv, b_jv, b_sI, b_sJ, ↓z_hl, z_b0, z_b1, z_b2, b_and1c, b_and1z, if_true, if_false, nI_add, pk_mul, b_cl, b_lt, b_le, b_eq, b_eq0, b_le0, b_0lt, b_0le, b_lt0]
        rw [if_neg (by omega), if_pos (by omega), if_neg c11, if_pos c16]
      · rw [if_neg c16] at e3
        simp (disch := omega) only [h46, e2, e3, ↓bc_1, ↓bc_152, ↓b_t0, ↓b_t1, ↓b_t2, ↓b_t3, ↓b_t4, ↓b_t5, ↓b_t6, Nat.zero_add, Nat.le_refl, b_rs, b_rn, b_r2, b_ss, b_sn, b_bt, b_bf, b_b0, b_b1, b_bw, b_shl, b_or, b_iv, b_jv, b_sI, b_sJ, ↓z_hl, z_b0, z_b1, z_b2, b_and1c, b_and1z, if_true, if_false, nI_add, pk_mul, b_cl, b_lt, b_le, b_eq, b_eq0, b_le0, b_0lt, b_0le, b_lt0]
        rw [if_neg (by omega), if_pos (by omega), if_neg c11, if_neg c16]
    · rw [a4] at hdp3 ⊢
      exact ⟨fun x => by omega, fun x => by omega, by omega, hwf⟩
    · obtain ⟨f2, rfl, hf2⟩ := opn σ f hσ hf
      refine ⟨f2, by omega, ?_⟩
      have hq2 := hq σ hσ
      rw [q1] at hq2
      rw [q_run_oo hq2]
end RO
