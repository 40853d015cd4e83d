/-! SENTENCES: the class reads conditions that are joined -/
section RC
variable {X : Nat × (Nat → Int32)} {tx : List Int32} {D d : Nat} {m j : Nat → Nat → Nat} {w : (Nat × Nat) × Bool} {b : Nat → Nat} {n q p : Nat} {N S : Nat → Nat} {A : List (Nat × Nat × Nat)} {ones : Nat}
def q_or (o : Bool) (σ : List Nat) : List Nat := if o = true then 22 :: σ else σ
theorem q_or_t {o : Bool} {σ : List Nat} (h : q_base σ) : q_t (q_or o σ) 20 ∧ q_t (q_or o σ) 21 ∧ q_deep (q_or o σ) = q_deep σ := by
  unfold q_or
  cases o with
  | true => exact ⟨by show (22 : Nat) ≠ 20; decide, by show (22 : Nat) ≠ 21; decide, if_neg (by decide)⟩
  | false => exact ⟨h.1, h.2.1, rfl⟩
def q_orA (o : Bool) (A : List (Nat × Nat × Nat)) : List (Nat × Nat × Nat) := if o = true then (22, 0, 0) :: A else A
theorem q_or_j {o : Bool} {σ : List Nat} (h : q_base σ) : q_joins 22 (q_or o σ) A = (σ, q_orA o A) := by
  unfold q_or q_orA
  cases o with
  | true =>
    have : q_joins 22 (22 :: σ) A = q_joins 22 σ ((22, 0, 0) :: A) := if_pos (Or.inr ⟨rfl, rfl⟩)
    exact this.trans (q_joins_n h.2.1 (Or.inl h.2.2))
  | false => exact q_joins_n h.2.1 (Or.inl h.2.2)
theorem s_Se_cond {k : Nat} (h1 : p_one X tx w b n q N S k) : p_cond X tx w b n q N S k := by
  intro depth hdk m j A ones p pd D hH hD
  obtain ⟨d, rfl⟩ : ∃ d, D = d + 1 := ⟨D - 1, by omega⟩
  have s0 := h1 depth hdk m j A ones p pd d hH (by omega)
  rcases s0 with ⟨m3, j3, e, e3, x3, r3⟩ | ⟨m3, j3, A3, o3, p3, e3, l3, lt3, le3, f3, q3, g3, g4, g5, g6, g7, g8, r3⟩
  · left
    refine ⟨m3, j3, e, ?_, x3, fun σ f hσ _ hf => r3 σ f hσ trivial hf⟩
    rw [e_Se_readCondition, q_Se_readCondition_0]
    simp (disch := omega) only [e3, ↓bc_152, ↓bc_1, ↓b_t0, ↓b_t1, ↓b_t2, ↓b_t3, ↓b_t4, ↓b_t5, ↓b_t6, Nat.zero_add, Nat.le_refl, b_rs, b_rn, b_r2, b_ss, b_sn, b_bt, b_bf, b_b0, b_b1, b_bw, b_shl, b_or, b_iv, b_jv, b_sI, b_sJ, ↓z_hl, z_b0, z_b1, z_b2, b_and1c, b_and1z, if_true, if_false, nI_add, pk_mul, b_cl, b_lt, b_le, b_eq, b_eq0, b_le0, b_0lt, b_0le, b_lt0]
  obtain ⟨hX, hb, hC, hp, hN, hc30, hQ, ho20, hl, hwf, hdp⟩ := id hH
  have main : x_RO m j w b n q N S depth pd A ones p q_base (fun p2 => w_ky b n q p2 ≠ 9 ∧ w_ky b n q p2 ≠ 10) (a_go X tx (a_ex X tx a_T d) k_Se_readCondition_0 (a_f1 + 1) 12 [.ref 152, .ref 1, .ref 4, .int (nI depth), .int (nI 0), .int (nI 0), .retAddr 0] (b_h m3 j3 w)) := by
    refine z_run (Q := x_RO m j w b n q N S depth pd A ones p q_base (fun p2 => w_ky b n q p2 ≠ 9 ∧ w_ky b n q p2 ≠ 10)) (fun c L y => ∃ m' j' A' o' p' i u, ∃ orW : Bool, c + o' = 21 ∧ L = [.ref 152, .ref 1, .ref 4, .int (nI depth), .int (nI (b_b orW)), .int (nI i), u] ∧ y = b_h m' j' w ∧ l_C m' j' n q p' ∧ p < p' ∧ p' ≤ n ∧ z_qf m m' j j' ∧ z_Q m' S A' o' ∧ o' ≤ 20 ∧ i + ones + 1 ≤ o' ∧ b_b orW ≤ i ∧ A'.length + pd + 1 + b_b orW ≤ 2 * o' ∧ z_wf A' ∧ z_dp A' = z_dp A + 1 + b_b orW ∧ ∀ σ f, q_deep σ = depth → q_base σ → n - p < f → ∃ f2, n - p' < f2 ∧ q_run b n q N S f σ A ones false p = q_run b n q N S f2 (q_or orW σ) A' o' true p') 100 ?_ (21 - o3) _ _ ⟨m3, j3, A3, o3, p3, 0, _, false, by omega, rfl, rfl, l3, lt3, le3, f3, q3, g4, by omega, Nat.le_refl _, g5, g6, g7, fun σ f hσ _ hf => r3 σ f hσ trivial hf⟩ _ (z_fu (by omega))
    rintro c L y ⟨m', j', A', o', p', i, u, orW, hco, rfl, rfl, l', lt', le', f', q', ho', hi', hor, hl', hw', hd', r'⟩ f _
    rw [l_Se_readCondition_12, q_Se_readCondition_12]
    have X' : l_X m' j' n q := l_X_fr hX (f'.1 2 (by decide) (by decide)) (f'.2.1 3 (by decide))
    have b' : m' 2 = b := (f'.1 2 (by decide) (by decide)).trans hb
    have s1 := s_Ta_word (X := X) (tx := tx) (D := d) (m := m') (j := j') (w := w) l' (by omega)
    rw [b'] at s1
    have hky := w_ky_lt (b := b) (n := n) (q := q) (p := p')
    have hk1 : ∀ k, k < 19 → w_ky b n q p' = k → w_kd b n q p' = 1 := fun k h1 h2 => ((w_ky_iff h1).mp h2).1
    have z10 : (nI 1 = (0 : Int32)) = False := eq_false (by decide +kernel)
    have z00 : (nI 0 = (0 : Int32)) = True := eq_true (by decide +kernel)
    have hb1 : b_b orW ≤ 1 := by cases orW <;> decide
    have ni20 : ¬ nI 20 ≤ nI i := by rw [b_le (by decide) (by omega)]; omega
    rw [if_neg ni20]
    by_cases c10 : w_ky b n q p' = 10
    · have hkd := hk1 10 (by decide) c10
      have hin : w_pb2 b n q p' < min n q := w_kd_in (by omega) (by omega)
      have nx := w_nx_in hin
      rw [c10] at s1
      obtain ⟨m2, j2, e2, o2⟩ := s_Ta_stepT (X := X) (tx := tx) (D := d) (m := m') (j := j') (w := w) X' l' (by rw [b']; exact hin) (by omega)
      rw [b'] at o2
      have F2 : z_qf m m2 j j2 := z_qf_t f' (z_qf_o o2)
      have Q2 := z_Q_o q' o2
      have s3 := h1 depth hdk m2 j2 A' o' (w_nx b n q p') (pd + 1 + b_b orW) d (z_H_f (pd := pd) (pd2 := pd + 1 + b_b orW) hH F2 o2.1 o2.2.2 Q2 ho' (by omega) hw' (by omega)) (by omega)
      have run1 : ∀ σ f, q_deep σ = depth → q_base σ → n - p < f → ∃ f2, n - w_nx b n q p' < f2 ∧ q_run b n q N S f σ A ones false p = q_run b n q N S f2 (21 :: q_or orW σ) A' o' false (w_nx b n q p') := fun σ f hσ hB hf => by
        obtain ⟨f2, hf2, r2⟩ := r' σ f hσ hB hf
        obtain ⟨f2, rfl⟩ : ∃ f4, f2 = f4 + 1 := ⟨f2 - 1, by omega⟩
        obtain ⟨t1, t2, t3⟩ := q_or_t (o := orW) hB
        refine ⟨f2, by omega, r2.trans ?_⟩
        have hbe : q_be b n q (q_or orW σ) A' p' = .ok (21 :: q_or orW σ, A', false, w_nx b n q p') := by
          unfold q_be
          rw [if_pos c10, q_nots_n t1]
          dsimp only
          rw [q_joins_n t2 (Or.inr (by decide))]
        rw [q_run_bo (by omega) hbe]
      rcases s3 with ⟨m4, j4, e, e4, x4, r4⟩ | ⟨m4, j4, A4, o4, p4, e4, l4, lt4, le4, f4, q4, i3, i4, i5, i6, i7, i8, r4⟩
      · left
        left
        refine ⟨m4, j4, e, ?_, z_qE_t F2 x4, fun σ f hσ hB hf => ?_⟩
        · simp (disch := omega) only [s1, q_Se_readCondition_23, e2, z10, q_Se_readCondition_43, e4, ↓bc_152, ↓bc_1, ↓b_t0, ↓b_t1, ↓b_t2, ↓b_t3, ↓b_t4, ↓b_t5, ↓b_t6, Nat.zero_add, Nat.le_refl, b_rs, b_rn, b_r2, b_ss, b_sn, b_bt, b_bf, b_b0, b_b1, b_bw, b_shl, b_or, b_iv, b_jv, b_sI, b_sJ, ↓z_hl, z_b0, z_b1, z_b2, b_and1c, b_and1z, if_true, if_false, nI_add, pk_mul, b_cl, b_lt, b_le, b_eq, b_eq0, b_le0, b_0lt, b_0le, b_lt0]
        · obtain ⟨f2, hf2, r2⟩ := run1 σ f hσ hB hf
          exact r2.trans (r4 (21 :: q_or orW σ) f2 (by rw [show q_deep (21 :: q_or orW σ) = q_deep (q_or orW σ) from if_neg (by decide), (q_or_t hB).2.2, hσ]) trivial hf2)
      · right
        have s5 := s_Se_add (X := X) (tx := tx) (D := d) (m := m4) (j := j4) (w := w) (by omega) (L := A4.length) (a := 10) (b := 0) (c := 0) q4.2.1 (by omega)
        have hdp4 : z_dp ((21, 0, 0) :: A4) = z_dp A4 - 1 := by
          show (if (21 : Nat) = 20 then z_dp A4 else if (21 : Nat) = 21 ∨ (21 : Nat) = 22 then z_dp A4 - 1 else z_dp A4 + 1) = _
          rw [if_neg (by decide), if_pos (Or.inl rfl)]
        refine ⟨21 - o4, _, _, by omega, ⟨w_add m4 A4.length 10 0 0, j4, (21, 0, 0) :: A4, o4, p4, i + 1, .int (nI 1), orW, by omega, rfl, rfl, l_C_a l4, by omega, le4, z_qf_a (z_qf_t F2 f4), z_Q_add q4 (Or.inr (Or.inl ⟨rfl, rfl⟩)), i4, by omega, by omega, by rw [List.length_cons]; omega, ⟨fun x => absurd (show (21 : Nat) = 20 from x) (by decide), fun _ => by omega, by rw [hdp4]; omega, i6⟩, by rw [hdp4]; omega, fun σ f hσ hB hf => ?_⟩, ?_⟩
        · obtain ⟨f2, hf2, r2⟩ := run1 σ f hσ hB hf
          obtain ⟨f3, hf3, r3⟩ := r4 (21 :: q_or orW σ) f2 (by rw [show q_deep (21 :: q_or orW σ) = q_deep (q_or orW σ) from if_neg (by decide), (q_or_t hB).2.2, hσ]) trivial hf2
          exact ⟨f3, hf3, r2.trans (r3.trans (q_L2 (q_or_t hB).1 f3))⟩
        · simp (disch := omega) only [s1, q_Se_readCondition_23, e2, z10, q_Se_readCondition_43, e4, s5, Nat.one_ne_zero, ↓bc_152, ↓bc_1, ↓b_t0, ↓b_t1, ↓b_t2, ↓b_t3, ↓b_t4, ↓b_t5, ↓b_t6, Nat.zero_add, Nat.le_refl, b_rs, b_rn, b_r2, b_ss, b_sn, b_bt, b_bf, b_b0, b_b1, b_bw, b_shl, b_or, b_iv, b_jv, b_sI, b_sJ, ↓z_hl, z_b0, z_b1, z_b2, b_and1c, b_and1z, if_true, if_false, nI_add, pk_mul, b_cl, b_lt, b_le, b_eq, b_eq0, b_le0, b_0lt, b_0le, b_lt0]
    by_cases c9 : w_ky b n q p' = 9
    · have hkd := hk1 9 (by decide) c9
      have hin : w_pb2 b n q p' < min n q := w_kd_in (by omega) (by omega)
      have nx := w_nx_in hin
      rw [c9] at s1
      obtain ⟨m2, j2, e2, o2⟩ := s_Ta_stepT (X := X) (tx := tx) (D := d) (m := m') (j := j') (w := w) X' l' (by rw [b']; exact hin) (by omega)
      rw [b'] at o2
      have Q2 := z_Q_o q' o2
      have F2 : z_qf m m2 j j2 := z_qf_t f' (z_qf_o o2)
      have z910 : (nI 9 = nI 10) = False := eq_false (by decide +kernel)
      obtain ⟨m5, s5, F5, l5, Q5, hl5, hw5, hd5⟩ : ∃ m5, a_rn X tx (a_ex X tx a_T d) (a_go X tx (a_ex X tx a_T d) k_Se_readCondition_0 f) k_Se_readCondition_23 0 [.ref 152, .ref 1, .ref 4, .int (nI depth), .int (nI (b_b orW)), .int (nI i), u] [] (b_h m' j' w) = a_rn X tx (a_ex X tx a_T d) (a_go X tx (a_ex X tx a_T d) k_Se_readCondition_0 f) k_Se_readCondition_43 0 [.ref 152, .ref 1, .ref 4, .int (nI depth), .int (nI (b_b orW)), .int (nI i), .int (nI 0)] [] (b_h m5 j2 w) ∧ z_qf m m5 j j2 ∧ l_C m5 j2 n q (w_nx b n q p') ∧ z_Q m5 S (q_orA orW A') o' ∧ (q_orA orW A').length + pd + 1 ≤ 2 * o' ∧ z_wf (q_orA orW A') ∧ z_dp (q_orA orW A') = z_dp A + 1 := by
        cases orW with
        | false =>
          refine ⟨m2, ?_, F2, o2.1, Q2, hl', hw', hd'⟩
          rw [q_Se_readCondition_23]
          simp (disch := omega) only [s1, z910, e2, z00, ↓bc_152, ↓bc_1, ↓b_t0, ↓b_t1, ↓b_t2, ↓b_t3, ↓b_t4, ↓b_t5, ↓b_t6, Nat.zero_add, Nat.le_refl, b_rs, b_rn, b_r2, b_ss, b_sn, b_bt, b_bf, b_b0, b_b1, b_bw, b_shl, b_or, b_iv, b_jv, b_sI, b_sJ, ↓z_hl, z_b0, z_b1, z_b2, b_and1c, b_and1z, if_true, if_false, nI_add, pk_mul, b_cl, b_lt, b_le, b_eq, b_eq0, b_le0, b_0lt, b_0le, b_lt0]
        | true =>
          have hl' : A'.length + pd + 1 + 1 ≤ 2 * o' := hl'
          have hd' : z_dp A' = z_dp A + 1 + 1 := hd'
          have s4 := s_Se_add (X := X) (tx := tx) (D := d) (m := m2) (j := j2) (w := w) (by omega) (L := A'.length) (a := 9) (b := 0) (c := 0) Q2.2.1 (by omega)
          have hdp4 : z_dp ((22, 0, 0) :: A') = z_dp A' - 1 := by
            show (if (22 : Nat) = 20 then z_dp A' else if (22 : Nat) = 21 ∨ (22 : Nat) = 22 then z_dp A' - 1 else z_dp A' + 1) = _
            rw [if_neg (by decide), if_pos (Or.inr rfl)]
          refine ⟨w_add m2 A'.length 9 0 0, ?_, z_qf_a F2, l_C_a o2.1, z_Q_add Q2 (Or.inl ⟨rfl, rfl⟩), by show ((22, 0, 0) :: A').length + pd + 1 ≤ 2 * o'; rw [List.length_cons]; omega, ⟨fun x => absurd (show (22 : Nat) = 20 from x) (by decide), fun _ => by omega, by rw [hdp4]; omega, hw'⟩, by show z_dp ((22, 0, 0) :: A') = _; rw [hdp4]; omega⟩
          rw [q_Se_readCondition_23]
          simp (disch := omega) only [s1, z910, e2, z00, z10, s4, ↓bc_152, ↓bc_1, ↓b_t0, ↓b_t1, ↓b_t2, ↓b_t3, ↓b_t4, ↓b_t5, ↓b_t6, Nat.zero_add, Nat.le_refl, b_rs, b_rn, b_r2, b_ss, b_sn, b_bt, b_bf, b_b0, b_b1, b_bw, b_shl, b_or, b_iv, b_jv, b_sI, b_sJ, ↓z_hl, z_b0, z_b1, z_b2, b_and1c, b_and1z, if_true, if_false, nI_add, pk_mul, b_cl, b_lt, b_le, b_eq, b_eq0, b_le0, b_0lt, b_0le, b_lt0]
      have s3 := h1 depth hdk m5 j2 (q_orA orW A') o' (w_nx b n q p') (pd + 1) d (z_H_f (pd := pd) (pd2 := pd + 1) hH F5 l5 o2.2.2 Q5 ho' (by omega) hw5 (by omega)) (by omega)
      have run1 : ∀ σ f, q_deep σ = depth → q_base σ → n - p < f → ∃ f2, n - w_nx b n q p' < f2 ∧ q_run b n q N S f σ A ones false p = q_run b n q N S f2 (22 :: σ) (q_orA orW A') o' false (w_nx b n q p') := fun σ f hσ hB hf => by
        obtain ⟨f2, hf2, r2⟩ := r' σ f hσ hB hf
        obtain ⟨f2, rfl⟩ : ∃ f4, f2 = f4 + 1 := ⟨f2 - 1, by omega⟩
        obtain ⟨t1, t2, t3⟩ := q_or_t (o := orW) hB
        refine ⟨f2, by omega, r2.trans ?_⟩
        have hbe : q_be b n q (q_or orW σ) A' p' = .ok (22 :: σ, q_orA orW A', false, w_nx b n q p') := by
          unfold q_be
          rw [if_neg c10, if_pos c9, q_nots_n t1]
          dsimp only
          rw [q_or_j hB]
        rw [q_run_bo (by omega) hbe]
      have z910b : ¬ (9 : Nat) = 10 := by decide
      rcases s3 with ⟨m4, j4, e, e4, x4, r4⟩ | ⟨m4, j4, A4, o4, p4, e4, l4, lt4, le4, f4, q4, i3, i4, i5, i6, i7, i8, r4⟩
      · left
        left
        refine ⟨m4, j4, e, ?_, z_qE_t F5 x4, fun σ f hσ hB hf => ?_⟩
        · simp (disch := omega) only [s1, z910, s5, q_Se_readCondition_43, e4, ↓bc_152, ↓bc_1, ↓b_t0, ↓b_t1, ↓b_t2, ↓b_t3, ↓b_t4, ↓b_t5, ↓b_t6, Nat.zero_add, Nat.le_refl, b_rs, b_rn, b_r2, b_ss, b_sn, b_bt, b_bf, b_b0, b_b1, b_bw, b_shl, b_or, b_iv, b_jv, b_sI, b_sJ, ↓z_hl, z_b0, z_b1, z_b2, b_and1c, b_and1z, if_true, if_false, nI_add, pk_mul, b_cl, b_lt, b_le, b_eq, b_eq0, b_le0, b_0lt, b_0le, b_lt0]
        · obtain ⟨f2, hf2, r2⟩ := run1 σ f hσ hB hf
          exact r2.trans (r4 (22 :: σ) f2 (by rw [show q_deep (22 :: σ) = q_deep σ from if_neg (by decide), hσ]) trivial hf2)
      · right
        refine ⟨21 - o4, _, _, by omega, ⟨m4, j4, A4, o4, p4, i + 1, .int (nI 0), true, by omega, rfl, rfl, l4, by omega, le4, z_qf_t F5 f4, q4, i4, by omega, by show 1 ≤ i + 1; omega, by show A4.length + pd + 1 + 1 ≤ 2 * o4; omega, i6, by show z_dp A4 = z_dp A + 1 + 1; omega, fun σ f hσ hB hf => ?_⟩, ?_⟩
        · obtain ⟨f2, hf2, r2⟩ := run1 σ f hσ hB hf
          obtain ⟨f3, hf3, r3⟩ := r4 (22 :: σ) f2 (by rw [show q_deep (22 :: σ) = q_deep σ from if_neg (by decide), hσ]) trivial hf2
          exact ⟨f3, hf3, r2.trans r3⟩
        · simp (disch := omega) only [s1, z910, s5, q_Se_readCondition_43, e4, Nat.one_ne_zero, ↓bc_152, ↓bc_1, ↓b_t0, ↓b_t1, ↓b_t2, ↓b_t3, ↓b_t4, ↓b_t5, ↓b_t6, Nat.zero_add, Nat.le_refl, b_rs, b_rn, b_r2, b_ss, b_sn, b_bt, b_bf, b_b0, b_b1, b_bw, b_shl, b_or, b_iv, b_jv, b_sI, b_sJ, ↓z_hl, z_b0, z_b1, z_b2, b_and1c, b_and1z, if_true, if_false, nI_add, pk_mul, b_cl, b_lt, b_le, b_eq, b_eq0, b_le0, b_0lt, b_0le, b_lt0]
    left
    right
    have hky2 : w_ky b n q p' < 4294967296 := by omega
    cases orW with
    | false =>
      refine ⟨m', j', A', o', p', ?_, l', lt', le', f', q', by omega, ho', hl', hw', hd', ⟨c9, c10⟩, r'⟩
      simp (disch := omega) only [s1, ↓bc_152, ↓bc_1, ↓b_t0, ↓b_t1, ↓b_t2, ↓b_t3, ↓b_t4, ↓b_t5, ↓b_t6, Nat.zero_add, Nat.le_refl, b_rs, b_rn, b_r2, b_ss, b_sn, b_bt, b_bf, b_b0, b_b1, b_bw, b_shl, b_or, b_iv, b_jv, b_sI, b_sJ, ↓z_hl, z_b0, z_b1, z_b2, b_and1c, b_and1z, if_true, if_false, nI_add, pk_mul, b_cl, b_lt, b_le, b_eq, b_eq0, b_le0, b_0lt, b_0le, b_lt0]
      rw [if_neg c10, if_neg c9, q_Se_readCondition_64]
      simp (disch := omega) only [z00, ↓bc_152, ↓bc_1, ↓b_t0, ↓b_t1, ↓b_t2, ↓b_t3, ↓b_t4, ↓b_t5, ↓b_t6, Nat.zero_add, Nat.le_refl, b_rs, b_rn, b_r2, b_ss, b_sn, b_bt, b_bf, b_b0, b_b1, b_bw, b_shl, b_or, b_iv, b_jv, b_sI, b_sJ, ↓z_hl, z_b0, z_b1, z_b2, b_and1c, b_and1z, if_true, if_false, nI_add, pk_mul, b_cl, b_lt, b_le, b_eq, b_eq0, b_le0, b_0lt, b_0le, b_lt0]
    | true =>
      have hl' : A'.length + pd + 1 + 1 ≤ 2 * o' := hl'
      have hd' : z_dp A' = z_dp A + 1 + 1 := hd'
      have s4 := s_Se_add (X := X) (tx := tx) (D := d) (m := m') (j := j') (w := w) (by omega) (L := A'.length) (a := 9) (b := 0) (c := 0) q'.2.1 (by omega)
      have hdp4 : z_dp ((22, 0, 0) :: A') = z_dp A' - 1 := by
        show (if (22 : Nat) = 20 then z_dp A' else if (22 : Nat) = 21 ∨ (22 : Nat) = 22 then z_dp A' - 1 else z_dp A' + 1) = _
        rw [if_neg (by decide), if_pos (Or.inr rfl)]
      refine ⟨w_add m' A'.length 9 0 0, j', (22, 0, 0) :: A', o', p', ?_, l_C_a l', lt', le', z_qf_a f', z_Q_add q' (Or.inl ⟨rfl, rfl⟩), by omega, ho', by rw [List.length_cons]; omega, ⟨fun x => absurd (show (22 : Nat) = 20 from x) (by decide), fun _ => by omega, by rw [hdp4]; omega, hw'⟩, by rw [hdp4]; omega, ⟨c9, c10⟩, fun σ f hσ hB hf => ?_⟩
      · simp (disch := omega) only [s1, ↓bc_152, ↓bc_1, ↓b_t0, ↓b_t1, ↓b_t2, ↓b_t3, ↓b_t4, ↓b_t5, ↓b_t6, Nat.zero_add, Nat.le_refl, b_rs, b_rn, b_r2, b_ss, b_sn, b_bt, b_bf, b_b0, b_b1, b_bw, b_shl, b_or, b_iv, b_jv, b_sI, b_sJ, ↓z_hl, z_b0, z_b1, z_b2, b_and1c, b_and1z, if_true, if_false, nI_add, pk_mul, b_cl, b_lt, b_le, b_eq, b_eq0, b_le0, b_0lt, b_0le, b_lt0]
        rw [if_neg c10, if_neg c9, q_Se_readCondition_64]
        simp (disch := omega) only [z10, s4, Nat.one_ne_zero, ↓bc_152, ↓bc_1, ↓b_t0, ↓b_t1, ↓b_t2, ↓b_t3, ↓b_t4, ↓b_t5, ↓b_t6, Nat.zero_add, Nat.le_refl, b_rs, b_rn, b_r2, b_ss, b_sn, b_bt, b_bf, b_b0, b_b1, b_bw, b_shl, b_or, b_iv, b_jv, b_sI, b_sJ, ↓z_hl, z_b0, z_b1, z_b2, b_and1c, b_and1z, if_true, if_false, nI_add, pk_mul, b_cl, b_lt, b_le, b_eq, b_eq0, b_le0, b_0lt, b_0le, b_lt0]
      · obtain ⟨f2, hf2, r2⟩ := r' σ f hσ hB hf
        exact ⟨f2, hf2, r2.trans (q_L3 hB.1 c9 c10 f2)⟩
  rw [l_Se_readCondition_12] at main
  rw [e_Se_readCondition, q_Se_readCondition_0]
  simp (disch := omega) only [e3, Nat.one_ne_zero, ↓bc_152, ↓bc_1, ↓b_t0, ↓b_t1, ↓b_t2, ↓b_t3, ↓b_t4, ↓b_t5, ↓b_t6, Nat.zero_add, Nat.le_refl, b_rs, b_rn, b_r2, b_ss, b_sn, b_bt, b_bf, b_b0, b_b1, b_bw, b_shl, b_or, b_iv, b_jv, b_sI, b_sJ, ↓z_hl, z_b0, z_b1, z_b2, b_and1c, b_and1z, if_true, if_false, nI_add, pk_mul, b_cl, b_lt, b_le, b_eq, b_eq0, b_le0, b_0lt, b_0le, b_lt0]
  exact main
theorem s_Se_all : ∀ k, p_one X tx w b n q N S k ∧ p_cond X tx w b n q N S k
  | 0 => by
    have h := s_Se_one (X := X) (tx := tx) (w := w) (b := b) (n := n) (q := q) (N := N) (S := S) (k := 0) (fun k' hk => absurd hk (by omega))
    exact ⟨h, s_Se_cond h⟩
  | k + 1 => by
    have h := s_Se_one (X := X) (tx := tx) (w := w) (b := b) (n := n) (q := q) (N := N) (S := S) (k := k + 1) (fun k' hk => by
      have : k' = k := by omega
      subst this
      exact s_Se_all k')
    exact ⟨h, s_Se_cond h⟩
end RC
