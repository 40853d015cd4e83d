/-! SENTENCES: the reference's call -/
def y_SR (m j : Nat → Nat → Nat) (w : (Nat × Nat) × Bool) (S : Nat → Nat) (E : Except (Nat × Nat) (List (Nat × Nat × Nat) × Nat)) (r : A_R) : Prop := match E with
  | .ok v => ∃ m2 j2, r = some (b_h (b_r m2 236 (b_rg (b_s S 352 v.1.length) 353 (3 * v.1.length) fun i => m2 238 i)) j2 w, some (.int (nI v.2))) ∧ z_Sf m m2 j j2 ∧ z_cM (m2 238) v.1
  | .error e => ∃ m2 j2, r = some (b_h m2 j2 w, some (.int (nI 4294967295 - nI e.2))) ∧ z_SE m m2 j j2 e
section SR
variable {X : Nat × (Nat → Int32)} {tx : List Int32} {D d : Nat} {m j : Nat → Nat → Nat} {w : (Nat × Nat) × Bool} {b : Nat → Nat} {n q p : Nat} {N S : Nat → Nat} {σ : List Nat} {A : List (Nat × Nat × Nat)} {ones : Nat}
theorem y_SR_e {E : Except (Nat × Nat) (List (Nat × Nat × Nat) × Nat)} {r : A_R} {e : Nat × Nat} {m2 j2 : Nat → Nat → Nat} (hE : E = .error e) (h1 : r = some (b_h m2 j2 w, some (.int (nI 4294967295 - nI (m2 234 16))))) (h2 : z_SE m m2 j j2 e) : y_SR m j w S E r := by
  rw [hE]
  rw [h2.2.1] at h1
  exact ⟨m2, j2, h1, h2⟩
theorem s_Mo_sen79 {f i1 L o : Nat} (hl : m 234 45 = L) (hL : L ≤ 44) (ho : m 234 46 = o) (hf : 200 ≤ f) : a_rn X tx (a_ex X tx a_T d) (a_go X tx (a_ex X tx a_T d) k_Mo_sentence_0 f) k_Mo_sentence_79 0 [.ref 234, .int (nI i1), .int (nI 0)] [] (b_h m j w) = some (b_h (b_r m 236 (b_rg (m 236) 353 (3 * L) fun i => m 238 i)) j w, some (.int (nI o))) := by
  rw [← l_Mo_sentence_79]
  refine z_lp (fun n => [.ref 234, .int (nI i1), .int (nI n)]) (fun n => b_h (b_r m 236 (b_rg (m 236) 353 n fun i => m 238 i)) j w) (3 * L) 0 rfl (by rw [b_rg0, b_rid rfl]) ?_ ?_ _ (by omega)
  · intro n hn f _
    rw [l_Mo_sentence_79, q_Mo_sentence_79]
    simp (disch := omega) only [hl, ↓bc_234, ↓br_234_6, ↓bc_236, ↓bx_236, bl_236, ↓br_234_8, ↓bc_238, ↓bx_238, bl_238, ↓b_t0, ↓b_t1, ↓b_t2, ↓b_t3, ↓b_t4, ↓b_t5, ↓b_t6, Nat.zero_add, Nat.le_refl, b_rs, b_rn, b_r2, b_ss, b_sn, b_bt, b_bf, b_b0, b_b1, b_bw, b_shl, b_or, b_iv, b_jv, b_sI, b_sJ, ↓z_hl, z_b0, z_b1, z_b2, b_and1c, b_and1z, if_true, if_false, nI_add, pk_mul, b_cl, b_lt, b_le, b_eq, b_eq0, b_le0, b_0lt, b_0le, b_lt0]
    rw [if_neg (by omega), b_rg1' rfl rfl]
  · intro f _
    rw [l_Mo_sentence_79, q_Mo_sentence_79]
    simp (disch := omega) only [hl, ho, ↓bc_234, ↓br_234_6, ↓bc_236, ↓bx_236, bl_236, ↓br_234_8, ↓bc_238, ↓bx_238, bl_238, ↓b_t0, ↓b_t1, ↓b_t2, ↓b_t3, ↓b_t4, ↓b_t5, ↓b_t6, Nat.zero_add, Nat.le_refl, b_rs, b_rn, b_r2, b_ss, b_sn, b_bt, b_bf, b_b0, b_b1, b_bw, b_shl, b_or, b_iv, b_jv, b_sI, b_sJ, ↓z_hl, z_b0, z_b1, z_b2, b_and1c, b_and1z, if_true, if_false, nI_add, pk_mul, b_cl, b_lt, b_le, b_eq, b_eq0, b_le0, b_0lt, b_0le, b_lt0]
theorem s_Mo_senR {u : Value} (h : y_Z m j b n q N S [] [] 0 false p) (hi : i_S S) (hb : z_nb N S) (hd : 8 ≤ d) : ∀ F, 300 + (n + 2) < F → y_SR m j w S (q_run b n q N S (n + 1) [] [] 0 false p) (a_go X tx (a_ex X tx a_T d) k_Mo_sentence_0 F 28 [.ref 234, .int (nI 1), u] (b_h m j w)) := by
  intro F hF
  refine z_run (Q := y_SR m j w S (q_run b n q N S (n + 1) [] [] 0 false p)) (fun c L y => (∃ m' j' σ' A' o' wh' p' k, c = k + 1 ∧ L = [.ref 234, .int (nI 1), u] ∧ y = b_h m' j' w ∧ y_Z m' j' b n q N S σ' A' o' wh' p' ∧ z_Sf m m' j j' ∧ q_run b n q N S (n + 1) [] [] 0 false p = q_run b n q N S k σ' A' o' wh' p' ∧ n - p' < k) ∨ (∃ m' j' A' o', c = 0 ∧ L = [.ref 234, .int (nI 0), u] ∧ y = b_h m' j' w ∧ m' 236 = S ∧ m' 234 45 = A'.length ∧ A'.length ≤ 44 ∧ m' 234 46 = o' ∧ z_cM (m' 238) A' ∧ z_Sf m m' j j' ∧ q_run b n q N S (n + 1) [] [] 0 false p = .ok (A', o'))) 300 ?_ (n + 2) _ _ (Or.inl ⟨m, j, [], [], 0, false, p, n + 1, rfl, rfl, rfl, h, z_Sf_r, rfl, by omega⟩) F hF
  rintro c L y (⟨m', j', σ', A', o', wh', p', k, rfl, rfl, rfl, hZ, hf, hk, hc⟩ | ⟨m', j', A', o', rfl, rfl, rfl, g1, g2, g3, g4, g5, g6, g7⟩) f hF2
  · obtain ⟨k, rfl⟩ : ∃ k2, k = k2 + 1 := ⟨k - 1, by omega⟩
    rw [l_Mo_sentence_28, q_Mo_sentence_28]
    obtain ⟨hX, hM, hp, hS, hN, hK, h46, h49, hc1, hc2, hc3⟩ := id hZ
    have z10 : (nI 1 = (0 : Int32)) = False := eq_false (by decide +kernel)
    have tk := l_M_tk hM
    have hkr := w_kr_lt (k := w_kd b n q p')
    have hpl := w_pl_le (b := b) (n := n) (q := q) (p := p')
    cases wh' with
    | false =>
      have h49 : m' 234 49 = 0 := h49
      have s1 := s_Mo_operand (X := X) (tx := tx) (D := d) (w := w) hZ hi hb (by omega)
      cases q1 : q_op b n q N S σ' A' o' p' with
      | error e =>
        left
        rw [q1] at s1
        obtain ⟨m2, j2, e1, e2⟩ := s1
        refine y_SR_e (hk.trans (q_run_oe q1)) (m2 := m2) (j2 := j2) ?_ (z_SE_t hf e2)
        simp only [z10, if_false]
        simp (disch := omega) only [h49, q_Mo_sentence_56, e1, ↓bc_234, ↓br_234_6, ↓bc_236, ↓bx_236, bl_236, ↓br_234_8, ↓bc_238, ↓bx_238, bl_238, ↓b_t0, ↓b_t1, ↓b_t2, ↓b_t3, ↓b_t4, ↓b_t5, ↓b_t6, Nat.zero_add, Nat.le_refl, b_rs, b_rn, b_r2, b_ss, b_sn, b_bt, b_bf, b_b0, b_b1, b_bw, b_shl, b_or, b_iv, b_jv, b_sI, b_sJ, ↓z_hl, z_b0, z_b1, z_b2, b_and1c, b_and1z, if_true, if_false, nI_add, pk_mul, b_cl, b_lt, b_le, b_eq, b_eq0, b_le0, b_0lt, b_0le, b_lt0]
      | ok y =>
        right
        rw [q1] at s1
        obtain ⟨m2, j2, e1, e2, e3⟩ := s1
        have hp2 : p' < y.2.2.2 := by
          have hky := w_ky_lt (b := b) (n := n) (q := q) (p := p')
          have hk1 : ∀ k, k < 19 → w_ky b n q p' = k → w_kd b n q p' = 1 := fun k h1 h2 => ((w_ky_iff h1).mp h2).1
          unfold q_op at q1
          by_cases c1 : w_ky b n q p' ≠ 11 ∧ w_kd b n q p' ≠ 40 ∧ (w_ky b n q p' < 12 ∨ 18 < w_ky b n q p')
          · rw [if_pos c1] at q1
            exact z_exn q1
          rw [if_neg c1] at q1
          by_cases c4 : o' = 20 ∨ 8 < q_deep σ'
          · rw [if_pos c4] at q1
            exact z_exn q1
          rw [if_neg c4] at q1
          have hkd : w_kd b n q p' = 40 ∨ w_kd b n q p' = 1 := by
            by_cases x : w_kd b n q p' = 40
            · exact Or.inl x
            · exact Or.inr (hk1 _ (by omega) rfl)
          have nx := w_nx_in (w_kd_in (b := b) (n := n) (q := q) (p := p') (by omega) (by omega))
          by_cases c40 : w_kd b n q p' = 40
          · rw [if_pos c40] at q1
            rw [← Except.ok.inj q1]
            exact nx.1
          rw [if_neg c40] at q1
          by_cases c11 : w_ky b n q p' = 11
          · rw [if_pos c11] at q1
            rw [← Except.ok.inj q1]
            exact nx.1
          rw [if_neg c11] at q1
          cases q2 : q_leaf b n q N S A' (w_ky b n q p') (w_nx b n q p') with
          | error e =>
            rw [q2] at q1
            exact z_exn q1
          | ok z =>
            rw [q2] at q1
            have := q_leaf_ok nx.2 q2
            rw [← Except.ok.inj q1]
            show p' < z.2
            omega
        have hpn := e2.2.2.1
        refine ⟨k + 1, [.ref 234, .int (nI 1), u], b_h m2 j2 w, by omega, Or.inl ⟨m2, j2, y.1, y.2.1, o' + 1, y.2.2.1, y.2.2.2, k, rfl, rfl, rfl, e2, z_Sf_t hf e3, hk.trans (q_run_oo q1), by omega⟩, ?_⟩
        simp only [z10, if_false]
        simp (disch := omega) only [h49, q_Mo_sentence_56, e1, Nat.one_ne_zero, ↓bc_234, ↓br_234_6, ↓bc_236, ↓bx_236, bl_236, ↓br_234_8, ↓bc_238, ↓bx_238, bl_238, ↓b_t0, ↓b_t1, ↓b_t2, ↓b_t3, ↓b_t4, ↓b_t5, ↓b_t6, Nat.zero_add, Nat.le_refl, b_rs, b_rn, b_r2, b_ss, b_sn, b_bt, b_bf, b_b0, b_b1, b_bw, b_shl, b_or, b_iv, b_jv, b_sI, b_sJ, ↓z_hl, z_b0, z_b1, z_b2, b_and1c, b_and1z, if_true, if_false, nI_add, pk_mul, b_cl, b_lt, b_le, b_eq, b_eq0, b_le0, b_0lt, b_0le, b_lt0]
    | true =>
      have h49 : m' 234 49 = 1 := h49
      by_cases c3 : w_kd b n q p' = 3
      · have t0 : m' 234 11 = 0 := tk.trans (w_kr_0.mpr c3)
        obtain ⟨m1, m2, e1, e2, f1, f2, k2⟩ := s_Mo_njs (X := X) (tx := tx) (D := d) (w := w) hZ (by omega) (till := 22) (Or.inr rfl)
        have hM2 : l_M m2 j' b n q p' := l_M_kf hM f2
        have sb := s_Mo_bad (X := X) (tx := tx) (D := d) (m := m2) (j := j') (w := w) hM2 (by omega) (k := 1)
        have F2 : z_Sf m m2 j j' := z_Sf_t hf (z_Sf_k f2)
        rw [q_run_w, if_pos c3] at hk
        generalize q_joins 22 (q_nots σ' A').1 (q_nots σ' A').2 = r at k2 hk
        obtain ⟨r1, r2⟩ := r
        cases r1 with
        | nil =>
          right
          have g47 : m2 234 47 = 0 := k2.2.1
          refine ⟨0, [.ref 234, .int (nI 0), u], b_h m2 j' w, by omega, Or.inr ⟨m2, j', r2, o', rfl, rfl, rfl, (f2.1 236 (by decide) (by decide)).trans hS, k2.1, by have : r2.length + q_no [] ≤ 44 := k2.2.2.2.2.2.2.1; omega, (f2.2 46 (by decide) (by decide) (by decide)).trans h46, k2.2.2.2.2.1, F2, hk.trans (if_pos rfl)⟩, ?_⟩
          simp only [z10, if_false]
          simp (disch := omega) only [h49, t0, e1, e2, g47, Nat.one_ne_zero, ↓bc_234, ↓br_234_6, ↓bc_236, ↓bx_236, bl_236, ↓br_234_8, ↓bc_238, ↓bx_238, bl_238, ↓b_t0, ↓b_t1, ↓b_t2, ↓b_t3, ↓b_t4, ↓b_t5, ↓b_t6, Nat.zero_add, Nat.le_refl, b_rs, b_rn, b_r2, b_ss, b_sn, b_bt, b_bf, b_b0, b_b1, b_bw, b_shl, b_or, b_iv, b_jv, b_sI, b_sJ, ↓z_hl, z_b0, z_b1, z_b2, b_and1c, b_and1z, if_true, if_false, nI_add, pk_mul, b_cl, b_lt, b_le, b_eq, b_eq0, b_le0, b_0lt, b_0le, b_lt0]
        | cons t σ3 =>
          left
          have g47 : m2 234 47 = σ3.length + 1 := k2.2.1
          have k28 : σ3.length + 1 ≤ 44 := k2.2.2.2.2.2.2.2
          refine y_SR_e (hk.trans (if_neg (fun x => by cases x))) ?_ (z_SE_t F2 (z_SE_x x_M_bad))
          simp only [z10, if_false]
          simp (disch := omega) only [h49, t0, e1, e2, g47, sb, Nat.one_ne_zero, ↓bc_234, ↓br_234_6, ↓bc_236, ↓bx_236, bl_236, ↓br_234_8, ↓bc_238, ↓bx_238, bl_238, ↓b_t0, ↓b_t1, ↓b_t2, ↓b_t3, ↓b_t4, ↓b_t5, ↓b_t6, Nat.zero_add, Nat.le_refl, b_rs, b_rn, b_r2, b_ss, b_sn, b_bt, b_bf, b_b0, b_b1, b_bw, b_shl, b_or, b_iv, b_jv, b_sI, b_sJ, ↓z_hl, z_b0, z_b1, z_b2, b_and1c, b_and1z, if_true, if_false, nI_add, pk_mul, b_cl, b_lt, b_le, b_eq, b_eq0, b_le0, b_0lt, b_0le, b_lt0]
          rw [if_neg (by omega)]
      · have t0 : ¬ m' 234 11 = 0 := fun x => c3 (w_kr_0.mp (tk.symm.trans x))
        have s1 := s_Mo_behind (X := X) (tx := tx) (D := d) (w := w) hZ (by omega)
        cases q1 : q_be b n q σ' A' p' with
        | error e =>
          left
          rw [q1] at s1
          obtain ⟨m2, j2, e1, e2⟩ := s1
          refine y_SR_e (hk.trans (q_run_be c3 q1)) (m2 := m2) (j2 := j2) ?_ (z_SE_t hf e2)
          simp only [z10, if_false]
          simp (disch := omega) only [h49, q_Mo_sentence_56, e1, Nat.one_ne_zero, ↓bc_234, ↓br_234_6, ↓bc_236, ↓bx_236, bl_236, ↓br_234_8, ↓bc_238, ↓bx_238, bl_238, ↓b_t0, ↓b_t1, ↓b_t2, ↓b_t3, ↓b_t4, ↓b_t5, ↓b_t6, Nat.zero_add, Nat.le_refl, b_rs, b_rn, b_r2, b_ss, b_sn, b_bt, b_bf, b_b0, b_b1, b_bw, b_shl, b_or, b_iv, b_jv, b_sI, b_sJ, ↓z_hl, z_b0, z_b1, z_b2, b_and1c, b_and1z, if_true, if_false, nI_add, pk_mul, b_cl, b_lt, b_le, b_eq, b_eq0, b_le0, b_0lt, b_0le, b_lt0]
          rw [if_neg t0]
        | ok y =>
          right
          rw [q1] at s1
          obtain ⟨m2, j2, e1, e2, e3⟩ := s1
          have hp2 : p' < y.2.2.2 := by
            have hk1 : ∀ k, k < 19 → w_ky b n q p' = k → w_kd b n q p' = 1 := fun k h1 h2 => ((w_ky_iff h1).mp h2).1
            unfold q_be at q1
            by_cases c10 : w_ky b n q p' = 10
            · have := hk1 10 (by decide) c10
              rw [if_pos c10] at q1
              rw [← Except.ok.inj q1]
              exact (w_nx_in (w_kd_in (b := b) (n := n) (q := q) (p := p') (by omega) (by omega))).1
            rw [if_neg c10] at q1
            by_cases c9 : w_ky b n q p' = 9
            · have := hk1 9 (by decide) c9
              rw [if_pos c9] at q1
              rw [← Except.ok.inj q1]
              exact (w_nx_in (w_kd_in (b := b) (n := n) (q := q) (p := p') (by omega) (by omega))).1
            rw [if_neg c9] at q1
            by_cases c41 : w_kd b n q p' = 41
            · rw [if_pos c41] at q1
              generalize q_joins 22 (q_nots σ' A').1 (q_nots σ' A').2 = r at q1
              obtain ⟨r1, r2⟩ := r
              cases r1 with
              | nil => exact z_exn q1
              | cons t σ3 =>
                rw [← Except.ok.inj q1]
                exact (w_nx_in (w_kd_in (b := b) (n := n) (q := q) (p := p') (by omega) (by omega))).1
            · rw [if_neg c41] at q1
              exact z_exn q1
          have hpn := e2.2.2.1
          refine ⟨k + 1, [.ref 234, .int (nI 1), u], b_h m2 j2 w, by omega, Or.inl ⟨m2, j2, y.1, y.2.1, o', y.2.2.1, y.2.2.2, k, rfl, rfl, rfl, e2, z_Sf_t hf e3, hk.trans (q_run_bo c3 q1), by omega⟩, ?_⟩
          simp only [z10, if_false]
          simp (disch := omega) only [h49, q_Mo_sentence_56, e1, Nat.one_ne_zero, ↓bc_234, ↓br_234_6, ↓bc_236, ↓bx_236, bl_236, ↓br_234_8, ↓bc_238, ↓bx_238, bl_238, ↓b_t0, ↓b_t1, ↓b_t2, ↓b_t3, ↓b_t4, ↓b_t5, ↓b_t6, Nat.zero_add, Nat.le_refl, b_rs, b_rn, b_r2, b_ss, b_sn, b_bt, b_bf, b_b0, b_b1, b_bw, b_shl, b_or, b_iv, b_jv, b_sI, b_sJ, ↓z_hl, z_b0, z_b1, z_b2, b_and1c, b_and1z, if_true, if_false, nI_add, pk_mul, b_cl, b_lt, b_le, b_eq, b_eq0, b_le0, b_0lt, b_0le, b_lt0]
          rw [if_neg t0]
  · left
    rw [g7]
    have s1 := s_Mo_sen79 (X := X) (tx := tx) (d := d) (m := b_r m' 236 (b_s (m' 236) 352 A'.length)) (j := j') (w := w) (f := f) (i1 := 0) (L := A'.length) (o := o') (by rw [b_rn (by decide)]; exact g2) g3 (by rw [b_rn (by decide)]; exact g4) (by omega)
    rw [b_r2, b_rs, b_rn (c := 236) (c2 := 238) (by decide), g1] at s1
    refine ⟨m', j', ?_, g6, g5⟩
    rw [l_Mo_sentence_28, q_Mo_sentence_28, if_pos (by decide +kernel)]
    simp (disch := omega) only [g2, g1, ↓bc_234, ↓br_234_6, ↓bc_236, ↓bx_236, bl_236, ↓br_234_8, ↓bc_238, ↓bx_238, bl_238, ↓b_t0, ↓b_t1, ↓b_t2, ↓b_t3, ↓b_t4, ↓b_t5, ↓b_t6, Nat.zero_add, Nat.le_refl, b_rs, b_rn, b_r2, b_ss, b_sn, b_bt, b_bf, b_b0, b_b1, b_bw, b_shl, b_or, b_iv, b_jv, b_sI, b_sJ, ↓z_hl, z_b0, z_b1, z_b2, b_and1c, b_and1z, if_true, if_false, nI_add, pk_mul, b_cl, b_lt, b_le, b_eq, b_eq0, b_le0, b_0lt, b_0le, b_lt0]
    exact s1
end SR
