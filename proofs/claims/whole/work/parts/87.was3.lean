/-! WAS: the reference's side, the step -/
section WC
variable {X : Nat × (Nat → Int32)} {tx : List Int32} {D : Nat} {m j : Nat → Nat → Nat} {w : (Nat × Nat) × Bool}
theorem s_Mo_octet (hD : 1 ≤ D) {i : Nat} (hi : i < 940) : a_ex X tx a_T D 206 [.ref 234, .int (nI i)] (b_h m j w) = some ((b_h m j w), some (.int (nI (m 235 i % 256)))) := by
  obtain ⟨d, rfl⟩ : ∃ d, D = d + 1 := ⟨D - 1, by omega⟩
  rw [e_Mo_octet, q_Mo_octet_0]
  have e1 : m 235 i &&& 255 = m 235 i % 256 := Nat.and_two_pow_sub_one_eq_mod (m 235 i) 8
  simp (disch := omega) only [bk_235, or_true, b_and, e1, ↓bc_234, ↓br_234_1, ↓bc_235, ↓bx_235, bl_235, bk_235, ↓b_t0, ↓b_t1, ↓b_t2, ↓b_t3, ↓b_t4, ↓b_t5, ↓b_t6, Nat.zero_add, Nat.le_refl, b_rs, b_rn, b_r2, b_ss, b_sn, b_bt, b_bf, b_b0, b_b1, b_bw, b_shl, b_or, b_iv, b_jv, b_sI, b_sJ, ↓z_hl, z_b0, z_b1, z_b2, b_and1c, b_and1z, if_true, if_false, nI_add, pk_mul, b_cl, b_lt, b_le, b_eq, b_eq0, b_le0, b_0lt, b_0le, b_lt0]
theorem s_Mo_greaterL (hD : 1 ≤ D) {A C : Nat} (hA : A < 1000) (hC : C < 1000) : a_ex X tx a_T D 204 [.int (nI 0), .int (nI (w_lf A C))] (b_h m j w) = some ((b_h m j w), some (.int (nI (A - C)))) := by
  unfold w_lf
  by_cases c : C ≤ A
  · rw [if_pos c]
    have := s_Mo_greater (X := X) (tx := tx) (D := D) (m := m) (j := j) (w := w) hD (a := 0) (b := A - C) (by decide) (by omega)
    rw [Nat.zero_max] at this
    exact this
  · rw [if_neg c, show A - C = 0 by omega]
    exact s_Mo_greatern hD (by omega) (by omega)
theorem s_Mo_wasIt (hS : i_S (m 236)) (hD : 5 ≤ D) {t P : Nat} (ht : t < m 236 2) (hP : P < 2 ^ m 236 3) : ∃ m2, a_ex X tx a_T D 276 [.ref 234, .int (nI t), .int (nI P)] (b_h m j w) = some (b_h m2 j w, some (.int (nI (b_b (w_cmq (m 236) (fun i => m 235 i % 256) P t))))) ∧ z_fr 243 243 m m2 := by
  obtain ⟨d, rfl⟩ : ∃ d, D = d + 1 := ⟨D - 1, by omega⟩
  have hE := i_S_E hS
  have hK := i_S_K hS
  have hT := i_S_T hS
  have hPw : 2 ^ m 236 3 ≤ 1024 := Nat.pow_le_pow_right (n := 2) (by decide) hE
  have hr : ∀ k, k < 6 → m 236 (19 + 6 * t + k) ≤ 99 := fun k hk => by have := i_S_ot hS t (by omega) k hk; omega
  rw [e_Mo_wasIt, q_Mo_wasIt_0]
  simp (disch := omega) only [↓bc_234, ↓br_234_6, ↓bc_236, ↓bx_236, bl_236, ↓br_234_24, ↓bc_243, ↓bx_243, bl_243, bk_243, ↓b_t0, ↓b_t1, ↓b_t2, ↓b_t3, ↓b_t4, ↓b_t5, ↓b_t6, Nat.zero_add, Nat.le_refl, b_rs, b_rn, b_r2, b_ss, b_sn, b_bt, b_bf, b_b0, b_b1, b_bw, b_shl, b_or, b_iv, b_jv, b_sI, b_sJ, ↓z_hl, z_b0, z_b1, z_b2, b_and1c, b_and1z, if_true, if_false, nI_add, pk_mul, b_cl, b_lt, b_le, b_eq, b_eq0, b_le0, b_0lt, b_0le, b_lt0]
  rw [← l_Mo_wasIt_8]
  refine z_run (Q := fun q => ∃ m2, q = some (b_h m2 j w, some (.int (nI (b_b (w_cmq (m 236) (fun i => m 235 i % 256) P t))))) ∧ z_fr 243 243 m m2) (fun q L h => ∃ k, q + k = m 236 0 ∧ w_lvs (m 236) (fun i => m 235 i % 256) t P k = true ∧ L = [.ref 234, .int (nI t), .int (nI P), .int (nI (19 + 6 * t)), .int (nI k)] ∧ h = b_h m j w) 0 ?_ (m 236 0) _ _ ⟨0, by omega, rfl, rfl, rfl⟩ _ (z_fu (by omega))
  rintro q L h ⟨k, hq, ha, rfl, rfl⟩ f _
  rw [l_Mo_wasIt_8, q_Mo_wasIt_8]
  by_cases c : k = m 236 0
  · left
    subst c
    obtain ⟨m2, s1, k1, k2⟩ := s_Mo_cans (X := X) (tx := tx) (D := d) (m := m) (j := j) (w := w) hS (by omega) (r := 19 + 6 * t) (K := P) (by omega) hr (by omega)
    have hv := k2 P hP
    have e1 : w_cna (w_fbh (m 236) (19 + 6 * t)) P P = w_cmq (m 236) (fun i => m 235 i % 256) P t := by
      unfold w_cna w_cmq
      rw [decide_eq_true ((w_and_nx (by omega)).mpr (Nat.and_self P)), ha]
    rw [e1] at hv
    refine ⟨m2, ?_, k1⟩
    simp (disch := omega) only [s1, hv, bk_243, true_or, ↓bc_234, ↓br_234_6, ↓bc_236, ↓bx_236, bl_236, ↓br_234_24, ↓bc_243, ↓bx_243, bl_243, bk_243, ↓b_t0, ↓b_t1, ↓b_t2, ↓b_t3, ↓b_t4, ↓b_t5, ↓b_t6, Nat.zero_add, Nat.le_refl, b_rs, b_rn, b_r2, b_ss, b_sn, b_bt, b_bf, b_b0, b_b1, b_bw, b_shl, b_or, b_iv, b_jv, b_sI, b_sJ, ↓z_hl, z_b0, z_b1, z_b2, b_and1c, b_and1z, if_true, if_false, nI_add, pk_mul, b_cl, b_lt, b_le, b_eq, b_eq0, b_le0, b_0lt, b_0le, b_lt0]
  · have h1 := i_S_ot hS t (by omega) k (by omega)
    have h4 := w_cs_le hS (S := P) (k := k) (by omega)
    have s1 := s_Mo_rest (X := X) (tx := tx) (D := d) (m := m) (j := j) (w := w) hS (by omega) (r := 19 + 6 * t) (S := P) (k := k) (by omega) (by omega) (by omega) (by omega)
    have s2 := s_Mo_greaterL (X := X) (tx := tx) (D := d) (m := m) (j := j) (w := w) (by omega) (A := m 236 (19 + 6 * t + k)) (C := w_cs (m 236) P k) (by omega) (by omega)
    have s3 := s_Mo_octet (X := X) (tx := tx) (D := d) (m := m) (j := j) (w := w) (by omega) (i := k) (by omega)
    have h5 : m 235 k % 256 < 256 := Nat.mod_lt _ (by decide)
    have hw : w_lvs (m 236) (fun i => m 235 i % 256) t P (k + 1) = (w_lvs (m 236) (fun i => m 235 i % 256) t P k && decide (m 236 (19 + 6 * t + k) - w_cs (m 236) P k = m 235 k % 256)) := rfl
    by_cases c2 : m 236 (19 + 6 * t + k) - w_cs (m 236) P k = m 235 k % 256
    · right
      refine ⟨q - 1, [.ref 234, .int (nI t), .int (nI P), .int (nI (19 + 6 * t)), .int (nI (k + 1))], _, by omega, ⟨k + 1, by omega, by rw [hw, ha, decide_eq_true c2]; rfl, rfl, rfl⟩, ?_⟩
      simp (disch := omega) only [s1, s2, s3, ↓bc_234, ↓br_234_6, ↓bc_236, ↓bx_236, bl_236, ↓br_234_24, ↓bc_243, ↓bx_243, bl_243, bk_243, ↓b_t0, ↓b_t1, ↓b_t2, ↓b_t3, ↓b_t4, ↓b_t5, ↓b_t6, Nat.zero_add, Nat.le_refl, b_rs, b_rn, b_r2, b_ss, b_sn, b_bt, b_bf, b_b0, b_b1, b_bw, b_shl, b_or, b_iv, b_jv, b_sI, b_sJ, ↓z_hl, z_b0, z_b1, z_b2, b_and1c, b_and1z, if_true, if_false, nI_add, pk_mul, b_cl, b_lt, b_le, b_eq, b_eq0, b_le0, b_0lt, b_0le, b_lt0]
      rw [if_neg (by omega), if_pos c2]
    · left
      have e1 : w_cmq (m 236) (fun i => m 235 i % 256) P t = false := by
        unfold w_cmq
        have e2 : w_lvs (m 236) (fun i => m 235 i % 256) t P (m 236 0) = false := Bool.eq_false_iff.mpr fun g => by
          unfold w_lvs at g
          exact c2 (of_decide_eq_true ((z_all_iff _ _).mp g k (by omega)))
        rw [e2]; rfl
      rw [e1]
      refine ⟨m, ?_, z_fr_rf⟩
      simp (disch := omega) only [s1, s2, s3, ↓bc_234, ↓br_234_6, ↓bc_236, ↓bx_236, bl_236, ↓br_234_24, ↓bc_243, ↓bx_243, bl_243, bk_243, ↓b_t0, ↓b_t1, ↓b_t2, ↓b_t3, ↓b_t4, ↓b_t5, ↓b_t6, Nat.zero_add, Nat.le_refl, b_rs, b_rn, b_r2, b_ss, b_sn, b_bt, b_bf, b_b0, b_b1, b_bw, b_shl, b_or, b_iv, b_jv, b_sI, b_sJ, ↓z_hl, z_b0, z_b1, z_b2, b_and1c, b_and1z, if_true, if_false, nI_add, pk_mul, b_cl, b_lt, b_le, b_eq, b_eq0, b_le0, b_0lt, b_0le, b_lt0]
      rw [if_neg (by omega), if_neg c2]
theorem w_isn_1 {s : Nat → Nat} {S k t u : Nat} : w_isn s S k t (u + 1) = (w_isn s S k t u && !(S.testBit u && decide (s (19 + 6 * u + k) = s (19 + 6 * t + k)))) := by
  unfold w_isn
  rw [show z_any (fun u => S.testBit u && decide (s (19 + 6 * u + k) = s (19 + 6 * t + k))) (u + 1) = (z_any (fun u => S.testBit u && decide (s (19 + 6 * u + k) = s (19 + 6 * t + k))) u || (S.testBit u && decide (s (19 + 6 * u + k) = s (19 + 6 * t + k)))) from rfl, Bool.not_or, Bool.and_assoc]
theorem s_Mo_unlike (hS : i_S (m 236)) (hD : 2 ≤ D) {S k : Nat} (hs : S < 256) (hk : k < 6) : a_ex X tx a_T D 277 [.ref 234, .int (nI S), .int (nI k)] (b_h m j w) = some ((b_h m j w), some (.int (nI (w_unl (m 236) S k (m 236 2))))) := by
  obtain ⟨d, rfl⟩ : ∃ d, D = d + 1 := ⟨D - 1, by omega⟩
  rw [e_Mo_unlike, q_Mo_unlike_0]
  have hT := i_S_T hS
  rw [← l_Mo_unlike_4]
  refine z_runT (Q := fun r => r = some (b_h m j w, some (.int (nI (w_unl (m 236) S k (m 236 2)))))) (fun q c L h => h = b_h m j w ∧ ((∃ t u5 u6, c = 4 ∧ q + 20 * t = 200 ∧ t ≤ m 236 2 ∧ L = [.ref 234, .int (nI S), .int (nI k), .int (nI (w_unl (m 236) S k t)), .int (nI t), u5, u6]) ∨ (∃ t u, c = 16 ∧ q + 20 * t + u + 1 = 200 ∧ t < m 236 2 ∧ u ≤ t ∧ L = [.ref 234, .int (nI S), .int (nI k), .int (nI (w_unl (m 236) S k t)), .int (nI t), .int (nI (b_b (w_isn (m 236) S k t u))), .int (nI u)]))) 0 ?_ 200 4 _ _ ⟨rfl, Or.inl ⟨0, _, _, rfl, by omega, by omega, rfl⟩⟩ _ (z_fu (by omega))
  rintro q c L h ⟨rfl, ⟨t, u5, u6, rfl, hq, ht, rfl⟩ | ⟨t, u, rfl, hq, ht, hu, rfl⟩⟩ f _
  · rw [l_Mo_unlike_4, q_Mo_unlike_4]
    have hl := w_unl_le (s := m 236) (S := S) (k := k) (n := t)
    by_cases c : t = m 236 2
    · left
      subst c
      simp (disch := omega) only [↓bc_234, ↓br_234_6, ↓bc_236, ↓bx_236, bl_236, ↓b_t0, ↓b_t1, ↓b_t2, ↓b_t3, ↓b_t4, ↓b_t5, ↓b_t6, Nat.zero_add, Nat.le_refl, b_rs, b_rn, b_r2, b_ss, b_sn, b_bt, b_bf, b_b0, b_b1, b_bw, b_shl, b_or, b_iv, b_jv, b_sI, b_sJ, ↓z_hl, z_b0, z_b1, z_b2, b_and1c, b_and1z, if_true, if_false, nI_add, pk_mul, b_cl, b_lt, b_le, b_eq, b_eq0, b_le0, b_0lt, b_0le, b_lt0]
    · right
      refine ⟨q - 1, 16, [.ref 234, .int (nI S), .int (nI k), .int (nI (w_unl (m 236) S k t)), .int (nI t), .int (nI (b_b (w_isn (m 236) S k t 0))), .int (nI 0)], _, by omega, ⟨rfl, Or.inr ⟨t, 0, rfl, by omega, by omega, Nat.zero_le _, rfl⟩⟩, Or.inr ?_⟩
      have e1 : w_isn (m 236) S k t 0 = S.testBit t := by unfold w_isn; exact Bool.and_true _
      rw [l_Mo_unlike_16, e1]
      simp (disch := omega) only [s_Mo_bitOf, ↓bc_234, ↓br_234_6, ↓bc_236, ↓bx_236, bl_236, ↓b_t0, ↓b_t1, ↓b_t2, ↓b_t3, ↓b_t4, ↓b_t5, ↓b_t6, Nat.zero_add, Nat.le_refl, b_rs, b_rn, b_r2, b_ss, b_sn, b_bt, b_bf, b_b0, b_b1, b_bw, b_shl, b_or, b_iv, b_jv, b_sI, b_sJ, ↓z_hl, z_b0, z_b1, z_b2, b_and1c, b_and1z, if_true, if_false, nI_add, pk_mul, b_cl, b_lt, b_le, b_eq, b_eq0, b_le0, b_0lt, b_0le, b_lt0]
      rw [if_neg (by omega)]
  · rw [l_Mo_unlike_16, q_Mo_unlike_16]
    right
    have hl := w_unl_le (s := m 236) (S := S) (k := k) (n := t)
    have e1 : w_unl (m 236) S k (t + 1) = w_unl (m 236) S k t + b_b (w_isn (m 236) S k t t) := rfl
    by_cases c : u = t
    · subst c
      refine ⟨200 - 20 * (u + 1), 4, [.ref 234, .int (nI S), .int (nI k), .int (nI (w_unl (m 236) S k u + b_b (w_isn (m 236) S k u u))), .int (nI (u + 1)), .int (nI (b_b (w_isn (m 236) S k u u))), .int (nI u)], _, by omega, ⟨rfl, Or.inl ⟨u + 1, _, _, rfl, by omega, by omega, by rw [e1]⟩⟩, Or.inl ?_⟩
      cases w_isn (m 236) S k u u with
      | true => simp (disch := omega) only [Nat.one_ne_zero, ↓bc_234, ↓br_234_6, ↓bc_236, ↓bx_236, bl_236, ↓b_t0, ↓b_t1, ↓b_t2, ↓b_t3, ↓b_t4, ↓b_t5, ↓b_t6, Nat.zero_add, Nat.le_refl, b_rs, b_rn, b_r2, b_ss, b_sn, b_bt, b_bf, b_b0, b_b1, b_bw, b_shl, b_or, b_iv, b_jv, b_sI, b_sJ, ↓z_hl, z_b0, z_b1, z_b2, b_and1c, b_and1z, if_true, if_false, nI_add, pk_mul, b_cl, b_lt, b_le, b_eq, b_eq0, b_le0, b_0lt, b_0le, b_lt0]
      | false => simp (disch := omega) only [↓bc_234, ↓br_234_6, ↓bc_236, ↓bx_236, bl_236, ↓b_t0, ↓b_t1, ↓b_t2, ↓b_t3, ↓b_t4, ↓b_t5, ↓b_t6, Nat.zero_add, Nat.le_refl, b_rs, b_rn, b_r2, b_ss, b_sn, b_bt, b_bf, b_b0, b_b1, b_bw, b_shl, b_or, b_iv, b_jv, b_sI, b_sJ, ↓z_hl, z_b0, z_b1, z_b2, b_and1c, b_and1z, if_true, if_false, nI_add, pk_mul, b_cl, b_lt, b_le, b_eq, b_eq0, b_le0, b_0lt, b_0le, b_lt0]
    · have h1 := i_S_ot hS t (by omega) k hk
      have h2 := i_S_ot hS u (by omega) k hk
      have ew := w_isn_1 (s := m 236) (S := S) (k := k) (t := t) (u := u)
      refine ⟨q - 1, 16, [.ref 234, .int (nI S), .int (nI k), .int (nI (w_unl (m 236) S k t)), .int (nI t), .int (nI (b_b (w_isn (m 236) S k t (u + 1)))), .int (nI (u + 1))], _, by omega, ⟨rfl, Or.inr ⟨t, u + 1, rfl, by omega, by omega, by omega, rfl⟩⟩, Or.inl ?_⟩
      rw [ew]
      cases hi : w_isn (m 236) S k t u with
      | false =>
        rw [Bool.false_and]
        simp (disch := omega) only [↓bc_234, ↓br_234_6, ↓bc_236, ↓bx_236, bl_236, ↓b_t0, ↓b_t1, ↓b_t2, ↓b_t3, ↓b_t4, ↓b_t5, ↓b_t6, Nat.zero_add, Nat.le_refl, b_rs, b_rn, b_r2, b_ss, b_sn, b_bt, b_bf, b_b0, b_b1, b_bw, b_shl, b_or, b_iv, b_jv, b_sI, b_sJ, ↓z_hl, z_b0, z_b1, z_b2, b_and1c, b_and1z, if_true, if_false, nI_add, pk_mul, b_cl, b_lt, b_le, b_eq, b_eq0, b_le0, b_0lt, b_0le, b_lt0]
        rw [if_neg (by omega)]
      | true =>
        rw [Bool.true_and]
        cases hb : S.testBit u with
        | false =>
          rw [Bool.false_and, Bool.not_false]
          simp (disch := omega) only [s_Mo_bitOf, hb, Nat.one_ne_zero, ↓bc_234, ↓br_234_6, ↓bc_236, ↓bx_236, bl_236, ↓b_t0, ↓b_t1, ↓b_t2, ↓b_t3, ↓b_t4, ↓b_t5, ↓b_t6, Nat.zero_add, Nat.le_refl, b_rs, b_rn, b_r2, b_ss, b_sn, b_bt, b_bf, b_b0, b_b1, b_bw, b_shl, b_or, b_iv, b_jv, b_sI, b_sJ, ↓z_hl, z_b0, z_b1, z_b2, b_and1c, b_and1z, if_true, if_false, nI_add, pk_mul, b_cl, b_lt, b_le, b_eq, b_eq0, b_le0, b_0lt, b_0le, b_lt0]
          rw [if_neg (by omega)]
        | true =>
          rw [Bool.true_and]
          by_cases c2 : m 236 (19 + 6 * u + k) = m 236 (19 + 6 * t + k)
          · rw [decide_eq_true c2, Bool.not_true]
            simp (disch := omega) only [s_Mo_bitOf, hb, Nat.one_ne_zero, ↓bc_234, ↓br_234_6, ↓bc_236, ↓bx_236, bl_236, ↓b_t0, ↓b_t1, ↓b_t2, ↓b_t3, ↓b_t4, ↓b_t5, ↓b_t6, Nat.zero_add, Nat.le_refl, b_rs, b_rn, b_r2, b_ss, b_sn, b_bt, b_bf, b_b0, b_b1, b_bw, b_shl, b_or, b_iv, b_jv, b_sI, b_sJ, ↓z_hl, z_b0, z_b1, z_b2, b_and1c, b_and1z, if_true, if_false, nI_add, pk_mul, b_cl, b_lt, b_le, b_eq, b_eq0, b_le0, b_0lt, b_0le, b_lt0]
            rw [if_neg (by omega), if_pos c2]
          · rw [decide_eq_false c2, Bool.not_false]
            simp (disch := omega) only [s_Mo_bitOf, hb, Nat.one_ne_zero, ↓bc_234, ↓br_234_6, ↓bc_236, ↓bx_236, bl_236, ↓b_t0, ↓b_t1, ↓b_t2, ↓b_t3, ↓b_t4, ↓b_t5, ↓b_t6, Nat.zero_add, Nat.le_refl, b_rs, b_rn, b_r2, b_ss, b_sn, b_bt, b_bf, b_b0, b_b1, b_bw, b_shl, b_or, b_iv, b_jv, b_sI, b_sJ, ↓z_hl, z_b0, z_b1, z_b2, b_and1c, b_and1z, if_true, if_false, nI_add, pk_mul, b_cl, b_lt, b_le, b_eq, b_eq0, b_le0, b_0lt, b_0le, b_lt0]
            rw [if_neg (by omega), if_neg c2]
/-- behind thrown = 0 and taken(most) -/
def w_tk (m : Nat → Nat → Nat) (q : Nat) : Nat → Nat → Nat := b_r m 234 (b_s (b_s (b_s (b_s (b_s (m 234) 0 0) 3 (m 234 2)) 2 0) 4 0) 5 q)
theorem s_Mo_taken (hD : 1 ≤ D) {q : Nat} : a_ex X tx a_T D 200 [.ref 234, .int (nI q)] (b_h (b_r m 234 (b_s (m 234) 0 0)) j w) = some (b_h (w_tk m q) j w, none) := by
  obtain ⟨d, rfl⟩ : ∃ d, D = d + 1 := ⟨D - 1, by omega⟩
  rw [e_Mo_taken, q_Mo_taken_0]
  simp (disch := omega) only [↓bc_234, ↓b_t0, ↓b_t1, ↓b_t2, ↓b_t3, ↓b_t4, ↓b_t5, ↓b_t6, Nat.zero_add, Nat.le_refl, b_rs, b_rn, b_r2, b_ss, b_sn, b_bt, b_bf, b_b0, b_b1, b_bw, b_shl, b_or, b_iv, b_jv, b_sI, b_sJ, ↓z_hl, z_b0, z_b1, z_b2, b_and1c, b_and1z, if_true, if_false, nI_add, pk_mul, b_cl, b_lt, b_le, b_eq, b_eq0, b_le0, b_0lt, b_0le, b_lt0]
  rfl
theorem w_tk_k {k q : Nat} (h : k ≠ 0 ∧ k ≠ 2 ∧ k ≠ 3 ∧ k ≠ 4 ∧ k ≠ 5) : w_tk m q 234 k = m 234 k := by
  unfold w_tk
  rw [b_rs, b_sn (by omega), b_sn (by omega), b_sn (by omega), b_sn (by omega), b_sn (by omega)]
theorem w_tk_2 {q : Nat} : w_tk m q 234 2 = 0 := by
  unfold w_tk
  rw [b_rs, b_sn (by decide), b_sn (by decide), b_ss]
theorem w_tk_3 {q : Nat} : w_tk m q 234 3 = m 234 2 := by
  unfold w_tk
  rw [b_rs, b_sn (by decide), b_sn (by decide), b_sn (by decide), b_ss]
theorem w_tk_c {c q : Nat} (h : c ≠ 234) : w_tk m q c = m c := b_rn h
theorem s_Mo_was63 {d : Nat} {u4 : Value} (hS : i_S (m 236)) (hd : 5 ≤ d) {P : Nat} (hP : P < 2 ^ m 236 3) : ∀ f, 0 + 200 < f → ∃ m2, a_go X tx (a_ex X tx a_T d) k_Mo_was_0 f 63 [.ref 234, .int (nI P), .int (nI 0), .int (nI 0), u4] (b_h m j w) = some (b_h m2 j w, some (.int (nI (w_cmo (m 236) (fun i => m 235 i % 256) P (m 236 2))))) ∧ (∀ c, c ≠ 234 → c ≠ 243 → m2 c = m c) ∧ (∀ k, k ≠ 33 → k ≠ 34 → m2 234 k = m 234 k) ∧ (w_cmo (m 236) (fun i => m 235 i % 256) P (m 236 2) = 0 → m2 234 33 = m 234 33 ∧ m2 234 34 = m 234 34) ∧ (w_cmo (m 236) (fun i => m 235 i % 256) P (m 236 2) ≠ 0 → m2 234 34 = 1 ∧ m2 234 33 = (w_mst (m 236) (w_cmo (m 236) (fun i => m 235 i % 256) P (m 236 2)) (m 236 0)).1) := by
  have hE := i_S_E hS
  have hK := i_S_K hS
  have hT := i_S_T hS
  have hR := w_cmo_lt (s := m 236) (b := fun i => m 235 i % 256) (P := P) (n := m 236 2) hT
  generalize hRe : w_cmo (m 236) (fun i => m 235 i % 256) P (m 236 2) = R at hR ⊢
  intro f0 hf0
  refine z_runT (Q := fun q => ∃ m2, q = some (b_h m2 j w, some (.int (nI R))) ∧ (∀ c, c ≠ 234 → c ≠ 243 → m2 c = m c) ∧ (∀ k, k ≠ 33 → k ≠ 34 → m2 234 k = m 234 k) ∧ (R = 0 → m2 234 33 = m 234 33 ∧ m2 234 34 = m 234 34) ∧ (R ≠ 0 → m2 234 34 = 1 ∧ m2 234 33 = (w_mst (m 236) R (m 236 0)).1)) (fun q c L h => ∃ m3, h = b_h m3 j w ∧ (∀ c, c ≠ 234 → c ≠ 243 → m3 c = m c) ∧
    ((∃ t, c = 63 ∧ q + t = 100 ∧ t ≤ m 236 2 ∧ m3 234 = m 234 ∧ L = [.ref 234, .int (nI P), .int (nI (w_cmo (m 236) (fun i => m 235 i % 256) P t)), .int (nI t), u4]) ∨
     (∃ k, c = 98 ∧ q + k = 50 ∧ k ≤ m 236 0 ∧ R ≠ 0 ∧ (∀ k, k ≠ 33 → k ≠ 34 → m3 234 k = m 234 k) ∧ m3 234 34 = 1 ∧ m3 234 33 = (w_mst (m 236) R k).1 ∧ L = [.ref 234, .int (nI P), .int (nI R), .int (nI (w_mst (m 236) R k).2), .int (nI k)]))) 0 ?_ 100 63 _ _ ⟨m, rfl, fun _ _ _ => rfl, Or.inl ⟨0, rfl, by omega, by omega, rfl, rfl⟩⟩ f0 (by omega)
  rintro q c L h ⟨m3, rfl, hm, ⟨t, rfl, hq, ht, h234, rfl⟩ | ⟨k, rfl, hq, hk, hne, hk2, h34, h33, rfl⟩⟩ f _
  · have g6 : m3 236 = m 236 := hm 236 (by decide) (by decide)
    have g5 : m3 235 = m 235 := hm 235 (by decide) (by decide)
    have e0 : m3 236 0 = m 236 0 := by rw [g6]
    have e2 : m3 236 2 = m 236 2 := by rw [g6]
    rw [l_Mo_was_63, q_Mo_was_63]
    by_cases c : t = m 236 2
    · subst c
      rw [hRe]
      by_cases c0 : R = 0
      · left
        subst c0
        refine ⟨m3, ?_, hm, fun k _ _ => by rw [h234], fun _ => ⟨by rw [h234], by rw [h234]⟩, fun g => absurd rfl g⟩
        simp (disch := omega) only [e2, ↓bc_234, ↓br_234_6, ↓bc_236, ↓bx_236, bl_236, ↓b_t0, ↓b_t1, ↓b_t2, ↓b_t3, ↓b_t4, ↓b_t5, ↓b_t6, Nat.zero_add, Nat.le_refl, b_rs, b_rn, b_r2, b_ss, b_sn, b_bt, b_bf, b_b0, b_b1, b_bw, b_shl, b_or, b_iv, b_jv, b_sI, b_sJ, ↓z_hl, z_b0, z_b1, z_b2, b_and1c, b_and1z, if_true, if_false, nI_add, pk_mul, b_cl, b_lt, b_le, b_eq, b_eq0, b_le0, b_0lt, b_0le, b_lt0]
      · right
        refine ⟨50, 98, [.ref 234, .int (nI P), .int (nI R), .int (nI 0), .int (nI 0)], b_h (b_r m3 234 (b_s (b_s (m3 234) 34 1) 33 4294967295)) j w, by omega, ⟨_, rfl, fun c p1 p2 => by rw [b_rn p1]; exact hm c p1 p2, Or.inr ⟨0, rfl, by omega, by omega, c0, fun k p1 p2 => by rw [b_rs, b_sn p1, b_sn p2, h234], by rw [b_rs, b_sn (by decide), b_ss], by rw [b_rs, b_ss]; rfl, rfl⟩⟩, Or.inr ?_⟩
        rw [l_Mo_was_98]
        simp (disch := omega) only [e2, ↓bc_234, ↓br_234_6, ↓bc_236, ↓bx_236, bl_236, ↓b_t0, ↓b_t1, ↓b_t2, ↓b_t3, ↓b_t4, ↓b_t5, ↓b_t6, Nat.zero_add, Nat.le_refl, b_rs, b_rn, b_r2, b_ss, b_sn, b_bt, b_bf, b_b0, b_b1, b_bw, b_shl, b_or, b_iv, b_jv, b_sI, b_sJ, ↓z_hl, z_b0, z_b1, z_b2, b_and1c, b_and1z, if_true, if_false, nI_add, pk_mul, b_cl, b_lt, b_le, b_eq, b_eq0, b_le0, b_0lt, b_0le, b_lt0]
        rw [if_neg c0]
    · right
      have hcl := w_cmo_lt (s := m 236) (b := fun i => m 235 i % 256) (P := P) (n := t) (by omega)
      obtain ⟨m4, s1, k1⟩ := s_Mo_wasIt (X := X) (tx := tx) (D := d) (m := m3) (j := j) (w := w) (by rw [g6]; exact hS) (by omega) (t := t) (P := P) (by rw [g6]; omega) (by rw [g6]; exact hP)
      rw [g6, g5] at s1
      have fr4 : ∀ c, c ≠ 234 → c ≠ 243 → m4 c = m c := fun c p1 p2 => by rw [k1 c (by omega), hm c p1 p2]
      have h2344 : m4 234 = m 234 := by rw [k1 234 (by omega), h234]
      cases hc : w_cmq (m 236) (fun i => m 235 i % 256) P t with
      | false =>
        rw [hc] at s1
        refine ⟨q - 1, 63, [.ref 234, .int (nI P), .int (nI (w_cmo (m 236) (fun i => m 235 i % 256) P t)), .int (nI (t + 1)), u4], b_h m4 j w, by omega, ⟨m4, rfl, fr4, Or.inl ⟨t + 1, rfl, by omega, by omega, h2344, by rw [show w_cmo (m 236) (fun i => m 235 i % 256) P (t + 1) = w_cmo (m 236) (fun i => m 235 i % 256) P t from z_set_f hc]⟩⟩, Or.inl ?_⟩
        simp (disch := omega) only [e2, s1, Nat.or_zero, ↓bc_234, ↓br_234_6, ↓bc_236, ↓bx_236, bl_236, ↓b_t0, ↓b_t1, ↓b_t2, ↓b_t3, ↓b_t4, ↓b_t5, ↓b_t6, Nat.zero_add, Nat.le_refl, b_rs, b_rn, b_r2, b_ss, b_sn, b_bt, b_bf, b_b0, b_b1, b_bw, b_shl, b_or, b_iv, b_jv, b_sI, b_sJ, ↓z_hl, z_b0, z_b1, z_b2, b_and1c, b_and1z, if_true, if_false, nI_add, pk_mul, b_cl, b_lt, b_le, b_eq, b_eq0, b_le0, b_0lt, b_0le, b_lt0]
        rw [if_neg (by omega)]
      | true =>
        rw [hc] at s1
        refine ⟨q - 1, 63, [.ref 234, .int (nI P), .int (nI (w_cmo (m 236) (fun i => m 235 i % 256) P t ||| 2 ^ t)), .int (nI (t + 1)), u4], b_h m4 j w, by omega, ⟨m4, rfl, fr4, Or.inl ⟨t + 1, rfl, by omega, by omega, h2344, by rw [show w_cmo (m 236) (fun i => m 235 i % 256) P (t + 1) = w_cmo (m 236) (fun i => m 235 i % 256) P t ||| 2 ^ t from z_set_t hc]⟩⟩, Or.inl ?_⟩
        simp (disch := omega) only [e2, s1, Nat.one_ne_zero, ↓bc_234, ↓br_234_6, ↓bc_236, ↓bx_236, bl_236, ↓b_t0, ↓b_t1, ↓b_t2, ↓b_t3, ↓b_t4, ↓b_t5, ↓b_t6, Nat.zero_add, Nat.le_refl, b_rs, b_rn, b_r2, b_ss, b_sn, b_bt, b_bf, b_b0, b_b1, b_bw, b_shl, b_or, b_iv, b_jv, b_sI, b_sJ, ↓z_hl, z_b0, z_b1, z_b2, b_and1c, b_and1z, if_true, if_false, nI_add, pk_mul, b_cl, b_lt, b_le, b_eq, b_eq0, b_le0, b_0lt, b_0le, b_lt0]
        rw [if_neg (by omega)]
  · have g6 : m3 236 = m 236 := hm 236 (by decide) (by decide)
    have e0 : m3 236 0 = m 236 0 := by rw [g6]
    rw [l_Mo_was_98, q_Mo_was_98]
    by_cases c : k = m 236 0
    · left
      subst c
      refine ⟨m3, ?_, hm, hk2, fun g => absurd g hne, fun _ => ⟨h34, h33⟩⟩
      simp (disch := omega) only [e0, ↓bc_234, ↓br_234_6, ↓bc_236, ↓bx_236, bl_236, ↓b_t0, ↓b_t1, ↓b_t2, ↓b_t3, ↓b_t4, ↓b_t5, ↓b_t6, Nat.zero_add, Nat.le_refl, b_rs, b_rn, b_r2, b_ss, b_sn, b_bt, b_bf, b_b0, b_b1, b_bw, b_shl, b_or, b_iv, b_jv, b_sI, b_sJ, ↓z_hl, z_b0, z_b1, z_b2, b_and1c, b_and1z, if_true, if_false, nI_add, pk_mul, b_cl, b_lt, b_le, b_eq, b_eq0, b_le0, b_0lt, b_0le, b_lt0]
    · right
      have s1 := s_Mo_unlike (X := X) (tx := tx) (D := d) (m := m3) (j := j) (w := w) (by rw [g6]; exact hS) (by omega) (S := R) (k := k) hR (by omega)
      rw [g6] at s1
      have h1 := w_unl_le (s := m 236) (S := R) (k := k) (n := m 236 2)
      obtain ⟨h2, h3⟩ := w_mst_le (s := m 236) (S := R) k
      by_cases c2 : (w_mst (m 236) R k).2 < w_unl (m 236) R k (m 236 2)
      · refine ⟨q - 1, 98, [.ref 234, .int (nI P), .int (nI R), .int (nI (w_unl (m 236) R k (m 236 2))), .int (nI (k + 1))], b_h (b_r m3 234 (b_s (m3 234) 33 k)) j w, by omega, ⟨_, rfl, fun c p1 p2 => by rw [b_rn p1]; exact hm c p1 p2, Or.inr ⟨k + 1, rfl, by omega, by omega, hne, fun k p1 p2 => by rw [b_rs, b_sn p1]; exact hk2 k p1 p2, by rw [b_rs, b_sn (by decide)]; exact h34, by rw [b_rs, b_ss, w_mst_1, if_pos c2], by rw [w_mst_1, if_pos c2]⟩⟩, Or.inl ?_⟩
        simp (disch := omega) only [e0, s1, ↓bc_234, ↓br_234_6, ↓bc_236, ↓bx_236, bl_236, ↓b_t0, ↓b_t1, ↓b_t2, ↓b_t3, ↓b_t4, ↓b_t5, ↓b_t6, Nat.zero_add, Nat.le_refl, b_rs, b_rn, b_r2, b_ss, b_sn, b_bt, b_bf, b_b0, b_b1, b_bw, b_shl, b_or, b_iv, b_jv, b_sI, b_sJ, ↓z_hl, z_b0, z_b1, z_b2, b_and1c, b_and1z, if_true, if_false, nI_add, pk_mul, b_cl, b_lt, b_le, b_eq, b_eq0, b_le0, b_0lt, b_0le, b_lt0]
        rw [if_neg (by omega), if_pos c2]
      · refine ⟨q - 1, 98, [.ref 234, .int (nI P), .int (nI R), .int (nI (w_mst (m 236) R k).2), .int (nI (k + 1))], b_h m3 j w, by omega, ⟨m3, rfl, hm, Or.inr ⟨k + 1, rfl, by omega, by omega, hne, hk2, h34, by rw [w_mst_1, if_neg c2]; exact h33, by rw [w_mst_1, if_neg c2]⟩⟩, Or.inl ?_⟩
        simp (disch := omega) only [e0, s1, ↓bc_234, ↓br_234_6, ↓bc_236, ↓bx_236, bl_236, ↓b_t0, ↓b_t1, ↓b_t2, ↓b_t3, ↓b_t4, ↓b_t5, ↓b_t6, Nat.zero_add, Nat.le_refl, b_rs, b_rn, b_r2, b_ss, b_sn, b_bt, b_bf, b_b0, b_b1, b_bw, b_shl, b_or, b_iv, b_jv, b_sI, b_sJ, ↓z_hl, z_b0, z_b1, z_b2, b_and1c, b_and1z, if_true, if_false, nI_add, pk_mul, b_cl, b_lt, b_le, b_eq, b_eq0, b_le0, b_0lt, b_0le, b_lt0]
        rw [if_neg (by omega), if_neg c2]
theorem s_Mo_was (hS : i_S (m 236)) (hn : m 234 2 ≤ 940) (hD : 7 ≤ D) : ∃ m2, a_ex X tx a_T D 278 [.ref 234] (b_h m j w) = some (b_h m2 j w, some (.int (nI (w_qwas (m 236) (fun i => m 235 i % 256) (m 234 2))))) ∧ (∀ c, c ≠ 234 → c ≠ 243 → m2 c = m c) ∧ (∀ k, k ≠ 0 → k ≠ 2 → k ≠ 3 → k ≠ 4 → k ≠ 5 → k ≠ 33 → k ≠ 34 → m2 234 k = m 234 k) ∧ m2 234 2 = 0 ∧ ((w_qwas (m 236) (fun i => m 235 i % 256) (m 234 2) = 4294967295 ∨ w_qwas (m 236) (fun i => m 235 i % 256) (m 234 2) = 0) → m2 234 33 = m 234 33 ∧ m2 234 34 = m 234 34) ∧ (¬ (w_qwas (m 236) (fun i => m 235 i % 256) (m 234 2) = 4294967295 ∨ w_qwas (m 236) (fun i => m 235 i % 256) (m 234 2) = 0) → m2 234 34 = 1 ∧ m2 234 33 = (w_mst (m 236) (w_qwas (m 236) (fun i => m 235 i % 256) (m 234 2)) (m 236 0)).1) := by
  obtain ⟨d, rfl⟩ : ∃ d, D = d + 1 := ⟨D - 1, by omega⟩
  have hE := i_S_E hS
  have hK := i_S_K hS
  have hT := i_S_T hS
  have hPw : 2 ^ m 236 3 ≤ 1024 := Nat.pow_le_pow_right (n := 2) (by decide) hE
  have s0 := s_Mo_taken (X := X) (tx := tx) (D := d) (m := m) (j := j) (w := w) (by omega) (q := 940)
  have t0 : w_tk m 940 236 0 = m 236 0 := by rw [w_tk_c (by decide)]
  have t6 : w_tk m 940 236 = m 236 := w_tk_c (by decide)
  have t3 : w_tk m 940 234 3 = m 234 2 := w_tk_3
  have none : w_wok (m 236) (fun i => m 235 i % 256) (m 234 2) = false → w_qwas (m 236) (fun i => m 235 i % 256) (m 234 2) = 4294967295 := fun h => by unfold w_qwas; rw [h, if_neg (by decide)]
  rw [e_Mo_was, q_Mo_was_0]
  by_cases c0 : m 236 0 ≤ m 234 2
  · by_cases c1 : m 234 2 ≤ m 236 0 + 10
    · simp (disch := omega) only [s0, t0, t3, ↓bc_234, ↓br_234_6, ↓bc_236, ↓bx_236, bl_236, ↓b_t0, ↓b_t1, ↓b_t2, ↓b_t3, ↓b_t4, ↓b_t5, ↓b_t6, Nat.zero_add, Nat.le_refl, b_rs, b_rn, b_r2, b_ss, b_sn, b_bt, b_bf, b_b0, b_b1, b_bw, b_shl, b_or, b_iv, b_jv, b_sI, b_sJ, ↓z_hl, z_b0, z_b1, z_b2, b_and1c, b_and1z, if_true, if_false, nI_add, pk_mul, b_cl, b_lt, b_le, b_eq, b_eq0, b_le0, b_0lt, b_0le, b_lt0]
      rw [if_neg (by omega), if_pos c1, ← l_Mo_was_31]
      have main : ∀ f, 300 + 100 < f → (∃ f2 x y, 300 ≤ f2 ∧ w_wo (m 236) (fun i => m 235 i % 256) (m 234 2 - m 236 0) = true ∧ a_go X tx (a_ex X tx a_T d) k_Mo_was_0 f 31 [.ref 234, .int (nI 0), .int (nI (m 236 0)), .retAddr 0, .retAddr 0] (b_h (w_tk m 940) j w) = a_go X tx (a_ex X tx a_T d) k_Mo_was_0 (f2 + 1) 63 [.ref 234, .int (nI (w_wp (fun i => m 235 i % 256) (m 236 0) (m 234 2 - m 236 0))), .int (nI 0), .int (nI 0), y] (b_h (w_tk m 940) j w) ∧ x = 0) ∨ (w_wo (m 236) (fun i => m 235 i % 256) (m 234 2 - m 236 0) = false ∧ a_go X tx (a_ex X tx a_T d) k_Mo_was_0 f 31 [.ref 234, .int (nI 0), .int (nI (m 236 0)), .retAddr 0, .retAddr 0] (b_h (w_tk m 940) j w) = some (b_h (w_tk m 940) j w, some (.int (nI 4294967295)))) := by
        intro f0 hf0
        refine z_run (Q := fun q => (∃ f2 x y, 300 ≤ f2 ∧ w_wo (m 236) (fun i => m 235 i % 256) (m 234 2 - m 236 0) = true ∧ q = a_go X tx (a_ex X tx a_T d) k_Mo_was_0 (f2 + 1) 63 [.ref 234, .int (nI (w_wp (fun i => m 235 i % 256) (m 236 0) (m 234 2 - m 236 0))), .int (nI 0), .int (nI 0), y] (b_h (w_tk m 940) j w) ∧ x = 0) ∨ (w_wo (m 236) (fun i => m 235 i % 256) (m 234 2 - m 236 0) = false ∧ q = some (b_h (w_tk m 940) j w, some (.int (nI 4294967295))))) (fun q L h => ∃ n, q + n = 20 ∧ m 236 0 + n ≤ m 234 2 ∧ w_wo (m 236) (fun i => m 235 i % 256) n = true ∧ L = [.ref 234, .int (nI (w_wp (fun i => m 235 i % 256) (m 236 0) n)), .int (nI (m 236 0 + n)), .retAddr 0, .retAddr 0] ∧ h = b_h (w_tk m 940) j w) 300 ?_ 20 _ _ ⟨0, by omega, by omega, rfl, rfl, rfl⟩ f0 (by omega)
        rintro q L h ⟨n, hq, hn2, ho, rfl, rfl⟩ f hf
        obtain ⟨o1, o2⟩ := w_wo_ok hE n ho
        have hn10 := w_wo_le hE ho
        rw [l_Mo_was_31, q_Mo_was_31]
        by_cases c : m 236 0 + n = m 234 2
        · left
          left
          have en : m 234 2 - m 236 0 = n := by omega
          rw [en]
          refine ⟨f, 0, .retAddr 0, hf, ho, ?_, rfl⟩
          rw [l_Mo_was_63]
          simp (disch := omega) only [t3, ↓bc_234, ↓br_234_6, ↓bc_236, ↓bx_236, bl_236, ↓b_t0, ↓b_t1, ↓b_t2, ↓b_t3, ↓b_t4, ↓b_t5, ↓b_t6, Nat.zero_add, Nat.le_refl, b_rs, b_rn, b_r2, b_ss, b_sn, b_bt, b_bf, b_b0, b_b1, b_bw, b_shl, b_or, b_iv, b_jv, b_sI, b_sJ, ↓z_hl, z_b0, z_b1, z_b2, b_and1c, b_and1z, if_true, if_false, nI_add, pk_mul, b_cl, b_lt, b_le, b_eq, b_eq0, b_le0, b_0lt, b_0le, b_lt0]
          rw [if_pos (by omega)]
        · have s1 := s_Mo_octet (X := X) (tx := tx) (D := d) (m := w_tk m 940) (j := j) (w := w) (by omega) (i := m 236 0 + n) (by omega)
          rw [w_tk_c (c := 235) (by decide)] at s1
          have s2 := s_Mo_isEnding (X := X) (tx := tx) (D := d) (m := w_tk m 940) (j := j) (w := w) (by rw [t6]; exact hS) (by omega) (n := m 235 (m 236 0 + n) % 256) (by omega)
          rw [t6] at s2
          have hbl : m 235 (m 236 0 + n) % 256 < 256 := Nat.mod_lt _ (by decide)
          have hw := w_wo_1 (s := m 236) (b := fun i => m 235 i % 256) (n := n)
          rw [ho, Bool.true_and] at hw
          have bad : w_wo (m 236) (fun i => m 235 i % 256) (n + 1) = false → w_wo (m 236) (fun i => m 235 i % 256) (m 234 2 - m 236 0) = false := fun g => by
            refine Bool.eq_false_iff.mpr fun z => ?_
            unfold w_wo at z g
            rw [z_all_iff] at z
            have := Bool.eq_false_iff.mp g
            exact this ((z_all_iff _ _).mpr fun k hk => z k (by omega))
          by_cases c2 : m 235 (m 236 0 + n) % 256 < m 236 3
          · rw [decide_eq_true c2] at s2
            have hw : w_wo (m 236) (fun i => m 235 i % 256) (n + 1) = !((w_wp (fun i => m 235 i % 256) (m 236 0) n).testBit (m 235 (m 236 0 + n) % 256)) := by rw [hw]; show (decide (m 235 (m 236 0 + n) % 256 < m 236 3) && _) = _; rw [decide_eq_true c2, Bool.true_and]
            cases hc : (w_wp (fun i => m 235 i % 256) (m 236 0) n).testBit (m 235 (m 236 0 + n) % 256) with
            | true =>
              left
              right
              rw [hc] at hw
              refine ⟨bad hw, ?_⟩
              simp (disch := omega) only [t3, s1, s2, s_Mo_bitOf, hc, Nat.one_ne_zero, ↓bc_234, ↓br_234_6, ↓bc_236, ↓bx_236, bl_236, ↓b_t0, ↓b_t1, ↓b_t2, ↓b_t3, ↓b_t4, ↓b_t5, ↓b_t6, Nat.zero_add, Nat.le_refl, b_rs, b_rn, b_r2, b_ss, b_sn, b_bt, b_bf, b_b0, b_b1, b_bw, b_shl, b_or, b_iv, b_jv, b_sI, b_sJ, ↓z_hl, z_b0, z_b1, z_b2, b_and1c, b_and1z, if_true, if_false, nI_add, pk_mul, b_cl, b_lt, b_le, b_eq, b_eq0, b_le0, b_0lt, b_0le, b_lt0]
              rw [if_neg (by omega)]
            | false =>
              right
              rw [hc] at hw
              refine ⟨q - 1, [.ref 234, .int (nI (w_wp (fun i => m 235 i % 256) (m 236 0) n ||| 2 ^ (m 235 (m 236 0 + n) % 256))), .int (nI (m 236 0 + (n + 1))), .retAddr 0, .retAddr 0], _, by omega, ⟨n + 1, by omega, by omega, hw, rfl, rfl⟩, ?_⟩
              rw [← Nat.add_assoc]
              simp (disch := omega) only [t3, s1, s2, s_Mo_bitOf, hc, Nat.one_ne_zero, ↓bc_234, ↓br_234_6, ↓bc_236, ↓bx_236, bl_236, ↓b_t0, ↓b_t1, ↓b_t2, ↓b_t3, ↓b_t4, ↓b_t5, ↓b_t6, Nat.zero_add, Nat.le_refl, b_rs, b_rn, b_r2, b_ss, b_sn, b_bt, b_bf, b_b0, b_b1, b_bw, b_shl, b_or, b_iv, b_jv, b_sI, b_sJ, ↓z_hl, z_b0, z_b1, z_b2, b_and1c, b_and1z, if_true, if_false, nI_add, pk_mul, b_cl, b_lt, b_le, b_eq, b_eq0, b_le0, b_0lt, b_0le, b_lt0]
              rw [if_neg (by omega)]
          · left
            right
            rw [decide_eq_false c2] at s2
            have hw : w_wo (m 236) (fun i => m 235 i % 256) (n + 1) = false := by rw [hw]; show (decide (m 235 (m 236 0 + n) % 256 < m 236 3) && _) = _; rw [decide_eq_false c2, Bool.false_and]
            refine ⟨bad hw, ?_⟩
            simp (disch := omega) only [t3, s1, s2, ↓bc_234, ↓br_234_6, ↓bc_236, ↓bx_236, bl_236, ↓b_t0, ↓b_t1, ↓b_t2, ↓b_t3, ↓b_t4, ↓b_t5, ↓b_t6, Nat.zero_add, Nat.le_refl, b_rs, b_rn, b_r2, b_ss, b_sn, b_bt, b_bf, b_b0, b_b1, b_bw, b_shl, b_or, b_iv, b_jv, b_sI, b_sJ, ↓z_hl, z_b0, z_b1, z_b2, b_and1c, b_and1z, if_true, if_false, nI_add, pk_mul, b_cl, b_lt, b_le, b_eq, b_eq0, b_le0, b_0lt, b_0le, b_lt0]
            rw [if_neg (by omega)]
      rcases main _ (z_fu (by omega)) with ⟨f2, x, y, hf2, ho, e1, _⟩ | ⟨ho, e1⟩
      · rw [e1]
        obtain ⟨o1, o2⟩ := w_wo_ok hE _ ho
        obtain ⟨m2, e2, k1, k2, k3, k4⟩ := s_Mo_was63 (X := X) (tx := tx) (d := d) (m := w_tk m 940) (j := j) (w := w) (u4 := y) (by rw [t6]; exact hS) (by omega) (P := w_wp (fun i => m 235 i % 256) (m 236 0) (m 234 2 - m 236 0)) (by rw [t6]; exact o1) (f2 + 1) (by omega)
        rw [t6, w_tk_c (c := 235) (by decide)] at e2 k3 k4
        have eq : w_qwas (m 236) (fun i => m 235 i % 256) (m 234 2) = w_cmo (m 236) (fun i => m 235 i % 256) (w_wp (fun i => m 235 i % 256) (m 236 0) (m 234 2 - m 236 0)) (m 236 2) := by
          unfold w_qwas w_wok
          rw [decide_eq_true c0, ho]
          rfl
        have hcl := w_cmo_lt (s := m 236) (b := fun i => m 235 i % 256) (P := w_wp (fun i => m 235 i % 256) (m 236 0) (m 234 2 - m 236 0)) (n := m 236 2) hT
        rw [eq]
        rw [w_tk_k (by omega), w_tk_k (by omega)] at k3
        refine ⟨m2, e2, fun c p1 p2 => by rw [k1 c p1 p2, w_tk_c p1], fun k p1 p2 p3 p4 p5 p6 p7 => by rw [k2 k p6 p7, w_tk_k ⟨p1, p2, p3, p4, p5⟩], by rw [k2 2 (by decide) (by decide), w_tk_2], fun g => k3 (by omega), fun g => k4 (by omega)⟩
      · rw [e1, none (by unfold w_wok; rw [ho, Bool.and_false])]
        exact ⟨w_tk m 940, rfl, fun c p1 _ => w_tk_c p1, fun k p1 p2 p3 p4 p5 _ _ => w_tk_k ⟨p1, p2, p3, p4, p5⟩, w_tk_2, fun _ => ⟨w_tk_k (by omega), w_tk_k (by omega)⟩, fun g => absurd (Or.inl rfl) g⟩
    · have hno : w_wok (m 236) (fun i => m 235 i % 256) (m 234 2) = false := by
        refine Bool.eq_false_iff.mpr fun g => ?_
        unfold w_wok at g
        rw [Bool.and_eq_true] at g
        have := w_wo_le hE g.2
        omega
      rw [none hno]
      refine ⟨w_tk m 940, ?_, fun c p1 _ => w_tk_c p1, fun k p1 p2 p3 p4 p5 _ _ => w_tk_k ⟨p1, p2, p3, p4, p5⟩, w_tk_2, fun _ => ⟨w_tk_k (by omega), w_tk_k (by omega)⟩, fun g => absurd (Or.inl rfl) g⟩
      simp (disch := omega) only [s0, t0, t3, ↓bc_234, ↓br_234_6, ↓bc_236, ↓bx_236, bl_236, ↓b_t0, ↓b_t1, ↓b_t2, ↓b_t3, ↓b_t4, ↓b_t5, ↓b_t6, Nat.zero_add, Nat.le_refl, b_rs, b_rn, b_r2, b_ss, b_sn, b_bt, b_bf, b_b0, b_b1, b_bw, b_shl, b_or, b_iv, b_jv, b_sI, b_sJ, ↓z_hl, z_b0, z_b1, z_b2, b_and1c, b_and1z, if_true, if_false, nI_add, pk_mul, b_cl, b_lt, b_le, b_eq, b_eq0, b_le0, b_0lt, b_0le, b_lt0]
      rw [if_neg (by omega), if_neg c1]
  · have hno : w_wok (m 236) (fun i => m 235 i % 256) (m 234 2) = false := by unfold w_wok; rw [decide_eq_false c0]; rfl
    rw [none hno]
    refine ⟨w_tk m 940, ?_, fun c p1 _ => w_tk_c p1, fun k p1 p2 p3 p4 p5 _ _ => w_tk_k ⟨p1, p2, p3, p4, p5⟩, w_tk_2, fun _ => ⟨w_tk_k (by omega), w_tk_k (by omega)⟩, fun g => absurd (Or.inl rfl) g⟩
    simp (disch := omega) only [s0, t0, t3, ↓bc_234, ↓br_234_6, ↓bc_236, ↓bx_236, bl_236, ↓b_t0, ↓b_t1, ↓b_t2, ↓b_t3, ↓b_t4, ↓b_t5, ↓b_t6, Nat.zero_add, Nat.le_refl, b_rs, b_rn, b_r2, b_ss, b_sn, b_bt, b_bf, b_b0, b_b1, b_bw, b_shl, b_or, b_iv, b_jv, b_sI, b_sJ, ↓z_hl, z_b0, z_b1, z_b2, b_and1c, b_and1z, if_true, if_false, nI_add, pk_mul, b_cl, b_lt, b_le, b_eq, b_eq0, b_le0, b_0lt, b_0le, b_lt0]
    rw [if_pos (by omega)]
end WC
