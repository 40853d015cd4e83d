/-! ORDERS: the reference's side -/
section OG
variable {X : Nat × (Nat → Int32)} {tx : List Int32} {D : Nat} {m j : Nat → Nat → Nat} {w : (Nat × Nat) × Bool}
theorem b_bz243 {i : Nat} {c : Bool} {g : A_H → A_R} (hi : i < 1024) : a_bz (b_h m j w) 243 (nI i) (nI (b_b c)) g = g (b_h (b_r m 243 (b_s (m 243) i (b_b c))) j w) := by
  unfold a_bz
  have e1 : a_kd (b_h m j w) 243 = 102 := bk_243
  have e2 : nI (b_b c) &&& 1 = nI (b_b c) := by cases c <;> decide +kernel
  rw [e1, if_pos rfl, bx_243 hi, z_hl, b_cl (by omega), e2, b_sI]
theorem b_bz243f {i : Nat} {g : A_H → A_R} (hi : i < 1024) : a_bz (b_h m j w) 243 (nI i) (nI 0) g = g (b_h (b_r m 243 (b_s (m 243) i 0)) j w) := b_bz243 (c := false) hi
theorem b_bz243t {i : Nat} {g : A_H → A_R} (hi : i < 1024) : a_bz (b_h m j w) 243 (nI i) (nI 1) g = g (b_h (b_r m 243 (b_s (m 243) i 1)) j w) := b_bz243 (c := true) hi
theorem b_bz245 {i : Nat} {c : Bool} {g : A_H → A_R} (hi : i < 1024) : a_bz (b_h m j w) 245 (nI i) (nI (b_b c)) g = g (b_h (b_r m 245 (b_s (m 245) i (b_b c))) j w) := by
  unfold a_bz
  have e1 : a_kd (b_h m j w) 245 = 102 := bk_245
  have e2 : nI (b_b c) &&& 1 = nI (b_b c) := by cases c <;> decide +kernel
  rw [e1, if_pos rfl, bx_245 hi, z_hl, b_cl (by omega), e2, b_sI]
theorem b_bz245f {i : Nat} {g : A_H → A_R} (hi : i < 1024) : a_bz (b_h m j w) 245 (nI i) (nI 0) g = g (b_h (b_r m 245 (b_s (m 245) i 0)) j w) := b_bz245 (c := false) hi
theorem b_bz245t {i : Nat} {g : A_H → A_R} (hi : i < 1024) : a_bz (b_h m j w) 245 (nI i) (nI 1) g = g (b_h (b_r m 245 (b_s (m 245) i 1)) j w) := b_bz245 (c := true) hi
theorem s_Mo_rest (hS : i_S (m 236)) (hD : 2 ≤ D) {r S k : Nat} (hr0 : r + 6 ≤ 533) (hr : m 236 (r + k) ≤ 99) (hs : S < 1024) (hk : k < 6) : a_ex X tx a_T D 260 [.ref 234, .int (nI r), .int (nI S), .int (nI k)] (b_h m j w) = some ((b_h m j w), some (.int (nI (w_lf (m 236 (r + k)) (w_cs (m 236) S k))))) := by
  obtain ⟨d, rfl⟩ : ∃ d, D = d + 1 := ⟨D - 1, by omega⟩
  rw [e_Mo_rest, q_Mo_rest_0]
  have hE := i_S_E hS
  simp (disch := omega) only [↓bc_234, ↓br_234_6, ↓bc_236, ↓bx_236, bl_236, ↓b_t0, ↓b_t1, ↓b_t2, ↓b_t3, ↓b_t4, ↓b_t5, ↓b_t6, Nat.zero_add, Nat.le_refl, b_rs, b_rn, b_r2, b_ss, b_sn, b_bt, b_bf, b_b0, b_b1, b_bw, b_shl, b_or, b_iv, b_jv, b_sI, b_sJ, ↓z_hl, z_b0, z_b1, z_b2, b_and1c, b_and1z, if_true, if_false, nI_add, pk_mul, b_cl, b_lt, b_le, b_eq, b_eq0, b_le0, b_0lt, b_0le, b_lt0]
  rw [← l_Mo_rest_9]
  refine z_run (Q := fun q => q = some (b_h m j w, some (.int (nI (w_lf (m 236 (r + k)) (w_cs (m 236) S k)))))) (fun q L h => ∃ e, q + e = m 236 3 ∧ L = [.ref 234, .int (nI r), .int (nI S), .int (nI k), .int (nI (w_lf (m 236 (r + k)) (w_csn (m 236) S k e))), .int (nI e)] ∧ h = b_h m j w) 0 ?_ (m 236 3) _ _ ⟨0, by omega, by rw [show w_csn (m 236) S k 0 = 0 from rfl, w_lf0], rfl⟩ _ (z_fu (by omega))
  rintro q L h ⟨e, hq, rfl, rfl⟩ f _
  rw [l_Mo_rest_9, q_Mo_rest_9]
  by_cases c : e = m 236 3
  · left
    subst c
    simp (disch := omega) only [↓bc_234, ↓br_234_6, ↓bc_236, ↓bx_236, bl_236, ↓b_t0, ↓b_t1, ↓b_t2, ↓b_t3, ↓b_t4, ↓b_t5, ↓b_t6, Nat.zero_add, Nat.le_refl, b_rs, b_rn, b_r2, b_ss, b_sn, b_bt, b_bf, b_b0, b_b1, b_bw, b_shl, b_or, b_iv, b_jv, b_sI, b_sJ, ↓z_hl, z_b0, z_b1, z_b2, b_and1c, b_and1z, if_true, if_false, nI_add, pk_mul, b_cl, b_lt, b_le, b_eq, b_eq0, b_le0, b_0lt, b_0le, b_lt0]
    rfl
  · right
    have hl := w_csn_le hS (S := S) (k := k) (n := e) (by omega) hk
    have hc := i_S_cl hS e (by omega) k hk
    cases hb : S.testBit e with
    | false =>
      have e5 : w_csn (m 236) S k (e + 1) = w_csn (m 236) S k e := by rw [w_csn_1, hb, if_neg (by decide), Nat.add_zero]
      refine ⟨q - 1, [.ref 234, .int (nI r), .int (nI S), .int (nI k), .int (nI (w_lf (m 236 (r + k)) (w_csn (m 236) S k e))), .int (nI (e + 1))], _, by omega, ⟨e + 1, by omega, by rw [e5], rfl⟩, ?_⟩
      simp (disch := omega) only [s_Mo_bitOf, hb, ↓bc_234, ↓br_234_6, ↓bc_236, ↓bx_236, bl_236, ↓b_t0, ↓b_t1, ↓b_t2, ↓b_t3, ↓b_t4, ↓b_t5, ↓b_t6, Nat.zero_add, Nat.le_refl, b_rs, b_rn, b_r2, b_ss, b_sn, b_bt, b_bf, b_b0, b_b1, b_bw, b_shl, b_or, b_iv, b_jv, b_sI, b_sJ, ↓z_hl, z_b0, z_b1, z_b2, b_and1c, b_and1z, if_true, if_false, nI_add, pk_mul, b_cl, b_lt, b_le, b_eq, b_eq0, b_le0, b_0lt, b_0le, b_lt0]
      rw [if_neg (by omega)]
    | true =>
      have e5 : w_csn (m 236) S k (e + 1) = w_csn (m 236) S k e + m 236 (87 + 6 * e + k) := by rw [w_csn_1, hb, if_pos rfl]
      refine ⟨q - 1, [.ref 234, .int (nI r), .int (nI S), .int (nI k), .int (nI (w_lf (m 236 (r + k)) (w_csn (m 236) S k e + m 236 (87 + 6 * e + k)))), .int (nI (e + 1))], _, by omega, ⟨e + 1, by omega, by rw [e5], rfl⟩, ?_⟩
      simp (disch := omega) only [s_Mo_bitOf, hb, s_Mo_closed, b_lfs, Nat.one_ne_zero, ↓bc_234, ↓br_234_6, ↓bc_236, ↓bx_236, bl_236, ↓b_t0, ↓b_t1, ↓b_t2, ↓b_t3, ↓b_t4, ↓b_t5, ↓b_t6, Nat.zero_add, Nat.le_refl, b_rs, b_rn, b_r2, b_ss, b_sn, b_bt, b_bf, b_b0, b_b1, b_bw, b_shl, b_or, b_iv, b_jv, b_sI, b_sJ, ↓z_hl, z_b0, z_b1, z_b2, b_and1c, b_and1z, if_true, if_false, nI_add, pk_mul, b_cl, b_lt, b_le, b_eq, b_eq0, b_le0, b_0lt, b_0le, b_lt0]
      rw [if_neg (by omega)]
theorem s_Mo_fitsBehind (hS : i_S (m 236)) (hD : 3 ≤ D) {e r S : Nat} (hr0 : r + 6 ≤ 533) (hr : ∀ k, k < 6 → m 236 (r + k) ≤ 99) (hs : S < 1024) (he : e < 10) : a_ex X tx a_T D 261 [.ref 234, .int (nI e), .int (nI r), .int (nI S)] (b_h m j w) = some ((b_h m j w), some (.int (nI (b_b (w_fbh (m 236) r e S))))) := by
  obtain ⟨d, rfl⟩ : ∃ d, D = d + 1 := ⟨D - 1, by omega⟩
  rw [e_Mo_fitsBehind, q_Mo_fitsBehind_0]
  rw [← l_Mo_fitsBehind_4]
  refine z_run (Q := fun q => q = some (b_h m j w, some (.int (nI (b_b (w_fbh (m 236) r e S)))))) (fun q L h => ∃ k, q + k = 6 ∧ z_all (fun k => decide (m 236 (87 + 6 * e + k) = 0 ∨ w_cs (m 236) S k < m 236 (r + k))) k = true ∧ L = [.ref 234, .int (nI e), .int (nI r), .int (nI S), .int (nI (b_b (z_any (fun k => decide (m 236 (87 + 6 * e + k) ≠ 0)) k))), .int (nI k)] ∧ h = b_h m j w) 0 ?_ 6 _ _ ⟨0, by omega, rfl, rfl, rfl⟩ _ (z_fu (by omega))
  rintro q L h ⟨k, hq, ha, rfl, rfl⟩ f _
  rw [l_Mo_fitsBehind_4, q_Mo_fitsBehind_4]
  by_cases c : k = 6
  · left
    subst c
    have e1 : w_fbh (m 236) r e S = z_any (fun k => decide (m 236 (87 + 6 * e + k) ≠ 0)) 6 := by
      unfold w_fbh
      rw [ha, Bool.true_and]
    rw [e1]
    simp (disch := omega) only [↓bc_234, ↓b_t0, ↓b_t1, ↓b_t2, ↓b_t3, ↓b_t4, ↓b_t5, ↓b_t6, Nat.zero_add, Nat.le_refl, b_rs, b_rn, b_r2, b_ss, b_sn, b_bt, b_bf, b_b0, b_b1, b_bw, b_shl, b_or, b_iv, b_jv, b_sI, b_sJ, ↓z_hl, z_b0, z_b1, z_b2, b_and1c, b_and1z, if_true, if_false, nI_add, pk_mul, b_cl, b_lt, b_le, b_eq, b_eq0, b_le0, b_0lt, b_0le, b_lt0]
  · have hc := i_S_cl hS e (by omega) k (by omega)
    have h3 := hr k (by omega)
    have h4 := w_cs_le hS (S := S) (k := k) (by omega)
    have s1 := s_Mo_rest (X := X) (tx := tx) (D := d) (m := m) (j := j) (w := w) hS (by omega) (r := r) (S := S) (k := k) hr0 h3 hs (by omega)
    have hw : z_any (fun k => decide (m 236 (87 + 6 * e + k) ≠ 0)) (k + 1) = (z_any (fun k => decide (m 236 (87 + 6 * e + k) ≠ 0)) k || decide (m 236 (87 + 6 * e + k) ≠ 0)) := rfl
    have hz : ∀ g : m 236 (87 + 6 * e + k) = 0 ∨ w_cs (m 236) S k < m 236 (r + k), z_all (fun k => decide (m 236 (87 + 6 * e + k) = 0 ∨ w_cs (m 236) S k < m 236 (r + k))) (k + 1) = true := fun g => by
      show (z_all (fun k => decide (m 236 (87 + 6 * e + k) = 0 ∨ w_cs (m 236) S k < m 236 (r + k))) k && decide (m 236 (87 + 6 * e + k) = 0 ∨ w_cs (m 236) S k < m 236 (r + k))) = true
      rw [ha, decide_eq_true g]; rfl
    by_cases c2 : m 236 (87 + 6 * e + k) = 0
    · right
      rw [decide_eq_false (fun g => g c2), Bool.or_false] at hw
      refine ⟨q - 1, [.ref 234, .int (nI e), .int (nI r), .int (nI S), .int (nI (b_b (z_any (fun k => decide (m 236 (87 + 6 * e + k) ≠ 0)) k))), .int (nI (k + 1))], _, by omega, ⟨k + 1, by omega, hz (Or.inl c2), by rw [hw], rfl⟩, ?_⟩
      simp (disch := omega) only [s_Mo_closed, ↓bc_234, ↓b_t0, ↓b_t1, ↓b_t2, ↓b_t3, ↓b_t4, ↓b_t5, ↓b_t6, Nat.zero_add, Nat.le_refl, b_rs, b_rn, b_r2, b_ss, b_sn, b_bt, b_bf, b_b0, b_b1, b_bw, b_shl, b_or, b_iv, b_jv, b_sI, b_sJ, ↓z_hl, z_b0, z_b1, z_b2, b_and1c, b_and1z, if_true, if_false, nI_add, pk_mul, b_cl, b_lt, b_le, b_eq, b_eq0, b_le0, b_0lt, b_0le, b_lt0]
      rw [if_neg (by omega), if_pos c2]
    · rw [decide_eq_true c2, Bool.or_true] at hw
      by_cases c3 : w_cs (m 236) S k < m 236 (r + k)
      · right
        refine ⟨q - 1, [.ref 234, .int (nI e), .int (nI r), .int (nI S), .int (nI 1), .int (nI (k + 1))], _, by omega, ⟨k + 1, by omega, hz (Or.inr c3), by rw [hw]; rfl, rfl⟩, ?_⟩
        simp (disch := omega) only [s_Mo_closed, s1, b_0ltlf, ↓bc_234, ↓b_t0, ↓b_t1, ↓b_t2, ↓b_t3, ↓b_t4, ↓b_t5, ↓b_t6, Nat.zero_add, Nat.le_refl, b_rs, b_rn, b_r2, b_ss, b_sn, b_bt, b_bf, b_b0, b_b1, b_bw, b_shl, b_or, b_iv, b_jv, b_sI, b_sJ, ↓z_hl, z_b0, z_b1, z_b2, b_and1c, b_and1z, if_true, if_false, nI_add, pk_mul, b_cl, b_lt, b_le, b_eq, b_eq0, b_le0, b_0lt, b_0le, b_lt0]
        rw [if_neg (by omega), if_neg c2, if_pos c3]
      · left
        have e1 : w_fbh (m 236) r e S = false := by
          refine Bool.eq_false_iff.mpr fun g => ?_
          unfold w_fbh at g
          rw [Bool.and_eq_true] at g
          have := of_decide_eq_true ((z_all_iff _ _).mp g.1 k (by omega))
          rcases this with g2 | g2
          · exact c2 g2
          · exact c3 g2
        rw [e1]
        simp (disch := omega) only [s_Mo_closed, s1, b_0ltlf, ↓bc_234, ↓b_t0, ↓b_t1, ↓b_t2, ↓b_t3, ↓b_t4, ↓b_t5, ↓b_t6, Nat.zero_add, Nat.le_refl, b_rs, b_rn, b_r2, b_ss, b_sn, b_bt, b_bf, b_b0, b_b1, b_bw, b_shl, b_or, b_iv, b_jv, b_sI, b_sJ, ↓z_hl, z_b0, z_b1, z_b2, b_and1c, b_and1z, if_true, if_false, nI_add, pk_mul, b_cl, b_lt, b_le, b_eq, b_eq0, b_le0, b_0lt, b_0le, b_lt0]
        rw [if_neg (by omega), if_neg c2, if_neg c3]
theorem s_Mo_closesAll (hS : i_S (m 236)) (hD : 3 ≤ D) {r S : Nat} (hr0 : r + 6 ≤ 533) (hr : ∀ k, k < 6 → m 236 (r + k) ≤ 99) (hs : S < 1024) : a_ex X tx a_T D 263 [.ref 234, .int (nI r), .int (nI S)] (b_h m j w) = some ((b_h m j w), some (.int (nI (b_b (z_all (fun k => decide (m 236 (r + k) ≤ w_cs (m 236) S k)) 6))))) := by
  obtain ⟨d, rfl⟩ : ∃ d, D = d + 1 := ⟨D - 1, by omega⟩
  rw [e_Mo_closesAll, q_Mo_closesAll_0]
  rw [← l_Mo_closesAll_2]
  refine z_run (Q := fun q => q = some (b_h m j w, some (.int (nI (b_b (z_all (fun k => decide (m 236 (r + k) ≤ w_cs (m 236) S k)) 6)))))) (fun q L h => ∃ k, q + k = 6 ∧ z_all (fun k => decide (m 236 (r + k) ≤ w_cs (m 236) S k)) k = true ∧ L = [.ref 234, .int (nI r), .int (nI S), .int (nI k)] ∧ h = b_h m j w) 0 ?_ 6 _ _ ⟨0, by omega, rfl, rfl, rfl⟩ _ (z_fu (by omega))
  rintro q L h ⟨k, hq, ha, rfl, rfl⟩ f _
  rw [l_Mo_closesAll_2, q_Mo_closesAll_2]
  by_cases c : k = 6
  · left
    subst c
    rw [ha]
    simp (disch := omega) only [↓bc_234, ↓b_t0, ↓b_t1, ↓b_t2, ↓b_t3, ↓b_t4, ↓b_t5, ↓b_t6, Nat.zero_add, Nat.le_refl, b_rs, b_rn, b_r2, b_ss, b_sn, b_bt, b_bf, b_b0, b_b1, b_bw, b_shl, b_or, b_iv, b_jv, b_sI, b_sJ, ↓z_hl, z_b0, z_b1, z_b2, b_and1c, b_and1z, if_true, if_false, nI_add, pk_mul, b_cl, b_lt, b_le, b_eq, b_eq0, b_le0, b_0lt, b_0le, b_lt0]
  · have h3 := hr k (by omega)
    have h4 := w_cs_le hS (S := S) (k := k) (by omega)
    have s1 := s_Mo_rest (X := X) (tx := tx) (D := d) (m := m) (j := j) (w := w) hS (by omega) (r := r) (S := S) (k := k) hr0 h3 hs (by omega)
    by_cases c2 : m 236 (r + k) ≤ w_cs (m 236) S k
    · right
      refine ⟨q - 1, [.ref 234, .int (nI r), .int (nI S), .int (nI (k + 1))], _, by omega, ⟨k + 1, by omega, by show (z_all (fun k => decide (m 236 (r + k) ≤ w_cs (m 236) S k)) k && decide (m 236 (r + k) ≤ w_cs (m 236) S k)) = true; rw [ha, decide_eq_true c2]; rfl, rfl, rfl⟩, ?_⟩
      simp (disch := omega) only [s1, b_lfle0, ↓bc_234, ↓b_t0, ↓b_t1, ↓b_t2, ↓b_t3, ↓b_t4, ↓b_t5, ↓b_t6, Nat.zero_add, Nat.le_refl, b_rs, b_rn, b_r2, b_ss, b_sn, b_bt, b_bf, b_b0, b_b1, b_bw, b_shl, b_or, b_iv, b_jv, b_sI, b_sJ, ↓z_hl, z_b0, z_b1, z_b2, b_and1c, b_and1z, if_true, if_false, nI_add, pk_mul, b_cl, b_lt, b_le, b_eq, b_eq0, b_le0, b_0lt, b_0le, b_lt0]
      rw [if_neg (by omega), if_pos c2]
    · left
      have e1 : z_all (fun k => decide (m 236 (r + k) ≤ w_cs (m 236) S k)) 6 = false := Bool.eq_false_iff.mpr fun g => c2 (of_decide_eq_true ((z_all_iff _ _).mp g k (by omega)))
      rw [e1]
      simp (disch := omega) only [s1, b_lfle0, ↓bc_234, ↓b_t0, ↓b_t1, ↓b_t2, ↓b_t3, ↓b_t4, ↓b_t5, ↓b_t6, Nat.zero_add, Nat.le_refl, b_rs, b_rn, b_r2, b_ss, b_sn, b_bt, b_bf, b_b0, b_b1, b_bw, b_shl, b_or, b_iv, b_jv, b_sI, b_sJ, ↓z_hl, z_b0, z_b1, z_b2, b_and1c, b_and1z, if_true, if_false, nI_add, pk_mul, b_cl, b_lt, b_le, b_eq, b_eq0, b_le0, b_0lt, b_0le, b_lt0]
      rw [if_neg (by omega), if_neg c2]
theorem s_Mo_priceOf (hS : i_S (m 236)) (hI : i_D (m 236)) (hD : 2 ≤ D) {S : Nat} (hs : S < 1024) : a_ex X tx a_T D 264 [.ref 234, .int (nI S)] (b_h m j w) = some ((b_h m j w), some (.int (nI (w_prc (m 236) S)))) := by
  obtain ⟨d, rfl⟩ : ∃ d, D = d + 1 := ⟨D - 1, by omega⟩
  rw [e_Mo_priceOf, q_Mo_priceOf_0]
  have hE := i_S_E hS
  rw [← l_Mo_priceOf_4]
  refine z_run (Q := fun r => r = some (b_h m j w, some (.int (nI (w_prc (m 236) S))))) (fun q L h => ∃ e, q + e = m 236 3 ∧ L = [.ref 234, .int (nI S), .int (nI (z_sum (fun e => if S.testBit e = true then m 236 (251 + e) else 0) e)), .int (nI e)] ∧ h = b_h m j w) 0 ?_ (m 236 3) _ _ ⟨0, by omega, rfl, rfl⟩ _ (z_fu (by omega))
  rintro q L h ⟨e, hq, rfl, rfl⟩ f _
  rw [l_Mo_priceOf_4, q_Mo_priceOf_4]
  by_cases c : e = m 236 3
  · left
    subst c
    simp (disch := omega) only [↓bc_234, ↓br_234_6, ↓bc_236, ↓bx_236, bl_236, ↓b_t0, ↓b_t1, ↓b_t2, ↓b_t3, ↓b_t4, ↓b_t5, ↓b_t6, Nat.zero_add, Nat.le_refl, b_rs, b_rn, b_r2, b_ss, b_sn, b_bt, b_bf, b_b0, b_b1, b_bw, b_shl, b_or, b_iv, b_jv, b_sI, b_sJ, ↓z_hl, z_b0, z_b1, z_b2, b_and1c, b_and1z, if_true, if_false, nI_add, pk_mul, b_cl, b_lt, b_le, b_eq, b_eq0, b_le0, b_0lt, b_0le, b_lt0]
    rfl
  · right
    have hw : z_sum (fun e => if S.testBit e = true then m 236 (251 + e) else 0) (e + 1) = z_sum (fun e => if S.testBit e = true then m 236 (251 + e) else 0) e + (if S.testBit e = true then m 236 (251 + e) else 0) := rfl
    cases hb : S.testBit e with
    | false =>
      rw [hb, if_neg (by decide)] at hw
      refine ⟨q - 1, [.ref 234, .int (nI S), .int (nI (z_sum (fun e => if S.testBit e = true then m 236 (251 + e) else 0) e + 0)), .int (nI (e + 1))], _, by omega, ⟨e + 1, by omega, by rw [hw], rfl⟩, ?_⟩
      simp (disch := omega) only [s_Mo_bitOf, hb, ↓bc_234, ↓br_234_6, ↓bc_236, ↓bx_236, bl_236, ↓b_t0, ↓b_t1, ↓b_t2, ↓b_t3, ↓b_t4, ↓b_t5, ↓b_t6, Nat.zero_add, Nat.le_refl, b_rs, b_rn, b_r2, b_ss, b_sn, b_bt, b_bf, b_b0, b_b1, b_bw, b_shl, b_or, b_iv, b_jv, b_sI, b_sJ, ↓z_hl, z_b0, z_b1, z_b2, b_and1c, b_and1z, if_true, if_false, nI_add, pk_mul, b_cl, b_lt, b_le, b_eq, b_eq0, b_le0, b_0lt, b_0le, b_lt0]
      rw [if_neg (by omega)]
    | true =>
      rw [hb, if_pos rfl] at hw
      refine ⟨q - 1, [.ref 234, .int (nI S), .int (nI (z_sum (fun e => if S.testBit e = true then m 236 (251 + e) else 0) e + m 236 (251 + e))), .int (nI (e + 1))], _, by omega, ⟨e + 1, by omega, by rw [hw], rfl⟩, ?_⟩
      simp (disch := omega) only [s_Mo_bitOf, hb, Nat.one_ne_zero, ↓bc_234, ↓br_234_6, ↓bc_236, ↓bx_236, bl_236, ↓b_t0, ↓b_t1, ↓b_t2, ↓b_t3, ↓b_t4, ↓b_t5, ↓b_t6, Nat.zero_add, Nat.le_refl, b_rs, b_rn, b_r2, b_ss, b_sn, b_bt, b_bf, b_b0, b_b1, b_bw, b_shl, b_or, b_iv, b_jv, b_sI, b_sJ, ↓z_hl, z_b0, z_b1, z_b2, b_and1c, b_and1z, if_true, if_false, nI_add, pk_mul, b_cl, b_lt, b_le, b_eq, b_eq0, b_le0, b_0lt, b_0le, b_lt0]
      rw [if_neg (by omega)]
/-- what is known of a set behind so many endings -/
def w_par (fb : Nat → Nat → Bool) (S e : Nat) : Bool := decide (S = 0) || z_any (fun e => S.testBit e && fb e (w_rm S e) && w_cn fb (w_rm S e)) e
theorem w_par_1 {fb : Nat → Nat → Bool} {S e : Nat} : w_par fb S (e + 1) = (w_par fb S e || (S.testBit e && fb e (w_rm S e) && w_cn fb (w_rm S e))) := by
  unfold w_par
  rw [show z_any (fun e => S.testBit e && fb e (w_rm S e) && w_cn fb (w_rm S e)) (e + 1) = (z_any (fun e => S.testBit e && fb e (w_rm S e) && w_cn fb (w_rm S e)) e || (S.testBit e && fb e (w_rm S e) && w_cn fb (w_rm S e))) from rfl, Bool.or_assoc]
theorem w_par_end {fb : Nat → Nat → Bool} {S n : Nat} (hn : n ≤ 10) (hS : S < 2 ^ n) : w_par fb S n = w_cn fb S := by
  have hP : 2 ^ n ≤ 1024 := Nat.pow_le_pow_right (n := 2) (by decide) hn
  rw [w_cn_eq (by omega)]
  unfold w_par
  congr 1
  refine (z_any_pad hn fun k h1 _ => ?_).symm
  have hb : S.testBit k = false := Nat.testBit_lt_two_pow (Nat.lt_of_lt_of_le hS (Nat.pow_le_pow_right (n := 2) (by decide) h1))
  show (S.testBit k && fb k (w_rm S k) && w_cn fb (w_rm S k)) = false
  rw [hb]; rfl
theorem w_par_t {fb : Nat → Nat → Bool} {S e : Nat} (h : w_par fb S e = true) : ∀ n, w_par fb S (e + n) = true
  | 0 => h
  | n + 1 => by
    rw [← Nat.add_assoc, w_par_1, w_par_t h n]; rfl
/-- what lies in the row of sets that can come -/
def w_cna (fb : Nat → Nat → Bool) (K S : Nat) : Bool := decide (S &&& (K ^^^ 4294967295) = 0) && w_cn fb S
theorem s_Mo_cans (hS : i_S (m 236)) (hD : 4 ≤ D) {r K : Nat} (hr0 : r + 6 ≤ 533) (hr : ∀ k, k < 6 → m 236 (r + k) ≤ 99) (hK : K < 1024) : ∃ m2, a_ex X tx a_T D 262 [.ref 234, .int (nI r), .int (nI K)] (b_h m j w) = some (b_h m2 j w, none) ∧ z_fr 243 243 m m2 ∧ ∀ S, S < 2 ^ m 236 3 → m2 243 S = b_b (w_cna (w_fbh (m 236) r) K S) := by
  obtain ⟨d, rfl⟩ : ∃ d, D = d + 1 := ⟨D - 1, by omega⟩
  have hE := i_S_E hS
  have hPw : 2 ^ m 236 3 ≤ 1024 := Nat.pow_le_pow_right (n := 2) (by decide) hE
  rw [e_Mo_cans, q_Mo_cans_0, ← l_Mo_cans_2]
  refine z_runT (Q := fun q => ∃ m2, q = some (b_h m2 j w, none) ∧ z_fr 243 243 m m2 ∧ ∀ S, S < 2 ^ m 236 3 → m2 243 S = b_b (w_cna (w_fbh (m 236) r) K S)) (fun k c L h => ∃ S m3, h = b_h m3 j w ∧ z_fr 243 243 m m3 ∧ (∀ T, T < S → m3 243 T = b_b (w_cna (w_fbh (m 236) r) K T)) ∧
    ((∃ u4, c = 2 ∧ k + 12 * S = 12 * 2 ^ m 236 3 + 1 ∧ S ≤ 2 ^ m 236 3 ∧ L = [.ref 234, .int (nI r), .int (nI K), .int (nI S), u4]) ∨
     (∃ e, c = 28 ∧ k + 12 * S + e = 12 * 2 ^ m 236 3 ∧ S < 2 ^ m 236 3 ∧ e ≤ m 236 3 ∧ S &&& (K ^^^ 4294967295) = 0 ∧ m3 243 S = b_b (w_par (w_fbh (m 236) r) S e) ∧ L = [.ref 234, .int (nI r), .int (nI K), .int (nI S), .int (nI e)]))) 0 ?_ (12 * 2 ^ m 236 3 + 1) 2 _ _ ⟨0, m, rfl, z_fr_rf, fun T hT => absurd hT (Nat.not_lt_zero T), Or.inl ⟨_, rfl, by omega, Nat.zero_le _, rfl⟩⟩ _ (z_fu (by omega))
  rintro k c L h ⟨S, m3, rfl, hm, hv, ⟨u4, rfl, hk, hs, rfl⟩ | ⟨e, rfl, hk, hs, he, hsub, hp, rfl⟩⟩ f _
  · have g6 : m3 236 = m 236 := hm 236 (by omega)
    have e3 : m3 236 3 = m 236 3 := by rw [g6]
    rw [l_Mo_cans_2, q_Mo_cans_2]
    by_cases c : S = 2 ^ m 236 3
    · left
      refine ⟨m3, ?_, hm, fun T hT => hv T (by omega)⟩
      simp (disch := omega) only [e3, ↓bc_234, ↓br_234_6, ↓bc_236, ↓bx_236, bl_236, ↓br_234_24, ↓bc_243, ↓bx_243, bl_243, bk_243, ↓b_t0, ↓b_t1, ↓b_t2, ↓b_t3, ↓b_t4, ↓b_t5, ↓b_t6, Nat.zero_add, Nat.le_refl, b_rs, b_rn, b_r2, b_ss, b_sn, b_bt, b_bf, b_b0, b_b1, b_bw, b_shl, b_or, b_iv, b_jv, b_sI, b_sJ, ↓z_hl, z_b0, z_b1, z_b2, b_and1c, b_and1z, if_true, if_false, nI_add, pk_mul, b_cl, b_lt, b_le, b_eq, b_eq0, b_le0, b_0lt, b_0le, b_lt0]
      rw [if_pos (by omega)]
    · right
      have hx : S &&& (K ^^^ 4294967295) ≤ S := Nat.and_le_left
      by_cases c2 : S &&& (K ^^^ 4294967295) = 0
      · refine ⟨k - 1, 28, [.ref 234, .int (nI r), .int (nI K), .int (nI S), .int (nI 0)], b_h (b_r m3 243 (b_s (m3 243) S (b_b (decide (S = 0))))) j w, by omega, ⟨S, _, rfl, z_fr_r hm (by omega), fun T hT => by rw [b_rs, b_sn (by omega)]; exact hv T hT, Or.inr ⟨0, rfl, by omega, by omega, Nat.zero_le _, c2, by rw [b_rs, b_ss]; congr 1; exact (Bool.or_false _).symm, rfl⟩⟩, Or.inr ?_⟩
        rw [l_Mo_cans_28]
        by_cases c3 : S = 0
        · subst c3
          rw [decide_eq_true rfl, b_bt]
          simp (disch := omega) only [e3, b_xor, b_and, b_bz243t, b_bz243f, Nat.zero_and, ↓bc_234, ↓br_234_6, ↓bc_236, ↓bx_236, bl_236, ↓br_234_24, ↓bc_243, ↓bx_243, bl_243, bk_243, ↓b_t0, ↓b_t1, ↓b_t2, ↓b_t3, ↓b_t4, ↓b_t5, ↓b_t6, Nat.zero_add, Nat.le_refl, b_rs, b_rn, b_r2, b_ss, b_sn, b_bt, b_bf, b_b0, b_b1, b_bw, b_shl, b_or, b_iv, b_jv, b_sI, b_sJ, ↓z_hl, z_b0, z_b1, z_b2, b_and1c, b_and1z, if_true, if_false, nI_add, pk_mul, b_cl, b_lt, b_le, b_eq, b_eq0, b_le0, b_0lt, b_0le, b_lt0]
          rw [if_neg (by omega)]
        · rw [decide_eq_false c3, b_bf]
          simp (disch := omega) only [e3, b_xor, b_and, b_bz243t, b_bz243f, ↓bc_234, ↓br_234_6, ↓bc_236, ↓bx_236, bl_236, ↓br_234_24, ↓bc_243, ↓bx_243, bl_243, bk_243, ↓b_t0, ↓b_t1, ↓b_t2, ↓b_t3, ↓b_t4, ↓b_t5, ↓b_t6, Nat.zero_add, Nat.le_refl, b_rs, b_rn, b_r2, b_ss, b_sn, b_bt, b_bf, b_b0, b_b1, b_bw, b_shl, b_or, b_iv, b_jv, b_sI, b_sJ, ↓z_hl, z_b0, z_b1, z_b2, b_and1c, b_and1z, if_true, if_false, nI_add, pk_mul, b_cl, b_lt, b_le, b_eq, b_eq0, b_le0, b_0lt, b_0le, b_lt0]
          rw [if_neg (by omega), if_neg c3, if_pos c2]
      · have c3 : S ≠ 0 := fun g => c2 (by rw [g, Nat.zero_and])
        have e1 : w_cna (w_fbh (m 236) r) K S = false := by unfold w_cna; rw [decide_eq_false c2]; rfl
        refine ⟨k - 12, 2, [.ref 234, .int (nI r), .int (nI K), .int (nI (S + 1)), u4], b_h (b_r m3 243 (b_s (m3 243) S 0)) j w, by omega, ⟨S + 1, _, rfl, z_fr_r hm (by omega), fun T hT => ?_, Or.inl ⟨u4, rfl, by omega, by omega, rfl⟩⟩, Or.inl ?_⟩
        · rw [b_rs]
          by_cases c4 : T = S
          · rw [c4, b_ss, e1]; rfl
          · rw [b_sn c4]; exact hv T (by omega)
        · simp (disch := omega) only [e3, b_xor, b_and, b_bz243t, b_bz243f, ↓bc_234, ↓br_234_6, ↓bc_236, ↓bx_236, bl_236, ↓br_234_24, ↓bc_243, ↓bx_243, bl_243, bk_243, ↓b_t0, ↓b_t1, ↓b_t2, ↓b_t3, ↓b_t4, ↓b_t5, ↓b_t6, Nat.zero_add, Nat.le_refl, b_rs, b_rn, b_r2, b_ss, b_sn, b_bt, b_bf, b_b0, b_b1, b_bw, b_shl, b_or, b_iv, b_jv, b_sI, b_sJ, ↓z_hl, z_b0, z_b1, z_b2, b_and1c, b_and1z, if_true, if_false, nI_add, pk_mul, b_cl, b_lt, b_le, b_eq, b_eq0, b_le0, b_0lt, b_0le, b_lt0]
          rw [if_neg (by omega), if_neg c3, if_neg c2]
  · have g6 : m3 236 = m 236 := hm 236 (by omega)
    have e3 : m3 236 3 = m 236 3 := by rw [g6]
    rw [l_Mo_cans_28, q_Mo_cans_28]
    right
    have e1 : w_cna (w_fbh (m 236) r) K S = w_cn (w_fbh (m 236) r) S := by unfold w_cna; rw [decide_eq_true hsub, Bool.true_and]
    have out : w_par (w_fbh (m 236) r) S e = w_cn (w_fbh (m 236) r) S → ∀ T, T < S + 1 → m3 243 T = b_b (w_cna (w_fbh (m 236) r) K T) := fun g T hT => by
      by_cases c4 : T = S
      · rw [c4, e1, ← g]; exact hp
      · exact hv T (by omega)
    by_cases c : e = m 236 3
    · subst c
      have hpe := w_par_end (fb := w_fbh (m 236) r) hE hs
      refine ⟨12 * 2 ^ m 236 3 + 1 - 12 * (S + 1), 2, [.ref 234, .int (nI r), .int (nI K), .int (nI (S + 1)), .int (nI (m 236 3))], b_h m3 j w, by omega, ⟨S + 1, m3, rfl, hm, out hpe, Or.inl ⟨_, rfl, by omega, by omega, rfl⟩⟩, Or.inl ?_⟩
      simp (disch := omega) only [e3, ↓bc_234, ↓br_234_6, ↓bc_236, ↓bx_236, bl_236, ↓br_234_24, ↓bc_243, ↓bx_243, bl_243, bk_243, ↓b_t0, ↓b_t1, ↓b_t2, ↓b_t3, ↓b_t4, ↓b_t5, ↓b_t6, Nat.zero_add, Nat.le_refl, b_rs, b_rn, b_r2, b_ss, b_sn, b_bt, b_bf, b_b0, b_b1, b_bw, b_shl, b_or, b_iv, b_jv, b_sI, b_sJ, ↓z_hl, z_b0, z_b1, z_b2, b_and1c, b_and1z, if_true, if_false, nI_add, pk_mul, b_cl, b_lt, b_le, b_eq, b_eq0, b_le0, b_0lt, b_0le, b_lt0]
    · cases hpar : w_par (w_fbh (m 236) r) S e with
      | true =>
        rw [hpar] at hp out
        have hfin : w_cn (w_fbh (m 236) r) S = true := by
          rw [← w_par_end hE hs]
          have := w_par_t hpar (m 236 3 - e)
          rwa [show e + (m 236 3 - e) = m 236 3 by omega] at this
        refine ⟨12 * 2 ^ m 236 3 + 1 - 12 * (S + 1), 2, [.ref 234, .int (nI r), .int (nI K), .int (nI (S + 1)), .int (nI e)], b_h m3 j w, by omega, ⟨S + 1, m3, rfl, hm, out hfin.symm, Or.inl ⟨_, rfl, by omega, by omega, rfl⟩⟩, Or.inl ?_⟩
        simp (disch := omega) only [e3, hp, bk_243, true_or, Nat.one_ne_zero, ↓bc_234, ↓br_234_6, ↓bc_236, ↓bx_236, bl_236, ↓br_234_24, ↓bc_243, ↓bx_243, bl_243, bk_243, ↓b_t0, ↓b_t1, ↓b_t2, ↓b_t3, ↓b_t4, ↓b_t5, ↓b_t6, Nat.zero_add, Nat.le_refl, b_rs, b_rn, b_r2, b_ss, b_sn, b_bt, b_bf, b_b0, b_b1, b_bw, b_shl, b_or, b_iv, b_jv, b_sI, b_sJ, ↓z_hl, z_b0, z_b1, z_b2, b_and1c, b_and1z, if_true, if_false, nI_add, pk_mul, b_cl, b_lt, b_le, b_eq, b_eq0, b_le0, b_0lt, b_0le, b_lt0]
        rw [if_neg (by omega)]
      | false =>
        rw [hpar] at hp
        have h1 := w_par_1 (fb := w_fbh (m 236) r) (S := S) (e := e)
        rw [hpar, Bool.false_or] at h1
        have hl : w_rm S e ≤ S := w_rm_le
        cases hb : S.testBit e with
        | false =>
          rw [hb, Bool.false_and, Bool.false_and] at h1
          refine ⟨k - 1, 28, [.ref 234, .int (nI r), .int (nI K), .int (nI S), .int (nI (e + 1))], b_h (b_r m3 243 (b_s (m3 243) S 0)) j w, by omega, ⟨S, _, rfl, z_fr_r hm (by omega), fun T hT => by rw [b_rs, b_sn (by omega)]; exact hv T hT, Or.inr ⟨e + 1, rfl, by omega, hs, by omega, hsub, by rw [b_rs, b_ss, h1]; rfl, rfl⟩⟩, Or.inl ?_⟩
          simp (disch := omega) only [e3, hp, bk_243, true_or, s_Mo_bitOf, hb, b_bz243f, b_bz243t, ↓bc_234, ↓br_234_6, ↓bc_236, ↓bx_236, bl_236, ↓br_234_24, ↓bc_243, ↓bx_243, bl_243, bk_243, ↓b_t0, ↓b_t1, ↓b_t2, ↓b_t3, ↓b_t4, ↓b_t5, ↓b_t6, Nat.zero_add, Nat.le_refl, b_rs, b_rn, b_r2, b_ss, b_sn, b_bt, b_bf, b_b0, b_b1, b_bw, b_shl, b_or, b_iv, b_jv, b_sI, b_sJ, ↓z_hl, z_b0, z_b1, z_b2, b_and1c, b_and1z, if_true, if_false, nI_add, pk_mul, b_cl, b_lt, b_le, b_eq, b_eq0, b_le0, b_0lt, b_0le, b_lt0]
          rw [if_neg (by omega)]
        | true =>
          have hpr := w_pc_rm (S := S) (by omega) hb
          have hlt : w_rm S e < S := by
            have : w_rm S e ≠ S := fun g => by rw [g] at hpr; omega
            omega
          have hsubT : w_rm S e &&& (K ^^^ 4294967295) = 0 := by
            rw [w_and_nx (by omega)] at hsub ⊢
            rw [z_and_sub] at hsub ⊢
            intro i hi
            have hi10 := z_bt10 (a := w_rm S e) (by omega) hi
            rw [w_rm_bt (by omega), Bool.and_eq_true] at hi
            exact hsub i hi.1
          have hcT : w_cna (w_fbh (m 236) r) K (w_rm S e) = w_cn (w_fbh (m 236) r) (w_rm S e) := by unfold w_cna; rw [decide_eq_true hsubT, Bool.true_and]
          have hvT := hv _ hlt
          rw [hcT] at hvT
          rw [hb, Bool.true_and] at h1
          have s1 := s_Mo_fitsBehind (X := X) (tx := tx) (D := d) (m := m3) (j := j) (w := w) (by rw [g6]; exact hS) (by omega) (e := e) (r := r) (S := w_rm S e) hr0 (by rw [g6]; exact hr) (by omega) (by omega)
          rw [g6] at s1
          cases hc : w_cn (w_fbh (m 236) r) (w_rm S e) with
          | false =>
            rw [hc] at hvT
            rw [hc, Bool.and_false] at h1
            refine ⟨k - 1, 28, [.ref 234, .int (nI r), .int (nI K), .int (nI S), .int (nI (e + 1))], b_h (b_r m3 243 (b_s (m3 243) S 0)) j w, by omega, ⟨S, _, rfl, z_fr_r hm (by omega), fun T hT => by rw [b_rs, b_sn (by omega)]; exact hv T hT, Or.inr ⟨e + 1, rfl, by omega, hs, by omega, hsub, by rw [b_rs, b_ss, h1]; rfl, rfl⟩⟩, Or.inl ?_⟩
            simp (disch := omega) only [e3, hp, bk_243, true_or, s_Mo_bitOf, hb, b_xor, b_and, w_rm_eq, hvT, b_bz243f, b_bz243t, Nat.one_ne_zero, ↓bc_234, ↓br_234_6, ↓bc_236, ↓bx_236, bl_236, ↓br_234_24, ↓bc_243, ↓bx_243, bl_243, bk_243, ↓b_t0, ↓b_t1, ↓b_t2, ↓b_t3, ↓b_t4, ↓b_t5, ↓b_t6, Nat.zero_add, Nat.le_refl, b_rs, b_rn, b_r2, b_ss, b_sn, b_bt, b_bf, b_b0, b_b1, b_bw, b_shl, b_or, b_iv, b_jv, b_sI, b_sJ, ↓z_hl, z_b0, z_b1, z_b2, b_and1c, b_and1z, if_true, if_false, nI_add, pk_mul, b_cl, b_lt, b_le, b_eq, b_eq0, b_le0, b_0lt, b_0le, b_lt0]
            rw [if_neg (by omega)]
          | true =>
            rw [hc] at hvT
            rw [hc, Bool.and_true] at h1
            refine ⟨k - 1, 28, [.ref 234, .int (nI r), .int (nI K), .int (nI S), .int (nI (e + 1))], b_h (b_r m3 243 (b_s (m3 243) S (b_b (w_fbh (m 236) r e (w_rm S e))))) j w, by omega, ⟨S, _, rfl, z_fr_r hm (by omega), fun T hT => by rw [b_rs, b_sn (by omega)]; exact hv T hT, Or.inr ⟨e + 1, rfl, by omega, hs, by omega, hsub, by rw [b_rs, b_ss, h1], rfl⟩⟩, Or.inl ?_⟩
            cases hfb : w_fbh (m 236) r e (w_rm S e) with
            | false =>
              rw [hfb] at s1
              simp (disch := omega) only [e3, hp, bk_243, true_or, s_Mo_bitOf, hb, b_xor, b_and, w_rm_eq, hvT, s1, b_bz243f, b_bz243t, Nat.one_ne_zero, ↓bc_234, ↓br_234_6, ↓bc_236, ↓bx_236, bl_236, ↓br_234_24, ↓bc_243, ↓bx_243, bl_243, bk_243, ↓b_t0, ↓b_t1, ↓b_t2, ↓b_t3, ↓b_t4, ↓b_t5, ↓b_t6, Nat.zero_add, Nat.le_refl, b_rs, b_rn, b_r2, b_ss, b_sn, b_bt, b_bf, b_b0, b_b1, b_bw, b_shl, b_or, b_iv, b_jv, b_sI, b_sJ, ↓z_hl, z_b0, z_b1, z_b2, b_and1c, b_and1z, if_true, if_false, nI_add, pk_mul, b_cl, b_lt, b_le, b_eq, b_eq0, b_le0, b_0lt, b_0le, b_lt0]
              rw [if_neg (by omega)]
            | true =>
              rw [hfb] at s1
              simp (disch := omega) only [e3, hp, bk_243, true_or, s_Mo_bitOf, hb, b_xor, b_and, w_rm_eq, hvT, s1, b_bz243f, b_bz243t, Nat.one_ne_zero, ↓bc_234, ↓br_234_6, ↓bc_236, ↓bx_236, bl_236, ↓br_234_24, ↓bc_243, ↓bx_243, bl_243, bk_243, ↓b_t0, ↓b_t1, ↓b_t2, ↓b_t3, ↓b_t4, ↓b_t5, ↓b_t6, Nat.zero_add, Nat.le_refl, b_rs, b_rn, b_r2, b_ss, b_sn, b_bt, b_bf, b_b0, b_b1, b_bw, b_shl, b_or, b_iv, b_jv, b_sI, b_sJ, ↓z_hl, z_b0, z_b1, z_b2, b_and1c, b_and1z, if_true, if_false, nI_add, pk_mul, b_cl, b_lt, b_le, b_eq, b_eq0, b_le0, b_0lt, b_0le, b_lt0]
              rw [if_neg (by omega)]
end OG
