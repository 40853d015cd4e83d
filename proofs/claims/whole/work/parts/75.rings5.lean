/-! RINGS: the steps -/
theorem w_same_gen {m m3 : Nat → Nat → Nat} (h1 : ∀ c, (c < 26 ∨ 147 < c) → (c < 172 ∨ 175 < c) → c ≠ 234 → c ≠ 236 → c ≠ 241 → (c < 248 ∨ 250 < c) → m3 c = m c) (h2 : ∀ k, k ≠ 0 → k ≠ 23 → m3 234 k = m 234 k) : w_same m m3 :=
  ⟨fun c hc => h1 c (by omega) (by omega) (by omega) (by omega) (by omega) (by omega), fun _ _ => by rw [h1 0 (by omega) (by omega) (by omega) (by omega) (by omega) (by omega)], by rw [h1 1 (by omega) (by omega) (by omega) (by omega) (by omega) (by omega)], fun _ _ => by rw [h1 156 (by omega) (by omega) (by omega) (by omega) (by omega) (by omega)], by rw [h1 162 (by omega) (by omega) (by omega) (by omega) (by omega) (by omega)], by rw [h1 167 (by omega) (by omega) (by omega) (by omega) (by omega) (by omega)], fun k hk => h2 k (by omega) (by omega)⟩
section RL
variable {X : Nat × (Nat → Int32)} {tx : List Int32} {D : Nat} {m j : Nat → Nat → Nat} {w : (Nat × Nat) × Bool}
theorem t_gets (h : r_R m j) (hD : 10 ≤ D) {q : Nat} (hq : q < 4294967296) : w_step X tx D 178 287 [.int (nI q)] m j w := by
  have hS := r_R_st h
  have hI := r_R_dy h
  have hF := r_R_fa h
  have hA := r_R_af h
  have hM := i_S_M hS
  have hE := i_S_E hS
  obtain ⟨d, rfl⟩ : ∃ d, D = d + 1 := ⟨D - 1, by omega⟩
  by_cases c : q < m 236 1
  · obtain ⟨m2, e1, g1, g2, g3⟩ := s_Ri_form (X := X) (tx := tx) (D := d) (j := j) (w := w) hF hA hS hI (by omega)
    have g6 : (b_r m2 234 (b_s (m2 234) 0 0)) 236 = m 236 := by rw [b_rn (by decide)]; exact g1 236 (by omega)
    obtain ⟨m3, e2, k1, k2, k3⟩ := s_Mo_rings (X := X) (tx := tx) (D := d) (m := b_r m2 234 (b_s (m2 234) 0 0)) (j := j) (w := w) (by rw [g6]; exact hS) (by rw [g6]; exact hI) (by omega)
    rw [g6] at k3
    have hv2 := g3 q (by omega)
    have hv3 := k3 q (by omega)
    refine ⟨m2, j, m3, j, (nI ((w_rd (m 236) 6).2 q)), ?_, ?_, ?_⟩
    · rw [e_EM_gets, q_EM_gets_0]
      simp (disch := omega) only [s_Fa_isMan hF hS, decide_eq_false_iff_not, e1, hv2, ↓bc_0, ↓br_0_1, ↓bc_4, ↓br_0_11, ↓bc_172, ↓br_172_4, ↓bc_175, ↓bx_175, bl_175, ↓b_t0, ↓b_t1, ↓b_t2, ↓b_t3, ↓b_t4, ↓b_t5, ↓b_t6, Nat.zero_add, Nat.le_refl, b_rs, b_rn, b_r2, b_ss, b_sn, b_bt, b_bf, b_b0, b_b1, b_bw, b_shl, b_or, b_iv, b_jv, b_sI, b_sJ, ↓z_hl, z_b0, z_b1, z_b2, b_and1c, b_and1z, if_true, if_false, nI_add, pk_mul, b_cl, b_lt, b_le, b_eq, b_eq0, b_le0, b_0lt, b_0le, b_lt0]
      rw [if_neg (fun g => g c)]
    · rw [e_Mo_gets, q_Mo_gets_0]
      have s1 := s_Mo_isMan (X := X) (tx := tx) (D := d) (m := b_r m2 234 (b_s (m2 234) 0 0)) (j := j) (w := w) (by rw [g6]; exact hS) (by omega) hq
      rw [g6, decide_eq_true c] at s1
      simp (disch := omega) only [s1, e2, hv3, Nat.one_ne_zero, ↓bc_234, ↓br_234_38, ↓bc_249, ↓bx_249, bl_249, ↓b_t0, ↓b_t1, ↓b_t2, ↓b_t3, ↓b_t4, ↓b_t5, ↓b_t6, Nat.zero_add, Nat.le_refl, b_rs, b_rn, b_r2, b_ss, b_sn, b_bt, b_bf, b_b0, b_b1, b_bw, b_shl, b_or, b_iv, b_jv, b_sI, b_sJ, ↓z_hl, z_b0, z_b1, z_b2, b_and1c, b_and1z, if_true, if_false, nI_add, pk_mul, b_cl, b_lt, b_le, b_eq, b_eq0, b_le0, b_0lt, b_0le, b_lt0]
    · have fr : ∀ c, c ≠ 234 → (c < 172 ∨ 175 < c) → (c < 248 ∨ 250 < c) → m3 c = m c := fun c p1 p2 p3 => by rw [k1 c p3, b_rn p1, g1 c p2]
      refine r_R_idle h (w_same_gen (fun c p1 p2 p3 _ _ p4 => fr c p3 p2 p4) (fun k p1 _ => by rw [k1 234 (by omega), b_rs, b_sn p1, g1 234 (by omega)])) (fr 236 (by omega) (by omega) (by omega)) (fun c hc => fr c (by omega) (by omega) (by omega)) (fr 241 (by omega) (by omega) (by omega)) (by rw [k1 234 (by omega), b_rs, b_sn (by decide), g1 234 (by omega)])
  · refine ⟨m, j, _, j, nI 4294967295, ?_, ?_, r_R_thr (v := 0) h⟩
    · rw [e_EM_gets, q_EM_gets_0]
      simp (disch := omega) only [s_Fa_isMan hF hS, decide_eq_false_iff_not, ↓bc_0, ↓br_0_1, ↓bc_4, ↓br_0_11, ↓bc_172, ↓br_172_4, ↓bc_175, ↓bx_175, bl_175, ↓b_t0, ↓b_t1, ↓b_t2, ↓b_t3, ↓b_t4, ↓b_t5, ↓b_t6, Nat.zero_add, Nat.le_refl, b_rs, b_rn, b_r2, b_ss, b_sn, b_bt, b_bf, b_b0, b_b1, b_bw, b_shl, b_or, b_iv, b_jv, b_sI, b_sJ, ↓z_hl, z_b0, z_b1, z_b2, b_and1c, b_and1z, if_true, if_false, nI_add, pk_mul, b_cl, b_lt, b_le, b_eq, b_eq0, b_le0, b_0lt, b_0le, b_lt0]
      rw [if_pos c]
    · rw [e_Mo_gets, q_Mo_gets_0]
      have s1 := s_Mo_isMan (X := X) (tx := tx) (D := d) (m := b_r m 234 (b_s (m 234) 0 0)) (j := j) (w := w) (by rw [b_rn (by decide)]; exact hS) (by omega) hq
      rw [b_rn (by decide), decide_eq_false c] at s1
      simp (disch := omega) only [s1, ↓bc_234, ↓br_234_38, ↓bc_249, ↓bx_249, bl_249, ↓b_t0, ↓b_t1, ↓b_t2, ↓b_t3, ↓b_t4, ↓b_t5, ↓b_t6, Nat.zero_add, Nat.le_refl, b_rs, b_rn, b_r2, b_ss, b_sn, b_bt, b_bf, b_b0, b_b1, b_bw, b_shl, b_or, b_iv, b_jv, b_sI, b_sJ, ↓z_hl, z_b0, z_b1, z_b2, b_and1c, b_and1z, if_true, if_false, nI_add, pk_mul, b_cl, b_lt, b_le, b_eq, b_eq0, b_le0, b_0lt, b_0le, b_lt0]
theorem s_Mo_trade (hS : i_S (m 236)) (hI : i_D (m 236)) (hk : m 234 23 ≤ 8) (hD : 8 ≤ D) : ∃ m2, a_ex X tx a_T D 288 [.ref 234] (b_h m j w) = some (b_h m2 j w, some (.int (nI (w_chg (m 236))))) ∧ (∀ c, c ≠ 234 → c ≠ 236 → c ≠ 241 → (c < 248 ∨ 250 < c) → m2 c = m c) ∧ (∀ k, k ≠ 0 → k ≠ 23 → m2 234 k = m 234 k) ∧ (w_chg (m 236) = 0 → m2 236 = m 236 ∧ m2 241 = m 241 ∧ m2 234 23 = m 234 23) ∧ (w_chg (m 236) ≠ 0 → m2 236 = w_hand (m 236) (w_rd (m 236) 6).2 6 ∧ m2 241 = w_keepU (m 241) (m 236) (m 234 23) ∧ m2 234 23 = w_keepN (m 234 23)) := by
  obtain ⟨d, rfl⟩ : ∃ d, D = d + 1 := ⟨D - 1, by omega⟩
  have hE := i_S_E hS
  have g6 : (b_r m 234 (b_s (m 234) 0 0)) 236 = m 236 := b_rn (by decide)
  obtain ⟨m3, e2, k1, k2, k3⟩ := s_Mo_rings (X := X) (tx := tx) (D := d) (m := b_r m 234 (b_s (m 234) 0 0)) (j := j) (w := w) (by rw [g6]; exact hS) (by rw [g6]; exact hI) (by omega)
  rw [g6] at k2 k3
  have n1 : (nI 4294967295 < 0) = True := b_lt0n (by decide) (by decide)
  have k234 : m3 234 = b_s (m 234) 0 0 := (k1 234 (by omega)).trans b_rs
  have k236 : m3 236 = m 236 := (k1 236 (by omega)).trans g6
  have k241 : m3 241 = m 241 := (k1 241 (by omega)).trans (b_rn (by decide))
  have fr3 : ∀ c, c ≠ 234 → (c < 248 ∨ 250 < c) → m3 c = m c := fun c p1 p2 => by rw [k1 c p2, b_rn p1]
  rw [e_Mo_trade, q_Mo_trade_0]
  simp (disch := omega) only [e2, ↓bc_234, ↓br_234_38, ↓bc_249, ↓bx_249, bl_249, ↓br_234_37, ↓bc_248, ↓bx_248, bl_248, ↓br_234_6, ↓bc_236, ↓bx_236, bl_236, ↓b_t0, ↓b_t1, ↓b_t2, ↓b_t3, ↓b_t4, ↓b_t5, ↓b_t6, Nat.zero_add, Nat.le_refl, b_rs, b_rn, b_r2, b_ss, b_sn, b_bt, b_bf, b_b0, b_b1, b_bw, b_shl, b_or, b_iv, b_jv, b_sI, b_sJ, ↓z_hl, z_b0, z_b1, z_b2, b_and1c, b_and1z, if_true, if_false, nI_add, pk_mul, b_cl, b_lt, b_le, b_eq, b_eq0, b_le0, b_0lt, b_0le, b_lt0]
  rw [← l_Mo_trade_9]
  refine z_runT (Q := fun r => ∃ m2, r = some (b_h m2 j w, some (.int (nI (w_chg (m 236))))) ∧ (∀ c, c ≠ 234 → c ≠ 236 → c ≠ 241 → (c < 248 ∨ 250 < c) → m2 c = m c) ∧ (∀ k, k ≠ 0 → k ≠ 23 → m2 234 k = m 234 k) ∧ (w_chg (m 236) = 0 → m2 236 = m 236 ∧ m2 241 = m 241 ∧ m2 234 23 = m 234 23) ∧ (w_chg (m 236) ≠ 0 → m2 236 = w_hand (m 236) (w_rd (m 236) 6).2 6 ∧ m2 241 = w_keepU (m 241) (m 236) (m 234 23) ∧ m2 234 23 = w_keepN (m 234 23))) (fun k c L2 h =>
    (∃ q, c = 9 ∧ k + q = 26 ∧ q ≤ 6 ∧ L2 = [.ref 234, .int (nI (z_sum (fun q => b_b (decide ((w_rd (m 236) 6).2 q ≠ w_br (m 236) q))) q)), .int (nI q)] ∧ h = b_h m3 j w) ∨
    (∃ q m4, c = 37 ∧ k + q = 10 ∧ q ≤ 6 ∧ w_chg (m 236) ≠ 0 ∧ L2 = [.ref 234, .int (nI (w_chg (m 236))), .int (nI q)] ∧ h = b_h m4 j w ∧ (∀ c, c ≠ 234 → c ≠ 236 → c ≠ 241 → m4 c = m3 c) ∧ (∀ k, k ≠ 0 → k ≠ 23 → m4 234 k = m 234 k) ∧ m4 236 = w_hand (m 236) (w_rd (m 236) 6).2 q ∧ m4 241 = w_keepU (m 241) (m 236) (m 234 23) ∧ m4 234 23 = w_keepN (m 234 23))) 0 ?_ 26 9 _ _ (Or.inl ⟨0, rfl, by omega, by omega, rfl, rfl⟩) _ (z_fu (by omega))
  rintro k c L2 h (⟨q, rfl, hk2, hq, rfl, rfl⟩ | ⟨q, m4, rfl, hk2, hq, hne, rfl, rfl, f1, f2, f3, f4, f5⟩) f _
  · rw [l_Mo_trade_9, q_Mo_trade_9]
    have hle := w_chg_le (s := m 236) q
    by_cases c : q = 6
    · subst c
      have e6 : z_sum (fun q => b_b (decide ((w_rd (m 236) 6).2 q ≠ w_br (m 236) q))) 6 = w_chg (m 236) := rfl
      rw [e6] at hle ⊢
      by_cases c2 : w_chg (m 236) = 0
      · left
        refine ⟨m3, ?_, fun c p1 p2 p3 p4 => fr3 c p1 p4, fun k p1 p2 => by rw [k234, b_sn p1], fun _ => ⟨k236, k241, by rw [k234, b_sn (by decide)]⟩, fun g => absurd c2 g⟩
        rw [c2]
        simp (disch := omega) only [↓bc_234, ↓br_234_38, ↓bc_249, ↓bx_249, bl_249, ↓br_234_37, ↓bc_248, ↓bx_248, bl_248, ↓br_234_6, ↓bc_236, ↓bx_236, bl_236, ↓b_t0, ↓b_t1, ↓b_t2, ↓b_t3, ↓b_t4, ↓b_t5, ↓b_t6, Nat.zero_add, Nat.le_refl, b_rs, b_rn, b_r2, b_ss, b_sn, b_bt, b_bf, b_b0, b_b1, b_bw, b_shl, b_or, b_iv, b_jv, b_sI, b_sJ, ↓z_hl, z_b0, z_b1, z_b2, b_and1c, b_and1z, if_true, if_false, nI_add, pk_mul, b_cl, b_lt, b_le, b_eq, b_eq0, b_le0, b_0lt, b_0le, b_lt0]
      · right
        have s1 := s_Mo_keep (X := X) (tx := tx) (D := d) (m := m3) (j := j) (w := w) (by rw [k234, b_sn (by decide)]; exact hk) (by omega)
        refine ⟨10, 37, [.ref 234, .int (nI (w_chg (m 236))), .int (nI 0)], _, by omega, Or.inr ⟨0, b_r (b_r m3 234 (b_s (m3 234) 23 (w_keepN (m3 234 23)))) 241 (w_keepU (m3 241) (m3 236) (m3 234 23)), rfl, by omega, by omega, c2, rfl, rfl, fun c p1 p2 p3 => by rw [b_rn p3, b_rn p1], fun k p1 p2 => by rw [b_rn (by decide), b_rs, b_sn p2, k234, b_sn p1], by rw [b_rn (by decide), b_rn (by decide), k236]; rfl, by rw [b_rs, k241, k236, k234, b_sn (by decide)], by rw [b_rn (by decide), b_rs, b_ss, k234, b_sn (by decide)]⟩, Or.inr ?_⟩
        rw [l_Mo_trade_37]
        simp (disch := omega) only [s1, ↓bc_234, ↓br_234_38, ↓bc_249, ↓bx_249, bl_249, ↓br_234_37, ↓bc_248, ↓bx_248, bl_248, ↓br_234_6, ↓bc_236, ↓bx_236, bl_236, ↓b_t0, ↓b_t1, ↓b_t2, ↓b_t3, ↓b_t4, ↓b_t5, ↓b_t6, Nat.zero_add, Nat.le_refl, b_rs, b_rn, b_r2, b_ss, b_sn, b_bt, b_bf, b_b0, b_b1, b_bw, b_shl, b_or, b_iv, b_jv, b_sI, b_sJ, ↓z_hl, z_b0, z_b1, z_b2, b_and1c, b_and1z, if_true, if_false, nI_add, pk_mul, b_cl, b_lt, b_le, b_eq, b_eq0, b_le0, b_0lt, b_0le, b_lt0]
        rw [if_neg c2]
    · right
      have h1 := k2 q (by omega)
      have h2 := k3 q (by omega)
      have h3 := w_br_b (s := m 236) (q := q) hE
      have h4 := w_won_b (s := m 236) (q := q) hE (by omega)
      have e1 : z_sum (fun q => b_b (decide ((w_rd (m 236) 6).2 q ≠ w_br (m 236) q))) (q + 1) = z_sum (fun q => b_b (decide ((w_rd (m 236) 6).2 q ≠ w_br (m 236) q))) q + b_b (decide ((w_rd (m 236) 6).2 q ≠ w_br (m 236) q)) := rfl
      by_cases c2 : (w_rd (m 236) 6).2 q = w_br (m 236) q
      · rw [decide_eq_false (fun g => g c2), b_bf] at e1
        refine ⟨k - 1, 9, [.ref 234, .int (nI (z_sum (fun q => b_b (decide ((w_rd (m 236) 6).2 q ≠ w_br (m 236) q))) q + 0)), .int (nI (q + 1))], _, by omega, Or.inl ⟨q + 1, rfl, by omega, by omega, by rw [e1], rfl⟩, Or.inl ?_⟩
        simp (disch := omega) only [h1, h2, ↓bc_234, ↓br_234_38, ↓bc_249, ↓bx_249, bl_249, ↓br_234_37, ↓bc_248, ↓bx_248, bl_248, ↓br_234_6, ↓bc_236, ↓bx_236, bl_236, ↓b_t0, ↓b_t1, ↓b_t2, ↓b_t3, ↓b_t4, ↓b_t5, ↓b_t6, Nat.zero_add, Nat.le_refl, b_rs, b_rn, b_r2, b_ss, b_sn, b_bt, b_bf, b_b0, b_b1, b_bw, b_shl, b_or, b_iv, b_jv, b_sI, b_sJ, ↓z_hl, z_b0, z_b1, z_b2, b_and1c, b_and1z, if_true, if_false, nI_add, pk_mul, b_cl, b_lt, b_le, b_eq, b_eq0, b_le0, b_0lt, b_0le, b_lt0]
        rw [if_neg (by omega), if_pos c2]
      · rw [decide_eq_true c2, b_bt] at e1
        refine ⟨k - 1, 9, [.ref 234, .int (nI (z_sum (fun q => b_b (decide ((w_rd (m 236) 6).2 q ≠ w_br (m 236) q))) q + 1)), .int (nI (q + 1))], _, by omega, Or.inl ⟨q + 1, rfl, by omega, by omega, by rw [e1], rfl⟩, Or.inl ?_⟩
        simp (disch := omega) only [h1, h2, ↓bc_234, ↓br_234_38, ↓bc_249, ↓bx_249, bl_249, ↓br_234_37, ↓bc_248, ↓bx_248, bl_248, ↓br_234_6, ↓bc_236, ↓bx_236, bl_236, ↓b_t0, ↓b_t1, ↓b_t2, ↓b_t3, ↓b_t4, ↓b_t5, ↓b_t6, Nat.zero_add, Nat.le_refl, b_rs, b_rn, b_r2, b_ss, b_sn, b_bt, b_bf, b_b0, b_b1, b_bw, b_shl, b_or, b_iv, b_jv, b_sI, b_sJ, ↓z_hl, z_b0, z_b1, z_b2, b_and1c, b_and1z, if_true, if_false, nI_add, pk_mul, b_cl, b_lt, b_le, b_eq, b_eq0, b_le0, b_0lt, b_0le, b_lt0]
        rw [if_neg (by omega), if_neg c2]
  · rw [l_Mo_trade_37, q_Mo_trade_37]
    have fr4 : ∀ c, c ≠ 234 → c ≠ 236 → c ≠ 241 → (c < 248 ∨ 250 < c) → m4 c = m c := fun c p1 p2 p3 p4 => by rw [f1 c p1 p2 p3, fr3 c p1 p4]
    have hle : w_chg (m 236) ≤ 6 := w_chg_le 6
    by_cases c : q = 6
    · left
      subst c
      refine ⟨m4, ?_, fr4, f2, fun g => absurd g hne, fun _ => ⟨f3, f4, f5⟩⟩
      simp (disch := omega) only [↓bc_234, ↓br_234_38, ↓bc_249, ↓bx_249, bl_249, ↓br_234_37, ↓bc_248, ↓bx_248, bl_248, ↓br_234_6, ↓bc_236, ↓bx_236, bl_236, ↓b_t0, ↓b_t1, ↓b_t2, ↓b_t3, ↓b_t4, ↓b_t5, ↓b_t6, Nat.zero_add, Nat.le_refl, b_rs, b_rn, b_r2, b_ss, b_sn, b_bt, b_bf, b_b0, b_b1, b_bw, b_shl, b_or, b_iv, b_jv, b_sI, b_sJ, ↓z_hl, z_b0, z_b1, z_b2, b_and1c, b_and1z, if_true, if_false, nI_add, pk_mul, b_cl, b_lt, b_le, b_eq, b_eq0, b_le0, b_0lt, b_0le, b_lt0]
    · right
      have h2 : m4 249 q = (w_rd (m 236) 6).2 q := by rw [f1 249 (by decide) (by decide) (by decide)]; exact k3 q (by omega)
      have h4 := w_won_b (s := m 236) (q := q) hE (by omega)
      have hw : w_hand (m 236) (w_rd (m 236) 6).2 (q + 1) = if (w_rd (m 236) 6).2 q = 4294967295 then w_hand (m 236) (w_rd (m 236) 6).2 q else b_s (w_hand (m 236) (w_rd (m 236) 6).2 q) (241 + (w_rd (m 236) 6).2 q) q := rfl
      by_cases c2 : (w_rd (m 236) 6).2 q = 4294967295
      · rw [if_pos c2] at hw
        rw [c2] at h2
        refine ⟨k - 1, 37, [.ref 234, .int (nI (w_chg (m 236))), .int (nI (q + 1))], _, by omega, Or.inr ⟨q + 1, m4, rfl, by omega, by omega, hne, rfl, rfl, f1, f2, by rw [hw]; exact f3, f4, f5⟩, Or.inl ?_⟩
        simp (disch := omega) only [h2, n1, ↓bc_234, ↓br_234_38, ↓bc_249, ↓bx_249, bl_249, ↓br_234_37, ↓bc_248, ↓bx_248, bl_248, ↓br_234_6, ↓bc_236, ↓bx_236, bl_236, ↓b_t0, ↓b_t1, ↓b_t2, ↓b_t3, ↓b_t4, ↓b_t5, ↓b_t6, Nat.zero_add, Nat.le_refl, b_rs, b_rn, b_r2, b_ss, b_sn, b_bt, b_bf, b_b0, b_b1, b_bw, b_shl, b_or, b_iv, b_jv, b_sI, b_sJ, ↓z_hl, z_b0, z_b1, z_b2, b_and1c, b_and1z, if_true, if_false, nI_add, pk_mul, b_cl, b_lt, b_le, b_eq, b_eq0, b_le0, b_0lt, b_0le, b_lt0]
        rw [if_neg (by omega)]
      · rw [if_neg c2] at hw
        refine ⟨k - 1, 37, [.ref 234, .int (nI (w_chg (m 236))), .int (nI (q + 1))], b_h (b_r m4 236 (b_s (m4 236) (241 + (w_rd (m 236) 6).2 q) q)) j w, by omega, Or.inr ⟨q + 1, _, rfl, by omega, by omega, hne, rfl, rfl, fun c p1 p2 p3 => by rw [b_rn p2, f1 c p1 p2 p3], fun k p1 p2 => by rw [b_rn (by decide), f2 k p1 p2], by rw [hw, b_rs, f3], by rw [b_rn (by decide), f4], by rw [b_rn (by decide), f5]⟩, Or.inl ?_⟩
        simp (disch := omega) only [h2, ↓bc_234, ↓br_234_38, ↓bc_249, ↓bx_249, bl_249, ↓br_234_37, ↓bc_248, ↓bx_248, bl_248, ↓br_234_6, ↓bc_236, ↓bx_236, bl_236, ↓b_t0, ↓b_t1, ↓b_t2, ↓b_t3, ↓b_t4, ↓b_t5, ↓b_t6, Nat.zero_add, Nat.le_refl, b_rs, b_rn, b_r2, b_ss, b_sn, b_bt, b_bf, b_b0, b_b1, b_bw, b_shl, b_or, b_iv, b_jv, b_sI, b_sJ, ↓z_hl, z_b0, z_b1, z_b2, b_and1c, b_and1z, if_true, if_false, nI_add, pk_mul, b_cl, b_lt, b_le, b_eq, b_eq0, b_le0, b_0lt, b_0le, b_lt0]
        rw [if_neg (by omega)]
/-- as r_R_deed, with more that may change -/
theorem r_R_deedX {m3 s} (h : r_R m j) (hw : w_same m m3) (h1 : m3 236 = s) (h2 : m3 241 = w_keepU (m 241) (m 236) (m 234 23)) (h3 : m3 234 23 = w_keepN (m 234 23)) (hA : c_A m3 26 s) (hI : i_D s) (hs : ∀ i, i < 157 ∨ 352 ≤ i → s i = m 236 i) (hp : ∀ c, 50 ≤ c → c ≤ 147 → m3 c = w_pk m c) : r_R m3 j :=
  r_R_upd h hw (by rw [h1]; exact hI) (by rw [h1]; exact hA) (by rw [h1]; exact hs) (by
    rw [h1, h2, h3]
    exact r_P_ext hp hs (r_P_keep (r_R_st h) (r_R_dy h) (r_R_af h) (r_R_pa h)))
theorem t_trade (h : r_R m j) (hD : 10 ≤ D) : w_step X tx D 179 288 [] m j w := by
  have hS := r_R_st h
  have hI := r_R_dy h
  have hF := r_R_fa h
  have hA := r_R_af h
  have hE := i_S_E hS
  obtain ⟨p1, p2, p3, p4⟩ := r_R_pa h
  obtain ⟨d, rfl⟩ : ∃ d, D = d + 1 := ⟨D - 1, by omega⟩
  obtain ⟨m2, e1, g1, g2, g3⟩ := s_Ri_form (X := X) (tx := tx) (D := d) (j := j) (w := w) hF hA hS hI (by omega)
  have s1 := s_Ri_changed (X := X) (tx := tx) (D := d) (m := m2) (j := j) (w := w) hE (by omega) g2 g3
  have hle : w_chg (m 236) ≤ 6 := w_chg_le 6
  by_cases c : w_chg (m 236) = 0
  · have g6 : m2 236 = m 236 := g1 236 (by omega)
    have g4 : m2 234 = m 234 := g1 234 (by omega)
    obtain ⟨m3, e2, k1, k2, k3, k4⟩ := s_Mo_trade (X := X) (tx := tx) (D := d + 1) (m := m2) (j := j) (w := w) (by rw [g6]; exact hS) (by rw [g6]; exact hI) (by rw [g4]; exact p1) (by omega)
    rw [g6] at e2 k3
    obtain ⟨z1, z2, z3⟩ := k3 c
    have fr : ∀ c, c ≠ 234 → c ≠ 236 → c ≠ 241 → (c < 172 ∨ 175 < c) → (c < 248 ∨ 250 < c) → m3 c = m c := fun c q1 q2 q3 q4 q5 => by rw [k1 c q1 q2 q3 q5, g1 c q4]
    refine ⟨m2, j, m3, j, _, ?_, e2, r_R_idle h (w_same_gen (fun c q1 q2 q3 q4 q5 q6 => fr c q3 q4 q5 q2 q6) (fun k q1 q2 => by rw [k2 k q1 q2, g4])) z1 (fun c hc => fr c (by omega) (by omega) (by omega) (by omega) (by omega)) (by rw [z2]; exact g1 241 (by omega)) (by rw [z3, g4])⟩
    rw [e_EM_trade, q_EM_trade_0]
    rw [c] at s1 ⊢
    simp (disch := omega) only [e1, s1, ↓bc_0, ↓br_0_11, ↓bc_172, ↓br_0_5, ↓bc_50, ↓br_0_3, ↓bc_26, ↓b_t0, ↓b_t1, ↓b_t2, ↓b_t3, ↓b_t4, ↓b_t5, ↓b_t6, Nat.zero_add, Nat.le_refl, b_rs, b_rn, b_r2, b_ss, b_sn, b_bt, b_bf, b_b0, b_b1, b_bw, b_shl, b_or, b_iv, b_jv, b_sI, b_sJ, ↓z_hl, z_b0, z_b1, z_b2, b_and1c, b_and1z, if_true, if_false, nI_add, pk_mul, b_cl, b_lt, b_le, b_eq, b_eq0, b_le0, b_0lt, b_0le, b_lt0]
  · have g6 : m2 236 = m 236 := g1 236 (by omega)
    have h2 : r_R m2 j := r_R_idle h (w_same_gen (fun c q1 q2 q3 q4 q5 q6 => g1 c q2) (fun k q1 q2 => by rw [g1 234 (by omega)])) g6 (fun c hc => g1 c (by omega)) (g1 241 (by omega)) (by rw [g1 234 (by omega)])
    rw [← g6] at g2 g3 s1 c hle
    clear hS hI hF hA hE p1 p2 p3 p4
    have hS := r_R_st h2
    have hI := r_R_dy h2
    have hF := r_R_fa h2
    have hA := r_R_af h2
    obtain ⟨p1, p2, p3, p4⟩ := r_R_pa h2
    have hF1 : c_F (w_pk m2) 4 (m2 236) := c_F_ext (fun c p1 p2 => w_pk_same p3 (by omega)) (fun _ _ => rfl) hS hF
    have hA1 : c_A (w_pk m2) 26 (m2 236) := c_A_ext (fun c p1 p2 => w_pk_same p3 (by omega)) hA
    obtain ⟨m4, e3, g7, g8⟩ := s_Ri_handOver (X := X) (tx := tx) (D := d) (m := w_pk m2) (j := j) (w := w) hF1 hA1 hS hI (by omega) (fun q hq => by rw [w_pk_same p3 (by omega)]; exact g3 q hq)
    have fr1 : ∀ c, c < 26 ∨ 147 < c → m4 c = m2 c := fun c q1 => by rw [g7 c (by omega), w_pk_same p3 (by omega)]
    have k6 : m4 236 = m2 236 := fr1 236 (by omega)
    have k4 : m4 234 = m2 234 := fr1 234 (by omega)
    have k41 : m4 241 = m2 241 := fr1 241 (by omega)
    obtain ⟨m3, e2, k1, k2, k3, k5⟩ := s_Mo_trade (X := X) (tx := tx) (D := d + 1) (m := m4) (j := j) (w := w) (by rw [k6]; exact hS) (by rw [k6]; exact hI) (by rw [k4]; exact p1) (by omega)
    rw [k6] at e2
    rw [k6, k4, k41] at k5
    obtain ⟨z1, z2, z3⟩ := k5 c
    obtain ⟨o1, o2, o3, o4⟩ := w_hand_ok hS hI 6 (by omega)
    refine ⟨m4, j, m3, j, _, ?_, e2, r_R_deedX h2 (w_same_gen (fun c q1 q2 q3 q4 q5 q6 => by rw [k1 c q3 q4 q5 q6, fr1 c q1]) (fun k q1 q2 => by rw [k2 k q1 q2, k4])) z1 z2 z3 (c_A_ext (fun c q1 q2 => k1 c (by omega) (by omega) (by omega) (by omega)) g8) o2 (fun i hi => o3 i (by omega)) (fun c q1 q2 => by rw [k1 c (by omega) (by omega) (by omega) (by omega), g7 c (by omega)])⟩
    rw [e_EM_trade, q_EM_trade_0]
    simp (disch := omega) only [e1, s1, s_Pa_keep p3 (by omega), e3, ↓bc_0, ↓br_0_11, ↓bc_172, ↓br_0_5, ↓bc_50, ↓br_0_3, ↓bc_26, ↓b_t0, ↓b_t1, ↓b_t2, ↓b_t3, ↓b_t4, ↓b_t5, ↓b_t6, Nat.zero_add, Nat.le_refl, b_rs, b_rn, b_r2, b_ss, b_sn, b_bt, b_bf, b_b0, b_b1, b_bw, b_shl, b_or, b_iv, b_jv, b_sI, b_sJ, ↓z_hl, z_b0, z_b1, z_b2, b_and1c, b_and1z, if_true, if_false, nI_add, pk_mul, b_cl, b_lt, b_le, b_eq, b_eq0, b_le0, b_0lt, b_0le, b_lt0]
    rw [if_neg c]
end RL
