/-! MATCHES: street, the reference's side; both -/
section SV
variable {X : Nat × (Nat → Int32)} {tx : List Int32} {D : Nat} {m j : Nat → Nat → Nat} {w : (Nat × Nat) × Bool} {s : Nat → Nat}
theorem s_Mo_street36 {d : Nat} (hS : i_S (m 236)) (hI : i_D (m 236)) (hd : 4 ≤ d) {set : Nat} {u4 : Value} (hs : set < 256) (hw : w_srw (m 236) set (m 246) (m 236 2) 0) (h0 : w_stv (m 236) set (m 236 2) 0 < 1000000) : ∃ m2, a_go X tx (a_ex X tx a_T d) k_Mo_street_0 (a_f1 + 1) 36 [.ref 234, .int (nI set), .int (nI 0), .int (nI 0), u4] (b_h m j w) = some (b_h m2 j w, some (.int (nI (w_stv (m 236) set (m 236 2) 0)))) ∧ z_fr 247 247 m m2 ∧ ∀ t, t < m 236 2 → m2 247 t = (w_stp (m 236) set (m 236 2)).2 t := by
  have hT := i_S_T hS
  have hE := i_S_E hS
  have hP : 2 ^ m 236 3 ≤ 1024 := Nat.pow_le_pow_right (n := 2) (by decide) hE
  have hr0 : m 246 0 = w_stv (m 236) set (m 236 2) 0 := by
    have := hw.1 (m 236 2) (Nat.le_refl _) 0 (Nat.two_pow_pos _)
    rw [Nat.sub_self] at this
    exact this
  refine z_runT (Q := fun r => ∃ m2, r = some (b_h m2 j w, some (.int (nI (w_stv (m 236) set (m 236 2) 0)))) ∧ z_fr 247 247 m m2 ∧ ∀ t, t < m 236 2 → m2 247 t = (w_stp (m 236) set (m 236 2)).2 t) (fun k c L h =>
    (∃ t m3 x, c = 36 ∧ k + 20 * t = 200 ∧ t ≤ m 236 2 ∧ L = [.ref 234, .int (nI set), .int (nI (w_stp (m 236) set t).1), .int (nI t), x] ∧ h = b_h m3 j w ∧ z_fr 247 247 m m3 ∧ ∀ i, i < t → m3 247 i = (w_stp (m 236) set t).2 i) ∨
    (∃ t e m3, c = 55 ∧ k + 20 * t + e + 1 = 200 ∧ t < m 236 2 ∧ w_nd (m 236) set t = true ∧ e ≤ w_ch (m 236) set t (w_stp (m 236) set t).1 ∧ L = [.ref 234, .int (nI set), .int (nI (w_stp (m 236) set t).1), .int (nI t), .int (nI e)] ∧ h = b_h m3 j w ∧ z_fr 247 247 m m3 ∧ ∀ i, i < t → m3 247 i = (w_stp (m 236) set t).2 i)) 0 ?_ 200 36 _ _ (Or.inl ⟨0, m, u4, rfl, by omega, by omega, rfl, rfl, z_fr_rf, fun i hi => absurd hi (Nat.not_lt_zero i)⟩) _ (z_fu (by omega))
  rintro k c L h (⟨t, m3, x, rfl, hk, ht, rfl, rfl, hm, hv⟩ | ⟨t, e, m3, rfl, hk, ht, hnd, he, rfl, rfl, hm, hv⟩) f _
  · have g6 : m3 236 = m 236 := hm 236 (by omega)
    have e2 : m3 236 2 = m 236 2 := by rw [g6]
    have hr3 : m3 246 0 = w_stv (m 236) set (m 236 2) 0 := by rw [hm 246 (by omega)]; exact hr0
    rw [l_Mo_street_36, q_Mo_street_36]
    by_cases c : t = m 236 2
    · left
      refine ⟨m3, ?_, hm, fun i hi => by rw [hv i (by omega), c]⟩
      simp (disch := omega) only [e2, hr3, ↓bc_234, ↓br_234_6, ↓bc_236, ↓bx_236, bl_236, ↓br_234_28, ↓bc_246, ↓bx_246, bl_246, ↓br_234_29, ↓bc_247, ↓bx_247, bl_247, ↓b_t0, ↓b_t1, ↓b_t2, ↓b_t3, ↓b_t4, ↓b_t5, ↓b_t6, Nat.zero_add, Nat.le_refl, b_rs, b_rn, b_r2, b_ss, b_sn, b_bt, b_bf, b_b0, b_b1, b_bw, b_shl, b_or, b_iv, b_jv, b_sI, b_sJ, ↓z_hl, z_b0, z_b1, z_b2, b_and1c, b_and1z, if_true, if_false, nI_add, pk_mul, b_cl, b_lt, b_le, b_eq, b_eq0, b_le0, b_0lt, b_0le, b_lt0]
      rw [if_pos (by omega)]
    · right
      have s1 := s_Mo_needs (X := X) (tx := tx) (D := d) (m := b_r m3 247 (b_s (m3 247) t 4294967295)) (j := j) (w := w) (by rw [b_rn (by decide), g6]; exact hS) (by rw [b_rn (by decide), g6]; exact hI) (by omega) hs (t := t) (by omega)
      have q6 : (b_r m3 247 (b_s (m3 247) t 4294967295)) 236 = m 236 := (b_rn (by decide)).trans g6
      rw [q6] at s1
      have hm2 : z_fr 247 247 m (b_r m3 247 (b_s (m3 247) t 4294967295)) := z_fr_r hm (by omega)
      cases hnd : w_nd (m 236) set t with
      | true =>
        rw [hnd] at s1
        refine ⟨k - 1, 55, [.ref 234, .int (nI set), .int (nI (w_stp (m 236) set t).1), .int (nI t), .int (nI 0)], b_h (b_r m3 247 (b_s (m3 247) t 4294967295)) j w, by omega, Or.inr ⟨t, 0, _, rfl, by omega, by omega, hnd, Nat.zero_le _, rfl, rfl, hm2, fun i hi => by rw [b_rs, b_sn (by omega)]; exact hv i hi⟩, Or.inr ?_⟩
        rw [l_Mo_street_55]
        simp (disch := omega) only [e2, s1, Nat.one_ne_zero, ↓bc_234, ↓br_234_6, ↓bc_236, ↓bx_236, bl_236, ↓br_234_28, ↓bc_246, ↓bx_246, bl_246, ↓br_234_29, ↓bc_247, ↓bx_247, bl_247, ↓b_t0, ↓b_t1, ↓b_t2, ↓b_t3, ↓b_t4, ↓b_t5, ↓b_t6, Nat.zero_add, Nat.le_refl, b_rs, b_rn, b_r2, b_ss, b_sn, b_bt, b_bf, b_b0, b_b1, b_bw, b_shl, b_or, b_iv, b_jv, b_sI, b_sJ, ↓z_hl, z_b0, z_b1, z_b2, b_and1c, b_and1z, if_true, if_false, nI_add, pk_mul, b_cl, b_lt, b_le, b_eq, b_eq0, b_le0, b_0lt, b_0le, b_lt0]
        rw [if_neg (by omega)]
      | false =>
        rw [hnd] at s1
        refine ⟨k - 20, 36, [.ref 234, .int (nI set), .int (nI (w_stp (m 236) set t).1), .int (nI (t + 1)), x], b_h (b_r m3 247 (b_s (m3 247) t 4294967295)) j w, by omega, Or.inl ⟨t + 1, _, x, rfl, by omega, by omega, by rw [w_stp_f hnd], rfl, hm2, fun i hi => ?_⟩, Or.inl ?_⟩
        · rw [b_rs, w_stp_f hnd]
          by_cases c5 : i = t
          · rw [c5, b_ss, w_stp_hi t t (Nat.le_refl _)]
          · rw [b_sn c5]; exact hv i (by omega)
        · simp (disch := omega) only [e2, s1, ↓bc_234, ↓br_234_6, ↓bc_236, ↓bx_236, bl_236, ↓br_234_28, ↓bc_246, ↓bx_246, bl_246, ↓br_234_29, ↓bc_247, ↓bx_247, bl_247, ↓b_t0, ↓b_t1, ↓b_t2, ↓b_t3, ↓b_t4, ↓b_t5, ↓b_t6, Nat.zero_add, Nat.le_refl, b_rs, b_rn, b_r2, b_ss, b_sn, b_bt, b_bf, b_b0, b_b1, b_bw, b_shl, b_or, b_iv, b_jv, b_sI, b_sJ, ↓z_hl, z_b0, z_b1, z_b2, b_and1c, b_and1z, if_true, if_false, nI_add, pk_mul, b_cl, b_lt, b_le, b_eq, b_eq0, b_le0, b_0lt, b_0le, b_lt0]
          rw [if_neg (by omega)]
  · have g6 : m3 236 = m 236 := hm 236 (by omega)
    obtain ⟨o1, o2, o3⟩ := w_stp_ok (set := set) hE h0 t (by omega)
    have q1 := w_stp_t (s := m 236) hnd
    obtain ⟨v1, v2, v3⟩ := w_ch_spec ht hnd o3
    generalize hg : w_ch (m 236) set t (w_stp (m 236) set t).1 = v at q1 v1 v2 v3 he
    generalize hu : (w_stp (m 236) set t).1 = u at q1 v2 v3 o1 o2 o3
    rw [l_Mo_street_55, q_Mo_street_55]
    right
    have s2 := s_Mo_endsAt (X := X) (tx := tx) (D := d) (m := m3) (j := j) (w := w) (by rw [g6]; exact hS) (by rw [g6]; exact hI) (by omega) (e := e) (t := t) (by rw [g6]; omega) (by rw [g6]; omega)
    rw [g6] at s2
    have hu2 : u ||| 2 ^ e < 2 ^ m 236 3 := Nat.or_lt_two_pow o1 (Nat.pow_lt_pow_right (by decide) (by omega))
    have hr1 := hw.1 (m 236 2 - (t + 1)) (by omega) _ hu2
    rw [show m 236 2 - (m 236 2 - (t + 1)) = t + 1 by omega] at hr1
    have hr2 := hw.1 (m 236 2 - t) (by omega) _ o1
    rw [show m 236 2 - (m 236 2 - t) = t by omega] at hr2
    have e46 : m3 246 = m 246 := hm 246 (by omega)
    rw [← e46] at hr1 hr2
    have hpr := i_D_pr hI e (by omega)
    have e5 : m3 236 (251 + e) = m 236 (251 + e) := by rw [g6]
    have hl2 := w_stv_le (s := m 236) (set := set) (m 236 2 - (t + 1)) (u ||| 2 ^ e)
    have next : e ≠ v → (a_rn X tx (a_ex X tx a_T d) (a_go X tx (a_ex X tx a_T d) k_Mo_street_0 f) k_Mo_street_55 0 [.ref 234, .int (nI set), .int (nI u), .int (nI t), .int (nI e)] [] (b_h m3 j w) = a_go X tx (a_ex X tx a_T d) k_Mo_street_0 f 55 [.ref 234, .int (nI set), .int (nI u), .int (nI t), .int (nI (e + 1))] (b_h m3 j w)) := fun hne => by
      have hcc := v3 e (by omega)
      unfold w_cc at hcc
      rw [q_Mo_street_55]
      cases hb : u.testBit e with
      | true =>
        simp (disch := omega) only [s_Mo_bitOf, hb, Nat.one_ne_zero, ↓bc_234, ↓br_234_6, ↓bc_236, ↓bx_236, bl_236, ↓br_234_28, ↓bc_246, ↓bx_246, bl_246, ↓br_234_29, ↓bc_247, ↓bx_247, bl_247, ↓b_t0, ↓b_t1, ↓b_t2, ↓b_t3, ↓b_t4, ↓b_t5, ↓b_t6, Nat.zero_add, Nat.le_refl, b_rs, b_rn, b_r2, b_ss, b_sn, b_bt, b_bf, b_b0, b_b1, b_bw, b_shl, b_or, b_iv, b_jv, b_sI, b_sJ, ↓z_hl, z_b0, z_b1, z_b2, b_and1c, b_and1z, if_true, if_false, nI_add, pk_mul, b_cl, b_lt, b_le, b_eq, b_eq0, b_le0, b_0lt, b_0le, b_lt0]
      | false =>
        cases hf : w_ends (m 236) e t with
        | false =>
          rw [hf] at s2
          simp (disch := omega) only [s_Mo_bitOf, hb, s2, ↓bc_234, ↓br_234_6, ↓bc_236, ↓bx_236, bl_236, ↓br_234_28, ↓bc_246, ↓bx_246, bl_246, ↓br_234_29, ↓bc_247, ↓bx_247, bl_247, ↓b_t0, ↓b_t1, ↓b_t2, ↓b_t3, ↓b_t4, ↓b_t5, ↓b_t6, Nat.zero_add, Nat.le_refl, b_rs, b_rn, b_r2, b_ss, b_sn, b_bt, b_bf, b_b0, b_b1, b_bw, b_shl, b_or, b_iv, b_jv, b_sI, b_sJ, ↓z_hl, z_b0, z_b1, z_b2, b_and1c, b_and1z, if_true, if_false, nI_add, pk_mul, b_cl, b_lt, b_le, b_eq, b_eq0, b_le0, b_0lt, b_0le, b_lt0]
        | true =>
          rw [hf] at s2
          rw [hb, hf] at hcc
          have hne2 : ¬ (m 236 (251 + e) + w_stv (m 236) set (m 236 2 - (t + 1)) (u ||| 2 ^ e) = w_stv (m 236) set (m 236 2 - t) u) := of_decide_eq_false hcc
          simp (disch := omega) only [s_Mo_bitOf, hb, s2, e5, hr1, hr2, Nat.one_ne_zero, ↓bc_234, ↓br_234_6, ↓bc_236, ↓bx_236, bl_236, ↓br_234_28, ↓bc_246, ↓bx_246, bl_246, ↓br_234_29, ↓bc_247, ↓bx_247, bl_247, ↓b_t0, ↓b_t1, ↓b_t2, ↓b_t3, ↓b_t4, ↓b_t5, ↓b_t6, Nat.zero_add, Nat.le_refl, b_rs, b_rn, b_r2, b_ss, b_sn, b_bt, b_bf, b_b0, b_b1, b_bw, b_shl, b_or, b_iv, b_jv, b_sI, b_sJ, ↓z_hl, z_b0, z_b1, z_b2, b_and1c, b_and1z, if_true, if_false, nI_add, pk_mul, b_cl, b_lt, b_le, b_eq, b_eq0, b_le0, b_0lt, b_0le, b_lt0]
          rw [if_neg hne2]
    by_cases c : e = v
    · subst c
      unfold w_cc at v2
      rw [Bool.and_eq_true, Bool.and_eq_true, Bool.not_eq_true', decide_eq_true_eq] at v2
      rw [v2.1.1] at s2
      refine ⟨200 - 20 * (t + 1), 36, [.ref 234, .int (nI set), .int (nI (u ||| 2 ^ e)), .int (nI (t + 1)), .int (nI e)], b_h (b_r m3 247 (b_s (m3 247) t e)) j w, by omega, Or.inl ⟨t + 1, _, _, rfl, by omega, by omega, by rw [q1], rfl, z_fr_r hm (by omega), fun i hi => ?_⟩, Or.inl ?_⟩
      · rw [q1, b_rs]
        by_cases c5 : i = t
        · rw [c5, b_ss]; exact b_ss.symm
        · rw [b_sn c5]; exact (hv i (by omega)).trans (b_sn c5).symm
      · have hb := v2.1.2
        simp (disch := omega) only [s_Mo_bitOf, hb, s2, e5, hr1, hr2, Nat.one_ne_zero, ↓bc_234, ↓br_234_6, ↓bc_236, ↓bx_236, bl_236, ↓br_234_28, ↓bc_246, ↓bx_246, bl_246, ↓br_234_29, ↓bc_247, ↓bx_247, bl_247, ↓b_t0, ↓b_t1, ↓b_t2, ↓b_t3, ↓b_t4, ↓b_t5, ↓b_t6, Nat.zero_add, Nat.le_refl, b_rs, b_rn, b_r2, b_ss, b_sn, b_bt, b_bf, b_b0, b_b1, b_bw, b_shl, b_or, b_iv, b_jv, b_sI, b_sJ, ↓z_hl, z_b0, z_b1, z_b2, b_and1c, b_and1z, if_true, if_false, nI_add, pk_mul, b_cl, b_lt, b_le, b_eq, b_eq0, b_le0, b_0lt, b_0le, b_lt0]
        rw [if_pos v2.2]
    · refine ⟨k - 1, 55, [.ref 234, .int (nI set), .int (nI (w_stp (m 236) set t).1), .int (nI t), .int (nI (e + 1))], _, by omega, Or.inr ⟨t, e + 1, m3, rfl, by omega, ht, hnd, by rw [hg]; omega, rfl, rfl, hm, hv⟩, Or.inl ?_⟩
      rw [hu, ← next c, q_Mo_street_55]
theorem s_Mo_street (hS : i_S (m 236)) (hI : i_D (m 236)) (hD : 7 ≤ D) {set : Nat} (hs : set < 4294967296) : ∃ m2, a_ex X tx a_T D 271 [.ref 234, .int (nI set)] (b_h m j w) = some (b_h m2 j w, some (.int (nI (if set < 2 ^ m 236 2 then w_qst (m 236) set else 4294967295)))) ∧ (∀ c, c ≠ 234 → c ≠ 246 → c ≠ 247 → m2 c = m c) ∧ (∀ k, k ≠ 0 → k ≠ 30 → m2 234 k = m 234 k) ∧ ((set < 2 ^ m 236 2 ∧ w_stv (m 236) set (m 236 2) 0 < 1000000) → m2 234 30 = m 236 2 ∧ ∀ t, t < m 236 2 → m2 247 t = (w_stp (m 236) set (m 236 2)).2 t) ∧ (¬ (set < 2 ^ m 236 2 ∧ w_stv (m 236) set (m 236 2) 0 < 1000000) → m2 234 30 = m 234 30 ∧ m2 247 = m 247) := by
  obtain ⟨d, rfl⟩ : ∃ d, D = d + 1 := ⟨D - 1, by omega⟩
  rw [e_Mo_street, q_Mo_street_0]
  have hS2 : i_S ((b_r m 234 (b_s (m 234) 0 0)) 236) := by rw [b_rn (by decide)]; exact hS
  have hI2 : i_D ((b_r m 234 (b_s (m 234) 0 0)) 236) := by rw [b_rn (by decide)]; exact hI
  have qq : (b_r m 234 (b_s (m 234) 0 0)) 236 = m 236 := b_rn (by decide)
  have q0 : (b_r m 234 (b_s (m 234) 0 0)) 236 0 = m 236 0 := by rw [qq]
  have q1 : (b_r m 234 (b_s (m 234) 0 0)) 236 1 = m 236 1 := by rw [qq]
  have q2 : (b_r m 234 (b_s (m 234) 0 0)) 236 2 = m 236 2 := by rw [qq]
  have q3 : (b_r m 234 (b_s (m 234) 0 0)) 236 3 = m 236 3 := by rw [qq]
  have hK := i_S_K hS
  have hM := i_S_M hS
  have hT := i_S_T hS
  have hE := i_S_E hS
  have hP : 2 ^ m 236 2 ≤ 256 := Nat.pow_le_pow_right (n := 2) (by decide) hT
  by_cases c1 : set < 2147483648
  · by_cases c : set < 2 ^ m 236 2
    · obtain ⟨m2, e1, g1, g2⟩ := s_Mo_streets (X := X) (tx := tx) (D := d) (m := b_r m 234 (b_s (m 234) 0 0)) (j := j) (w := w) hS2 hI2 (by omega) (set := set) (by omega)
      rw [qq] at g2
      have g6 : m2 236 = m 236 := (g1 236 (by omega)).trans qq
      have e2 : m2 236 2 = m 236 2 := by rw [g6]
      have k4 : m2 234 = b_s (m 234) 0 0 := (g1 234 (by omega)).trans b_rs
      have hr0 : m2 246 0 = w_stv (m 236) set (m 236 2) 0 := by
        have := g2.1 (m 236 2) (Nat.le_refl _) 0 (Nat.two_pow_pos _)
        rw [Nat.sub_self] at this
        exact this
      have hle := w_stv_le (s := m 236) (set := set) (m 236 2) 0
      rw [if_pos c]
      unfold w_qst w_no
      by_cases c2 : w_stv (m 236) set (m 236 2) 0 < 1000000
      · have q6 : (b_r m2 234 (b_s (m2 234) 30 (m 236 2))) 236 = m 236 := (b_rn (by decide)).trans g6
        obtain ⟨m3, e3, g3, g4⟩ := s_Mo_street36 (X := X) (tx := tx) (d := d) (m := b_r m2 234 (b_s (m2 234) 30 (m 236 2))) (j := j) (w := w) (by rw [q6]; exact hS) (by rw [q6]; exact hI) (by omega) (set := set) (u4 := .retAddr 0) (by omega) (by rw [q6, b_rn (by decide)]; exact g2) (by rw [q6]; exact c2)
        rw [q6] at e3 g4
        refine ⟨m3, ?_, fun c h1 h2 h3 => ?_, fun k h1 h2 => ?_, fun _ => ⟨?_, g4⟩, fun h => absurd ⟨c, c2⟩ h⟩
        · rw [if_pos c2]
          rw [l_Mo_street_36] at e3
          simp (disch := omega) only [e1, e2, hr0, ↓bc_234, ↓br_234_6, ↓bc_236, ↓bx_236, bl_236, ↓br_234_28, ↓bc_246, ↓bx_246, bl_246, ↓br_234_29, ↓bc_247, ↓bx_247, bl_247, ↓b_t0, ↓b_t1, ↓b_t2, ↓b_t3, ↓b_t4, ↓b_t5, ↓b_t6, Nat.zero_add, Nat.le_refl, b_rs, b_rn, b_r2, b_ss, b_sn, b_bt, b_bf, b_b0, b_b1, b_bw, b_shl, b_or, b_iv, b_jv, b_sI, b_sJ, ↓z_hl, z_b0, z_b1, z_b2, b_and1c, b_and1z, if_true, if_false, nI_add, pk_mul, b_cl, b_lt, b_le, b_eq, b_eq0, b_le0, b_0lt, b_0le, b_lt0]
          rw [if_pos c, if_pos c2]
          exact e3
        · rw [g3 c (by omega), b_rn h1, g1 c (by omega), b_rn h1]
        · rw [g3 234 (by omega), b_rs, b_sn h2, k4, b_sn h1]
        · rw [g3 234 (by omega), b_rs, b_ss]
      · refine ⟨m2, ?_, fun c h1 h2 h3 => ?_, fun k h1 h2 => ?_, fun h => absurd h.2 c2, fun _ => ⟨?_, ?_⟩⟩
        · rw [if_neg c2]
          simp (disch := omega) only [e1, e2, hr0, ↓bc_234, ↓br_234_6, ↓bc_236, ↓bx_236, bl_236, ↓br_234_28, ↓bc_246, ↓bx_246, bl_246, ↓br_234_29, ↓bc_247, ↓bx_247, bl_247, ↓b_t0, ↓b_t1, ↓b_t2, ↓b_t3, ↓b_t4, ↓b_t5, ↓b_t6, Nat.zero_add, Nat.le_refl, b_rs, b_rn, b_r2, b_ss, b_sn, b_bt, b_bf, b_b0, b_b1, b_bw, b_shl, b_or, b_iv, b_jv, b_sI, b_sJ, ↓z_hl, z_b0, z_b1, z_b2, b_and1c, b_and1z, if_true, if_false, nI_add, pk_mul, b_cl, b_lt, b_le, b_eq, b_eq0, b_le0, b_0lt, b_0le, b_lt0]
          rw [if_pos c, if_neg c2]
        · rw [g1 c (by omega), b_rn h1]
        · rw [k4, b_sn h1]
        · rw [k4, b_sn (by decide)]
        · rw [g1 247 (by omega), b_rn (by decide)]
    · refine ⟨b_r m 234 (b_s (m 234) 0 0), ?_, fun c h1 _ _ => b_rn h1, fun k h1 _ => by rw [b_rs, b_sn h1], fun h => absurd h.1 c, fun _ => ⟨by rw [b_rs, b_sn (by decide)], b_rn (by decide)⟩⟩
      rw [if_neg c]
      simp (disch := omega) only [↓bc_234, ↓br_234_6, ↓bc_236, ↓bx_236, bl_236, ↓br_234_28, ↓bc_246, ↓bx_246, bl_246, ↓br_234_29, ↓bc_247, ↓bx_247, bl_247, ↓b_t0, ↓b_t1, ↓b_t2, ↓b_t3, ↓b_t4, ↓b_t5, ↓b_t6, Nat.zero_add, Nat.le_refl, b_rs, b_rn, b_r2, b_ss, b_sn, b_bt, b_bf, b_b0, b_b1, b_bw, b_shl, b_or, b_iv, b_jv, b_sI, b_sJ, ↓z_hl, z_b0, z_b1, z_b2, b_and1c, b_and1z, if_true, if_false, nI_add, pk_mul, b_cl, b_lt, b_le, b_eq, b_eq0, b_le0, b_0lt, b_0le, b_lt0]
      rw [if_neg c]
  · refine ⟨b_r m 234 (b_s (m 234) 0 0), ?_, fun c h1 _ _ => b_rn h1, fun k h1 _ => by rw [b_rs, b_sn h1], fun h => absurd h.1 (by omega), fun _ => ⟨by rw [b_rs, b_sn (by decide)], b_rn (by decide)⟩⟩
    rw [if_neg (show ¬ set < 2 ^ m 236 2 by omega)]
    have n1 : (nI set < 0) = True := b_lt0n (by omega) hs
    simp (disch := omega) only [n1, ↓bc_234, ↓br_234_6, ↓bc_236, ↓bx_236, bl_236, ↓br_234_28, ↓bc_246, ↓bx_246, bl_246, ↓br_234_29, ↓bc_247, ↓bx_247, bl_247, ↓b_t0, ↓b_t1, ↓b_t2, ↓b_t3, ↓b_t4, ↓b_t5, ↓b_t6, Nat.zero_add, Nat.le_refl, b_rs, b_rn, b_r2, b_ss, b_sn, b_bt, b_bf, b_b0, b_b1, b_bw, b_shl, b_or, b_iv, b_jv, b_sI, b_sJ, ↓z_hl, z_b0, z_b1, z_b2, b_and1c, b_and1z, if_true, if_false, nI_add, pk_mul, b_cl, b_lt, b_le, b_eq, b_eq0, b_le0, b_0lt, b_0le, b_lt0]
theorem t_street (h : r_R m j) (hD : 10 ≤ D) {a : Nat} (ha : a < 4294967296) : w_step X tx D 169 271 [.int (nI a)] m j w := by
  obtain ⟨m2, e1, g1, g2, g3⟩ := s_EM_street (X := X) (tx := tx) (D := D) (j := j) (w := w) (r_R_fa h) (r_R_af h) (r_R_st h) (r_R_dy h) (by omega) ha
  have g6 : m2 236 = m 236 := g1 236 (by omega)
  obtain ⟨m3, e2, k1, k2, k3, k4⟩ := s_Mo_street (X := X) (tx := tx) (D := D) (m := m2) (j := j) (w := w) (by rw [g6]; exact r_R_st h) (by rw [g6]; exact r_R_dy h) (by omega) ha
  rw [g6] at e2 k3 k4
  have g4 : m2 234 = m 234 := g1 234 (by omega)
  rw [g4] at k2 k4
  refine ⟨m2, j, m3, j, _, e1, e2, ?_⟩
  obtain ⟨t1, t2⟩ := r_R_tr h
  obtain ⟨r1, r2⟩ := r_R_sr h
  have fr : ∀ c, c ≠ 234 → c ≠ 246 → c ≠ 247 → (c < 167 ∨ 171 < c) → m3 c = m c := fun c p1 p2 p3 p4 => (k1 c p1 p2 p3).trans (g1 c p4)
  refine r_R_asks h ⟨fun c hc => fr c (by omega) (by omega) (by omega) (by omega), by rw [fr 0 (by omega) (by omega) (by omega) (by omega)], by rw [fr 1 (by omega) (by omega) (by omega) (by omega)], fun k hk => by rw [fr 156 (by omega) (by omega) (by omega) (by omega)], fun k hk => k2 k (by omega) (by omega)⟩ ?_ ?_ ?_ ?_ ?_
  · rw [fr 162 (by omega) (by omega) (by omega) (by omega), fr 163 (by omega) (by omega) (by omega) (by omega), fr 244 (by omega) (by omega) (by omega) (by omega), k2 26 (by decide) (by decide)]
    exact r_R_ro h
  · rw [k1 171 (by decide) (by decide) (by decide)]
    have hT := i_S_T (r_R_st h)
    by_cases c : a < 2 ^ m 236 2 ∧ w_stv (m 236) a (m 236 2) 0 < 1000000
    · obtain ⟨k5, k6⟩ := k3 c
      rw [k5]
      refine ⟨Or.inr hT, fun t ht => ?_⟩
      rw [g3 t ht, if_pos c]
      by_cases c5 : t < m 236 2
      · rw [if_pos ⟨by omega, c5⟩, k6 t c5]
      · rw [if_neg (fun g => c5 g.2), w_stp_hi _ _ (by omega)]
    · obtain ⟨k5, k6⟩ := k4 c
      rw [k5, k6, g1 247 (by omega)]
      refine ⟨r1, fun t ht => ?_⟩
      rw [g3 t ht, if_neg c]
      exact r2 t ht
  · rw [k2 32 (by decide) (by decide), k2 31 (by decide) (by decide), k1 167 (by decide) (by decide) (by decide), g2]
    exact ⟨t1, t2⟩
  · rw [fr 0 (by omega) (by omega) (by omega) (by omega), k2 34 (by decide) (by decide), k2 33 (by decide) (by decide)]
    exact r_R_sk h
  · rw [fr 0 (by omega) (by omega) (by omega) (by omega), k2 36 (by decide) (by decide), k2 35 (by decide) (by decide)]
    exact r_R_rd h
end SV
