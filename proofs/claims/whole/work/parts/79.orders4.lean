/-! ORDERS: whether some may follow -/
section OD
variable {X : Nat × (Nat → Int32)} {tx : List Int32} {D : Nat} {m j : Nat → Nat → Nat} {w : (Nat × Nat) × Bool} {s : Nat → Nat}
theorem s_Or_mayFollow (hF : c_F m 4 s) (hS : i_S s) (hD : 4 ≤ D) {S P r : Nat} (hs : S < 2 ^ s 3) (hP : P < 1024) (hdj : w_dj P S) (hr : ∀ k, k < 6 → s (r + k) ≤ 99) (h65 : ∀ k, k < 6 → m 165 k = w_lf (s (r + k)) (w_cs s P k)) : ∃ m2, a_ex X tx a_T D 113 [.ref 162, .int (nI S)] (b_h m j w) = some (b_h m2 j w, some (.int (nI (b_b (w_cn (w_fp (w_fbh s r) P) S))))) ∧ z_fr 164 164 m m2 := by
  obtain ⟨d, rfl⟩ : ∃ d, D = d + 1 := ⟨D - 1, by omega⟩
  have hE := i_S_E hS
  have hPw : 2 ^ s 3 ≤ 1024 := Nat.pow_le_pow_right (n := 2) (by decide) hE
  have hanti : w_anti (w_fp (w_fbh s r) P) := w_fp_anti (w_fbh_anti hE) hP
  obtain ⟨m1, e1, g1, g2⟩ := s_Or_addUp (X := X) (tx := tx) (D := d) (m := m) (j := j) (w := w) hF hS (by omega) (S := S) (by omega)
  rw [e_Or_mayFollow, q_Or_mayFollow_0]
  simp (disch := omega) only [e1, ↓bc_162, ↓br_162_0, ↓bc_4, ↓b_t0, ↓b_t1, ↓b_t2, ↓b_t3, ↓b_t4, ↓b_t5, ↓b_t6, Nat.zero_add, Nat.le_refl, b_rs, b_rn, b_r2, b_ss, b_sn, b_bt, b_bf, b_b0, b_b1, b_bw, b_shl, b_or, b_iv, b_jv, b_sI, b_sJ, ↓z_hl, z_b0, z_b1, z_b2, b_and1c, b_and1z, if_true, if_false, nI_add, pk_mul, b_cl, b_lt, b_le, b_eq, b_eq0, b_le0, b_0lt, b_0le, b_lt0]
  rw [← l_Or_mayFollow_7]
  refine z_runT (Q := fun q => ∃ m2, q = some (b_h m2 j w, some (.int (nI (b_b (w_cn (w_fp (w_fbh s r) P) S))))) ∧ z_fr 164 164 m m2) (fun k c L h => ∃ R m3 i, h = b_h m3 j w ∧ z_fr 164 164 m m3 ∧ R < 2 ^ s 3 ∧ (∀ q, q < 10 → R.testBit q = true → S.testBit q = true) ∧ w_cn (w_fp (w_fbh s r) P) R = w_cn (w_fp (w_fbh s r) P) S ∧ (∀ k, k < 6 → m3 164 k = w_cs s R k) ∧
    ((∃ u4 u5, c = 7 ∧ k + 20 * i = 215 ∧ i ≤ 10 ∧ w_pc R + i ≤ 10 ∧ L = [.ref 162, .int (nI S), .int (nI R), .int (nI i), u4, u5]) ∨
     (∃ R0 e, c = 16 ∧ k + 20 * i + e = 211 ∧ i < 10 ∧ e ≤ s 3 ∧ R0 < 2 ^ s 3 ∧ R0 ≠ 0 ∧ w_pc R0 + i ≤ 10 ∧ L = [.ref 162, .int (nI S), .int (nI R), .int (nI i), .int (nI R0), .int (nI e)] ∧ ((R = R0 ∧ ∀ q, q < e → R.testBit q = true → w_fp (w_fbh s r) P q (w_rm R q) = false) ∨ w_pc R < w_pc R0)))) 0 ?_ 215 7 _ _ ⟨S, m1, 0, rfl, g1, hs, fun _ _ h => h, rfl, g2, Or.inl ⟨_, _, rfl, by omega, by omega, by have := w_pc_le S; omega, rfl⟩⟩ _ (z_fu (by omega))
  rintro k c L h ⟨R, m3, i, rfl, hm, hR, hsub, hcn, h64, ⟨u4, u5, rfl, hk, hi, hpc, rfl⟩ | ⟨R0, e, rfl, hk, hi, he, hR0, hne, hpc, rfl, hst⟩⟩ f _
  · rw [l_Or_mayFollow_7, q_Or_mayFollow_7]
    by_cases c : R = 0
    · left
      subst c
      refine ⟨m3, ?_, hm⟩
      rw [← hcn, w_cn_0]
      by_cases c2 : i = 10
      · subst c2
        simp (disch := omega) only [↓bc_162, ↓br_162_0, ↓bc_4, ↓b_t0, ↓b_t1, ↓b_t2, ↓b_t3, ↓b_t4, ↓b_t5, ↓b_t6, Nat.zero_add, Nat.le_refl, b_rs, b_rn, b_r2, b_ss, b_sn, b_bt, b_bf, b_b0, b_b1, b_bw, b_shl, b_or, b_iv, b_jv, b_sI, b_sJ, ↓z_hl, z_b0, z_b1, z_b2, b_and1c, b_and1z, if_true, if_false, nI_add, pk_mul, b_cl, b_lt, b_le, b_eq, b_eq0, b_le0, b_0lt, b_0le, b_lt0]
      · simp (disch := omega) only [↓bc_162, ↓br_162_0, ↓bc_4, ↓b_t0, ↓b_t1, ↓b_t2, ↓b_t3, ↓b_t4, ↓b_t5, ↓b_t6, Nat.zero_add, Nat.le_refl, b_rs, b_rn, b_r2, b_ss, b_sn, b_bt, b_bf, b_b0, b_b1, b_bw, b_shl, b_or, b_iv, b_jv, b_sI, b_sJ, ↓z_hl, z_b0, z_b1, z_b2, b_and1c, b_and1z, if_true, if_false, nI_add, pk_mul, b_cl, b_lt, b_le, b_eq, b_eq0, b_le0, b_0lt, b_0le, b_lt0]
        rw [if_neg (by omega)]
    · have hp : w_pc R ≠ 0 := fun g => c (w_pc_0 R (by omega) g)
      right
      refine ⟨k - 4, 16, [.ref 162, .int (nI S), .int (nI R), .int (nI i), .int (nI R), .int (nI 0)], b_h m3 j w, by omega, ⟨R, m3, i, rfl, hm, hR, hsub, hcn, h64, Or.inr ⟨R, 0, rfl, by omega, by omega, by omega, hR, c, hpc, rfl, Or.inl ⟨rfl, fun q hq => absurd hq (Nat.not_lt_zero q)⟩⟩⟩, Or.inr ?_⟩
      rw [l_Or_mayFollow_16]
      simp (disch := omega) only [↓bc_162, ↓br_162_0, ↓bc_4, ↓b_t0, ↓b_t1, ↓b_t2, ↓b_t3, ↓b_t4, ↓b_t5, ↓b_t6, Nat.zero_add, Nat.le_refl, b_rs, b_rn, b_r2, b_ss, b_sn, b_bt, b_bf, b_b0, b_b1, b_bw, b_shl, b_or, b_iv, b_jv, b_sI, b_sJ, ↓z_hl, z_b0, z_b1, z_b2, b_and1c, b_and1z, if_true, if_false, nI_add, pk_mul, b_cl, b_lt, b_le, b_eq, b_eq0, b_le0, b_0lt, b_0le, b_lt0]
      rw [if_neg (by omega), if_neg c]
  · have e4 : m3 4 3 = s 3 := by rw [hm 4 (by omega)]; exact c_F4_E hF
    have hF3 : c_F m3 4 s := c_F_ext (fun c p1 p2 => hm c (by omega)) (fun _ _ => rfl) hS hF
    rw [l_Or_mayFollow_16, q_Or_mayFollow_16]
    by_cases c : e = s 3
    · subst c
      rcases hst with ⟨h1, h2⟩ | h1
      · left
        subst h1
        refine ⟨m3, ?_, hm⟩
        have h3 : w_cn (w_fp (w_fbh s r) P) R = false := w_cn_stuck (by omega) hne (fun q hq hb => h2 q (z_btE hR hb) hb)
        rw [← hcn, h3]
        simp (disch := omega) only [e4, ↓bc_162, ↓br_162_0, ↓bc_4, ↓b_t0, ↓b_t1, ↓b_t2, ↓b_t3, ↓b_t4, ↓b_t5, ↓b_t6, Nat.zero_add, Nat.le_refl, b_rs, b_rn, b_r2, b_ss, b_sn, b_bt, b_bf, b_b0, b_b1, b_bw, b_shl, b_or, b_iv, b_jv, b_sI, b_sJ, ↓z_hl, z_b0, z_b1, z_b2, b_and1c, b_and1z, if_true, if_false, nI_add, pk_mul, b_cl, b_lt, b_le, b_eq, b_eq0, b_le0, b_0lt, b_0le, b_lt0]
      · right
        refine ⟨k - 1 - (15 - s 3), 7, [.ref 162, .int (nI S), .int (nI R), .int (nI (i + 1)), .int (nI R0), .int (nI (s 3))], b_h m3 j w, by omega, ⟨R, m3, i + 1, rfl, hm, hR, hsub, hcn, h64, Or.inl ⟨_, _, rfl, by omega, by omega, by omega, rfl⟩⟩, Or.inl ?_⟩
        have hn : R ≠ R0 := fun g => by rw [g] at h1; omega
        simp (disch := omega) only [e4, ↓bc_162, ↓br_162_0, ↓bc_4, ↓b_t0, ↓b_t1, ↓b_t2, ↓b_t3, ↓b_t4, ↓b_t5, ↓b_t6, Nat.zero_add, Nat.le_refl, b_rs, b_rn, b_r2, b_ss, b_sn, b_bt, b_bf, b_b0, b_b1, b_bw, b_shl, b_or, b_iv, b_jv, b_sI, b_sJ, ↓z_hl, z_b0, z_b1, z_b2, b_and1c, b_and1z, if_true, if_false, nI_add, pk_mul, b_cl, b_lt, b_le, b_eq, b_eq0, b_le0, b_0lt, b_0le, b_lt0]
        rw [if_neg hn]
    · right
      cases hb : R.testBit e with
      | false =>
        refine ⟨k - 1, 16, [.ref 162, .int (nI S), .int (nI R), .int (nI i), .int (nI R0), .int (nI (e + 1))], b_h m3 j w, by omega, ⟨R, m3, i, rfl, hm, hR, hsub, hcn, h64, Or.inr ⟨R0, e + 1, rfl, by omega, hi, by omega, hR0, hne, hpc, rfl, ?_⟩⟩, Or.inl ?_⟩
        · rcases hst with ⟨h1, h2⟩ | h1
          · refine Or.inl ⟨h1, fun q hq hb2 => ?_⟩
            by_cases c2 : q = e
            · rw [c2, hb] at hb2; exact absurd hb2 (by decide)
            · exact h2 q (by omega) hb2
          · exact Or.inr h1
        · simp (disch := omega) only [e4, s_EM_isIn, hb, ↓bc_162, ↓br_162_0, ↓bc_4, ↓b_t0, ↓b_t1, ↓b_t2, ↓b_t3, ↓b_t4, ↓b_t5, ↓b_t6, Nat.zero_add, Nat.le_refl, b_rs, b_rn, b_r2, b_ss, b_sn, b_bt, b_bf, b_b0, b_b1, b_bw, b_shl, b_or, b_iv, b_jv, b_sI, b_sJ, ↓z_hl, z_b0, z_b1, z_b2, b_and1c, b_and1z, if_true, if_false, nI_add, pk_mul, b_cl, b_lt, b_le, b_eq, b_eq0, b_le0, b_0lt, b_0le, b_lt0]
          rw [if_neg (by omega)]
      | true =>
        have hdjR : w_dj P R := fun q hq hp => by
          cases g : R.testBit q with
          | false => rfl
          | true => have := hsub q hq g; rw [hdj q hq hp] at this; exact absurd this (by decide)
        have s1 := s_Or_fitsLast (X := X) (tx := tx) (D := d) (m := m3) (j := j) (w := w) hF3 hS (by omega) (S := R) (P := P) (r := r) (e := e) (by omega) hdjR hr (fun k hk => by rw [hm 165 (by omega)]; exact h65 k hk) h64 (by omega) hb
        cases hfit : w_fp (w_fbh s r) P e (w_rm R e) with
        | false =>
          rw [hfit] at s1
          refine ⟨k - 1, 16, [.ref 162, .int (nI S), .int (nI R), .int (nI i), .int (nI R0), .int (nI (e + 1))], b_h m3 j w, by omega, ⟨R, m3, i, rfl, hm, hR, hsub, hcn, h64, Or.inr ⟨R0, e + 1, rfl, by omega, hi, by omega, hR0, hne, hpc, rfl, ?_⟩⟩, Or.inl ?_⟩
          · rcases hst with ⟨h1, h2⟩ | h1
            · refine Or.inl ⟨h1, fun q hq hb2 => ?_⟩
              by_cases c2 : q = e
              · rw [c2]; exact hfit
              · exact h2 q (by omega) hb2
            · exact Or.inr h1
          · simp (disch := omega) only [e4, s_EM_isIn, hb, s1, Nat.one_ne_zero, ↓bc_162, ↓br_162_0, ↓bc_4, ↓b_t0, ↓b_t1, ↓b_t2, ↓b_t3, ↓b_t4, ↓b_t5, ↓b_t6, Nat.zero_add, Nat.le_refl, b_rs, b_rn, b_r2, b_ss, b_sn, b_bt, b_bf, b_b0, b_b1, b_bw, b_shl, b_or, b_iv, b_jv, b_sI, b_sJ, ↓z_hl, z_b0, z_b1, z_b2, b_and1c, b_and1z, if_true, if_false, nI_add, pk_mul, b_cl, b_lt, b_le, b_eq, b_eq0, b_le0, b_0lt, b_0le, b_lt0]
            rw [if_neg (by omega)]
        | true =>
          rw [hfit] at s1
          obtain ⟨m4, s2, k1, k2⟩ := s_Or_leaveOut (X := X) (tx := tx) (D := d) (m := m3) (j := j) (w := w) hF3 hS (by omega) (S := R) (e := e) (by omega) h64 (by omega) hb
          have hpr := w_pc_rm (S := R) (by omega) hb
          have hl : w_rm R e ≤ R := w_rm_le
          refine ⟨k - 1, 16, [.ref 162, .int (nI S), .int (nI (w_rm R e)), .int (nI i), .int (nI R0), .int (nI (e + 1))], b_h m4 j w, by omega, ⟨w_rm R e, m4, i, rfl, fun c hc => by rw [k1 c hc, hm c hc], by omega, fun q hq hb2 => ?_, by rw [w_cn_take hanti (by omega) hb hfit]; exact hcn, k2, Or.inr ⟨R0, e + 1, rfl, by omega, hi, by omega, hR0, hne, hpc, rfl, Or.inr ?_⟩⟩, Or.inl ?_⟩
          · rw [w_rm_bt (by omega), Bool.and_eq_true] at hb2
            exact hsub q hq hb2.1
          · rcases hst with ⟨h1, h2⟩ | h1
            · rw [← h1]; omega
            · omega
          · simp (disch := omega) only [e4, s_EM_isIn, hb, s1, s2, b_xor, b_and, w_rm_eq, Nat.one_ne_zero, ↓bc_162, ↓br_162_0, ↓bc_4, ↓b_t0, ↓b_t1, ↓b_t2, ↓b_t3, ↓b_t4, ↓b_t5, ↓b_t6, Nat.zero_add, Nat.le_refl, b_rs, b_rn, b_r2, b_ss, b_sn, b_bt, b_bf, b_b0, b_b1, b_bw, b_shl, b_or, b_iv, b_jv, b_sI, b_sJ, ↓z_hl, z_b0, z_b1, z_b2, b_and1c, b_and1z, if_true, if_false, nI_add, pk_mul, b_cl, b_lt, b_le, b_eq, b_eq0, b_le0, b_0lt, b_0le, b_lt0]
            rw [if_neg (by omega)]
theorem s_Or_mayBeFirst (hF : c_F m 4 s) (hS : i_S s) (hD : 5 ≤ D) {S P r e : Nat} (hs : S < 2 ^ s 3) (hP : P < 1024) (hdj : w_dj P S) (hr : ∀ k, k < 6 → s (r + k) ≤ 99) (h65 : ∀ k, k < 6 → m 165 k = w_lf (s (r + k)) (w_cs s P k)) (he : e < s 3) (hb : S.testBit e = true) : ∃ m2, a_ex X tx a_T D 117 [.ref 162, .int (nI e), .int (nI (w_rm S e))] (b_h m j w) = some (b_h m2 j w, some (.int (nI (b_b (w_cn (w_fp (w_fbh s r) (P ||| 2 ^ e)) (w_rm S e)))))) ∧ z_fr 164 165 m m2 ∧ ∀ k, k < 6 → m2 165 k = w_lf (s (r + k)) (w_cs s P k) := by
  obtain ⟨d, rfl⟩ : ∃ d, D = d + 1 := ⟨D - 1, by omega⟩
  have hE := i_S_E hS
  have hPw : 2 ^ s 3 ≤ 1024 := Nat.pow_le_pow_right (n := 2) (by decide) hE
  have hdj1 : w_dj P (2 ^ e) := fun i hi h => by
    rw [Nat.testBit_two_pow]
    exact decide_eq_false fun g => by rw [g] at hb; rw [hdj i hi h] at hb; exact absurd hb (by decide)
  have hcs : ∀ k, w_cs s (P ||| 2 ^ e) k = w_cs s P k + s (87 + 6 * e + k) := fun k => by rw [w_cs_or hE hdj1, w_cs_one he]
  have hdj2 : w_dj (P ||| 2 ^ e) (w_rm S e) := fun i hi h => by
    rw [w_or_bt, Bool.or_eq_true, decide_eq_true_eq] at h
    rw [w_rm_bt (by omega)]
    rcases h with h | h
    · rw [hdj i hi h]; rfl
    · rw [decide_eq_true h.symm, Bool.not_true, Bool.and_false]
  obtain ⟨m1, e1, g1, g2⟩ := s_Or_take (X := X) (tx := tx) (D := d) (m := m) (j := j) (w := w) hF hS (by omega) (P := P) (r := r) (e := e) hr h65 he
  have hF1 : c_F m1 4 s := c_F_ext (fun c p1 p2 => g1 c (by omega)) (fun _ _ => rfl) hS hF
  obtain ⟨m2, e2, k1⟩ := s_Or_mayFollow (X := X) (tx := tx) (D := d) (m := m1) (j := j) (w := w) hF1 hS (by omega) (S := w_rm S e) (P := P ||| 2 ^ e) (r := r) (Nat.lt_of_le_of_lt w_rm_le hs) (w_or_lt hP (by omega)) hdj2 hr (fun k hk => by rw [hcs]; exact g2 k hk)
  have hF2 : c_F m2 4 s := c_F_ext (fun c p1 p2 => k1 c (by omega)) (fun _ _ => rfl) hS hF1
  obtain ⟨m3, e3, n1, n2⟩ := s_Or_giveBack (X := X) (tx := tx) (D := d) (m := m2) (j := j) (w := w) hF2 hS (by omega) (P := P) (r := r) (e := e) hr (fun k hk => by rw [k1 165 (by omega)]; exact g2 k hk) he
  refine ⟨m3, ?_, fun c hc => by rw [n1 c (by omega), k1 c (by omega), g1 c (by omega)], n2⟩
  rw [e_Or_mayBeFirst, q_Or_mayBeFirst_0]
  simp (disch := omega) only [e1, e2, e3, ↓bc_162, ↓b_t0, ↓b_t1, ↓b_t2, ↓b_t3, ↓b_t4, ↓b_t5, ↓b_t6, Nat.zero_add, Nat.le_refl, b_rs, b_rn, b_r2, b_ss, b_sn, b_bt, b_bf, b_b0, b_b1, b_bw, b_shl, b_or, b_iv, b_jv, b_sI, b_sJ, ↓z_hl, z_b0, z_b1, z_b2, b_and1c, b_and1z, if_true, if_false, nI_add, pk_mul, b_cl, b_lt, b_le, b_eq, b_eq0, b_le0, b_0lt, b_0le, b_lt0]
theorem s_Or_leaveAsNow (hF : c_F m 4 s) (hA : c_A m 26 s) (hS : i_S s) (hD : 2 ≤ D) {t : Nat} (ht : t < 8) : ∃ m2, a_ex X tx a_T D 106 [.ref 162, .int (nI t)] (b_h m j w) = some (b_h m2 j w, none) ∧ z_fr 165 165 m m2 ∧ ∀ k, k < 6 → m2 165 k = s (177 + 6 * t + k) := by
  obtain ⟨d, rfl⟩ : ∃ d, D = d + 1 := ⟨D - 1, by omega⟩
  rw [e_Or_leaveAsNow, q_Or_leaveAsNow_0, ← l_Or_leaveAsNow_2]
  refine z_run (Q := fun q => ∃ m2, q = some (b_h m2 j w, none) ∧ z_fr 165 165 m m2 ∧ ∀ k, k < 6 → m2 165 k = s (177 + 6 * t + k)) (fun q L h => ∃ n m3, q + n = 6 ∧ L = [.ref 162, .int (nI t), .int (nI n)] ∧ h = b_h m3 j w ∧ z_fr 165 165 m m3 ∧ ∀ k, k < n → m3 165 k = s (177 + 6 * t + k)) 0 ?_ 6 _ _ ⟨0, m, by omega, rfl, rfl, z_fr_rf, fun i hi => absurd hi (Nat.not_lt_zero i)⟩ _ (z_fu (by omega))
  rintro q L h ⟨k, m3, hq, rfl, rfl, hm, hv⟩ f _
  rw [l_Or_leaveAsNow_2, q_Or_leaveAsNow_2]
  by_cases c : k = 6
  · left
    subst c
    refine ⟨m3, ?_, hm, hv⟩
    simp (disch := omega) only [↓bc_162, ↓br_162_5, ↓bc_165, ↓bx_165, bl_165, ↓br_162_1, ↓bc_26, ↓b_t0, ↓b_t1, ↓b_t2, ↓b_t3, ↓b_t4, ↓b_t5, ↓b_t6, Nat.zero_add, Nat.le_refl, b_rs, b_rn, b_r2, b_ss, b_sn, b_bt, b_bf, b_b0, b_b1, b_bw, b_shl, b_or, b_iv, b_jv, b_sI, b_sJ, ↓z_hl, z_b0, z_b1, z_b2, b_and1c, b_and1z, if_true, if_false, nI_add, pk_mul, b_cl, b_lt, b_le, b_eq, b_eq0, b_le0, b_0lt, b_0le, b_lt0]
  · right
    have hF3 : c_F m3 4 s := c_F_ext (fun c p1 p2 => hm c (by omega)) (fun _ _ => rfl) hS hF
    have hA3 : c_A m3 26 s := c_A_ext (fun c p1 p2 => hm c (by omega)) hA
    refine ⟨q - 1, [.ref 162, .int (nI t), .int (nI (k + 1))], b_h (b_r m3 165 (b_s (m3 165) k (s (177 + 6 * t + k)))) j w, by omega, ⟨k + 1, _, by omega, rfl, rfl, z_fr_r hm (by omega), fun i hi => ?_⟩, ?_⟩
    · rw [b_rs]
      by_cases c2 : i = k
      · rw [c2, b_ss]
      · rw [b_sn c2]; exact hv i (by omega)
    · simp (disch := omega) only [s_Af_amount26 hA3, ↓bc_162, ↓br_162_5, ↓bc_165, ↓bx_165, bl_165, ↓br_162_1, ↓bc_26, ↓b_t0, ↓b_t1, ↓b_t2, ↓b_t3, ↓b_t4, ↓b_t5, ↓b_t6, Nat.zero_add, Nat.le_refl, b_rs, b_rn, b_r2, b_ss, b_sn, b_bt, b_bf, b_b0, b_b1, b_bw, b_shl, b_or, b_iv, b_jv, b_sI, b_sJ, ↓z_hl, z_b0, z_b1, z_b2, b_and1c, b_and1z, if_true, if_false, nI_add, pk_mul, b_cl, b_lt, b_le, b_eq, b_eq0, b_le0, b_0lt, b_0le, b_lt0]
      rw [if_neg (by omega)]
theorem s_Or_leaveAsTold (hF : c_F m 4 s) (hA : c_A m 26 s) (hS : i_S s) (hD : 2 ≤ D) {t : Nat} (ht : t < 8) : ∃ m2, a_ex X tx a_T D 107 [.ref 162, .int (nI t)] (b_h m j w) = some (b_h m2 j w, none) ∧ z_fr 165 165 m m2 ∧ ∀ k, k < 6 → m2 165 k = s (19 + 6 * t + k) := by
  obtain ⟨d, rfl⟩ : ∃ d, D = d + 1 := ⟨D - 1, by omega⟩
  rw [e_Or_leaveAsTold, q_Or_leaveAsTold_0, ← l_Or_leaveAsTold_2]
  refine z_run (Q := fun q => ∃ m2, q = some (b_h m2 j w, none) ∧ z_fr 165 165 m m2 ∧ ∀ k, k < 6 → m2 165 k = s (19 + 6 * t + k)) (fun q L h => ∃ n m3, q + n = 6 ∧ L = [.ref 162, .int (nI t), .int (nI n)] ∧ h = b_h m3 j w ∧ z_fr 165 165 m m3 ∧ ∀ k, k < n → m3 165 k = s (19 + 6 * t + k)) 0 ?_ 6 _ _ ⟨0, m, by omega, rfl, rfl, z_fr_rf, fun i hi => absurd hi (Nat.not_lt_zero i)⟩ _ (z_fu (by omega))
  rintro q L h ⟨k, m3, hq, rfl, rfl, hm, hv⟩ f _
  rw [l_Or_leaveAsTold_2, q_Or_leaveAsTold_2]
  by_cases c : k = 6
  · left
    subst c
    refine ⟨m3, ?_, hm, hv⟩
    simp (disch := omega) only [↓bc_162, ↓br_162_5, ↓bc_165, ↓bx_165, bl_165, ↓br_162_0, ↓bc_4, ↓b_t0, ↓b_t1, ↓b_t2, ↓b_t3, ↓b_t4, ↓b_t5, ↓b_t6, Nat.zero_add, Nat.le_refl, b_rs, b_rn, b_r2, b_ss, b_sn, b_bt, b_bf, b_b0, b_b1, b_bw, b_shl, b_or, b_iv, b_jv, b_sI, b_sJ, ↓z_hl, z_b0, z_b1, z_b2, b_and1c, b_and1z, if_true, if_false, nI_add, pk_mul, b_cl, b_lt, b_le, b_eq, b_eq0, b_le0, b_0lt, b_0le, b_lt0]
  · right
    have hF3 : c_F m3 4 s := c_F_ext (fun c p1 p2 => hm c (by omega)) (fun _ _ => rfl) hS hF
    have hA3 : c_A m3 26 s := c_A_ext (fun c p1 p2 => hm c (by omega)) hA
    refine ⟨q - 1, [.ref 162, .int (nI t), .int (nI (k + 1))], b_h (b_r m3 165 (b_s (m3 165) k (s (19 + 6 * t + k)))) j w, by omega, ⟨k + 1, _, by omega, rfl, rfl, z_fr_r hm (by omega), fun i hi => ?_⟩, ?_⟩
    · rw [b_rs]
      by_cases c2 : i = k
      · rw [c2, b_ss]
      · rw [b_sn c2]; exact hv i (by omega)
    · simp (disch := omega) only [s_Fa_firstOpen hF3, ↓bc_162, ↓br_162_5, ↓bc_165, ↓bx_165, bl_165, ↓br_162_0, ↓bc_4, ↓b_t0, ↓b_t1, ↓b_t2, ↓b_t3, ↓b_t4, ↓b_t5, ↓b_t6, Nat.zero_add, Nat.le_refl, b_rs, b_rn, b_r2, b_ss, b_sn, b_bt, b_bf, b_b0, b_b1, b_bw, b_shl, b_or, b_iv, b_jv, b_sI, b_sJ, ↓z_hl, z_b0, z_b1, z_b2, b_and1c, b_and1z, if_true, if_false, nI_add, pk_mul, b_cl, b_lt, b_le, b_eq, b_eq0, b_le0, b_0lt, b_0le, b_lt0]
      rw [if_neg (by omega)]
end OD
