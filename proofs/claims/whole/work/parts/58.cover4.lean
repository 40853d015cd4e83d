/-! MATCHES: covers, both sides -/
section CZ
variable {X : Nat × (Nat → Int32)} {tx : List Int32} {D : Nat} {m j : Nat → Nat → Nat} {w : (Nat × Nat) × Bool} {s : Nat → Nat}
theorem s_EM_covers (hF : c_F m 4 s) (hA : c_A m 26 s) (hS : i_S s) (hI : i_D s) (hD : 8 ≤ D) {set : Nat} (hs : set < 4294967296) : ∃ m2, a_ex X tx a_T D 171 [.ref 0, .int (nI set)] (b_h m j w) = some (b_h m2 j w, some (.int (nI (if set < 2 ^ s 2 then w_qcov s set else 4294967295)))) ∧ z_fr 167 169 m m2 ∧ m2 167 7 = if set < 2 ^ s 2 ∧ w_cbest s set ≠ 4294967295 then w_cbest s set else m 167 7 := by
  obtain ⟨d, rfl⟩ : ∃ d, D = d + 1 := ⟨D - 1, by omega⟩
  rw [e_EM_covers, q_EM_covers_0]
  have hT := i_S_T hS
  by_cases c : set < 2 ^ s 2
  · have hP : 2 ^ s 2 ≤ 256 := Nat.pow_le_pow_right (n := 2) (by decide) hT
    obtain ⟨m2, e1, g1, g2⟩ := s_Ma_fewest (X := X) (tx := tx) (D := d) (j := j) (w := w) hF hA hS hI (by omega) (set := set) (by omega)
    refine ⟨m2, ?_, g1, ?_⟩
    · rw [if_pos c]
      simp (disch := omega) only [s_Fa_areThings hF hS, decide_eq_false_iff_not, e1, ↓bc_0, ↓br_0_1, ↓bc_4, ↓br_0_10, ↓bc_167, ↓b_t0, ↓b_t1, ↓b_t2, ↓b_t3, ↓b_t4, ↓b_t5, ↓b_t6, Nat.zero_add, Nat.le_refl, b_rs, b_rn, b_r2, b_ss, b_sn, b_bt, b_bf, b_b0, b_b1, b_bw, b_shl, b_or, b_iv, b_jv, b_sI, b_sJ, ↓z_hl, z_b0, z_b1, z_b2, b_and1c, b_and1z, if_true, if_false, nI_add, pk_mul, b_cl, b_lt, b_le, b_eq, b_eq0, b_le0, b_0lt, b_0le, b_lt0]
      rw [if_neg (fun g => g c)]
    · rw [g2]
      by_cases c2 : w_cbest s set = 4294967295
      · rw [if_pos c2, if_neg (fun g => g.2 c2)]
      · rw [if_neg c2, if_pos ⟨c, c2⟩]
  · refine ⟨m, ?_, z_fr_rf, by rw [if_neg (fun g => c g.1)]⟩
    rw [if_neg c]
    simp (disch := omega) only [s_Fa_areThings hF hS, decide_eq_false_iff_not, ↓bc_0, ↓br_0_1, ↓bc_4, ↓br_0_10, ↓bc_167, ↓b_t0, ↓b_t1, ↓b_t2, ↓b_t3, ↓b_t4, ↓b_t5, ↓b_t6, Nat.zero_add, Nat.le_refl, b_rs, b_rn, b_r2, b_ss, b_sn, b_bt, b_bf, b_b0, b_b1, b_bw, b_shl, b_or, b_iv, b_jv, b_sI, b_sJ, ↓z_hl, z_b0, z_b1, z_b2, b_and1c, b_and1z, if_true, if_false, nI_add, pk_mul, b_cl, b_lt, b_le, b_eq, b_eq0, b_le0, b_0lt, b_0le, b_lt0]
    rw [if_pos c]
/-- the reference's own cell, when a set has been asked about -/
def w_cvM (m : Nat → Nat → Nat) (b : Nat) : Nat → Nat → Nat := if b = 4294967295 then b_r m 234 (b_s (m 234) 0 0) else b_r m 234 (b_s (b_s (b_s (m 234) 0 0) 32 1) 31 b)
theorem s_Mo_covers (hS : i_S (m 236)) (hI : i_D (m 236)) (hD : 6 ≤ D) {set : Nat} (hs : set < 4294967296) : a_ex X tx a_T D 274 [.ref 234, .int (nI set)] (b_h m j w) = some ((b_h (if set < 2 ^ m 236 2 then w_cvM m (w_cbest (m 236) set) else b_r m 234 (b_s (m 234) 0 0)) j w), some (.int (nI (if set < 2 ^ m 236 2 then w_qcov (m 236) set else 4294967295)))) := by
  obtain ⟨d, rfl⟩ : ∃ d, D = d + 1 := ⟨D - 1, by omega⟩
  rw [e_Mo_covers, q_Mo_covers_0]
  have hS2 : i_S ((b_r m 234 (b_s (m 234) 0 0)) 236) := by rw [b_rn (by decide)]; exact hS
  have hI2 : i_D ((b_r m 234 (b_s (m 234) 0 0)) 236) := by rw [b_rn (by decide)]; exact hI
  have qq : (b_r m 234 (b_s (m 234) 0 0)) 236 = m 236 := b_rn (by decide)
  have q0 : (b_r m 234 (b_s (m 234) 0 0)) 236 0 = m 236 0 := by rw [qq]
  have q1 : (b_r m 234 (b_s (m 234) 0 0)) 236 1 = m 236 1 := by rw [qq]
  have q2 : (b_r m 234 (b_s (m 234) 0 0)) 236 2 = m 236 2 := by rw [qq]
  have q3 : (b_r m 234 (b_s (m 234) 0 0)) 236 3 = m 236 3 := by rw [qq]
  have hK := i_S_K hS
  have hM := i_S_M hS
  have hT := i_S_T hS
  have hE := i_S_E hS
  by_cases c1 : set < 2147483648
  · by_cases c : set < 2 ^ m 236 2
    · have hP : 2 ^ m 236 2 ≤ 256 := Nat.pow_le_pow_right (n := 2) (by decide) hT
      have hP2 : 2 ^ m 236 3 ≤ 1024 := Nat.pow_le_pow_right (n := 2) (by decide) hE
      have hP1 : 1 ≤ 2 ^ m 236 3 := Nat.one_le_two_pow
      have hK := w_left_lt (s := m 236)
      have hput := s_Mo_putSet (X := X) (tx := tx) (D := d) (m := b_r m 234 (b_s (m 234) 0 0)) (j := j) (w := w) hS2 hI2 (by omega)
      rw [qq] at hput
      have e0 : (2 ^ m 236 3 - 1) &&& (w_endsOf (m 236) 4294967295 ^^^ 4294967295) = w_left (m 236) := rfl
      rw [if_pos c, if_pos c]
      simp (disch := omega) only [hput, b_sub, b_xor, b_and, e0, ↓bc_234, ↓br_234_6, ↓bc_236, ↓bx_236, bl_236, ↓b_t0, ↓b_t1, ↓b_t2, ↓b_t3, ↓b_t4, ↓b_t5, ↓b_t6, Nat.zero_add, Nat.le_refl, b_rs, b_rn, b_r2, b_ss, b_sn, b_bt, b_bf, b_b0, b_b1, b_bw, b_shl, b_or, b_iv, b_jv, b_sI, b_sJ, ↓z_hl, z_b0, z_b1, z_b2, b_and1c, b_and1z, if_true, if_false, nI_add, pk_mul, b_cl, b_lt, b_le, b_eq, b_eq0, b_le0, b_0lt, b_0le, b_lt0]
      rw [if_pos c, ← l_Mo_covers_33]
      refine z_run (Q := fun r => r = some (b_h (w_cvM m (w_cbest (m 236) set)) j w, some (.int (nI (w_qcov (m 236) set))))) (fun k L h => ∃ n, k + n = w_left (m 236) + 1 ∧ L = [.ref 234, .int (nI set), .int (nI (w_left (m 236))), .int (nI (w_scan (w_goesL (m 236) set) n)), .int (nI n)] ∧ h = b_h (b_r m 234 (b_s (m 234) 0 0)) j w) 0 ?_ (w_left (m 236) + 1) _ _ ⟨0, by omega, rfl, rfl⟩ _ (z_fu (by omega))
      rintro k L h ⟨n, hk, rfl, rfl⟩ f _
      rw [l_Mo_covers_33, q_Mo_covers_33]
      have hB := w_scan_lt (w_goesL (m 236) set) n
      by_cases c5 : n = w_left (m 236) + 1
      · left
        rw [c5, w_cbest_eq hE] at hB
        rw [c5, w_cbest_eq hE]
        unfold w_cvM w_qcov
        by_cases c2 : w_cbest (m 236) set = 4294967295
        · rw [if_pos c2, if_pos c2, c2]
          have n1 : (0 ≤ nI 4294967295) = False := b_0len (by decide) (by decide)
          simp (disch := omega) only [n1, ↓bc_234, ↓br_234_6, ↓bc_236, ↓bx_236, bl_236, ↓b_t0, ↓b_t1, ↓b_t2, ↓b_t3, ↓b_t4, ↓b_t5, ↓b_t6, Nat.zero_add, Nat.le_refl, b_rs, b_rn, b_r2, b_ss, b_sn, b_bt, b_bf, b_b0, b_b1, b_bw, b_shl, b_or, b_iv, b_jv, b_sI, b_sJ, ↓z_hl, z_b0, z_b1, z_b2, b_and1c, b_and1z, if_true, if_false, nI_add, pk_mul, b_cl, b_lt, b_le, b_eq, b_eq0, b_le0, b_0lt, b_0le, b_lt0]
          rw [if_pos (by omega)]
        · rw [if_neg c2, if_neg c2]
          simp (disch := omega) only [s_Mo_bits, ↓bc_234, ↓br_234_6, ↓bc_236, ↓bx_236, bl_236, ↓b_t0, ↓b_t1, ↓b_t2, ↓b_t3, ↓b_t4, ↓b_t5, ↓b_t6, Nat.zero_add, Nat.le_refl, b_rs, b_rn, b_r2, b_ss, b_sn, b_bt, b_bf, b_b0, b_b1, b_bw, b_shl, b_or, b_iv, b_jv, b_sI, b_sJ, ↓z_hl, z_b0, z_b1, z_b2, b_and1c, b_and1z, if_true, if_false, nI_add, pk_mul, b_cl, b_lt, b_le, b_eq, b_eq0, b_le0, b_0lt, b_0le, b_lt0]
          rw [if_pos (by omega)]
      · right
        have hw : w_scan (w_goesL (m 236) set) (n + 1) = if w_goesL (m 236) set n = true ∧ (w_scan (w_goesL (m 236) set) n = 4294967295 ∨ w_pc n < w_pc (w_scan (w_goesL (m 236) set) n)) then n else w_scan (w_goesL (m 236) set) n := rfl
        have s1 := s_Mo_goesWith (X := X) (tx := tx) (D := d) (m := b_r m 234 (b_s (m 234) 0 0)) (j := j) (w := w) hS2 hI2 (by omega) (set := set) (x := n) (by omega) (by omega)
        rw [qq] at s1
        have h7 : n &&& (w_left (m 236) ^^^ 4294967295) ≤ n := Nat.and_le_left
        have n1 : (nI 4294967295 < 0) = True := b_lt0n (by decide) (by decide)
        by_cases c6 : n &&& (w_left (m 236) ^^^ 4294967295) = 0
        · have hL : w_goesL (m 236) set n = w_goes (m 236) set n := by unfold w_goesL; rw [decide_eq_true c6, Bool.true_and]
          by_cases c2 : w_scan (w_goesL (m 236) set) n = 4294967295
          · cases hg : w_goes (m 236) set n with
            | true =>
              have e5 : w_scan (w_goesL (m 236) set) (n + 1) = n := by rw [hw, if_pos ⟨hL.trans hg, Or.inl c2⟩]
              refine ⟨k - 1, [.ref 234, .int (nI set), .int (nI (w_left (m 236))), .int (nI n), .int (nI (n + 1))], _, by omega, ⟨n + 1, by omega, by rw [e5], rfl⟩, ?_⟩
              rw [hg] at s1
              rw [c2]
              simp (disch := omega) only [b_xor, b_and, n1, s1, Nat.one_ne_zero, ↓bc_234, ↓br_234_6, ↓bc_236, ↓bx_236, bl_236, ↓b_t0, ↓b_t1, ↓b_t2, ↓b_t3, ↓b_t4, ↓b_t5, ↓b_t6, Nat.zero_add, Nat.le_refl, b_rs, b_rn, b_r2, b_ss, b_sn, b_bt, b_bf, b_b0, b_b1, b_bw, b_shl, b_or, b_iv, b_jv, b_sI, b_sJ, ↓z_hl, z_b0, z_b1, z_b2, b_and1c, b_and1z, if_true, if_false, nI_add, pk_mul, b_cl, b_lt, b_le, b_eq, b_eq0, b_le0, b_0lt, b_0le, b_lt0]
              rw [if_neg (by omega), if_pos c6]
            | false =>
              have e5 : w_scan (w_goesL (m 236) set) (n + 1) = 4294967295 := by rw [hw, if_neg (fun q => absurd (hg.symm.trans (hL.symm.trans q.1)) (by decide)), c2]
              refine ⟨k - 1, [.ref 234, .int (nI set), .int (nI (w_left (m 236))), .int (nI 4294967295), .int (nI (n + 1))], _, by omega, ⟨n + 1, by omega, by rw [e5], rfl⟩, ?_⟩
              rw [hg] at s1
              rw [c2]
              simp (disch := omega) only [b_xor, b_and, n1, s1, Nat.one_ne_zero, ↓bc_234, ↓br_234_6, ↓bc_236, ↓bx_236, bl_236, ↓b_t0, ↓b_t1, ↓b_t2, ↓b_t3, ↓b_t4, ↓b_t5, ↓b_t6, Nat.zero_add, Nat.le_refl, b_rs, b_rn, b_r2, b_ss, b_sn, b_bt, b_bf, b_b0, b_b1, b_bw, b_shl, b_or, b_iv, b_jv, b_sI, b_sJ, ↓z_hl, z_b0, z_b1, z_b2, b_and1c, b_and1z, if_true, if_false, nI_add, pk_mul, b_cl, b_lt, b_le, b_eq, b_eq0, b_le0, b_0lt, b_0le, b_lt0]
              rw [if_neg (by omega), if_pos c6]
          · have hB2 : w_scan (w_goesL (m 236) set) n < n := by omega
            have hp1 := w_pc_le n
            have hp2 := w_pc_le (w_scan (w_goesL (m 236) set) n)
            by_cases c3 : w_pc n < w_pc (w_scan (w_goesL (m 236) set) n)
            · cases hg : w_goes (m 236) set n with
              | true =>
                have e5 : w_scan (w_goesL (m 236) set) (n + 1) = n := by rw [hw, if_pos ⟨hL.trans hg, Or.inr c3⟩]
                refine ⟨k - 1, [.ref 234, .int (nI set), .int (nI (w_left (m 236))), .int (nI n), .int (nI (n + 1))], _, by omega, ⟨n + 1, by omega, by rw [e5], rfl⟩, ?_⟩
                rw [hg] at s1
                simp (disch := omega) only [b_xor, b_and, s1, s_Mo_bits, Nat.one_ne_zero, ↓bc_234, ↓br_234_6, ↓bc_236, ↓bx_236, bl_236, ↓b_t0, ↓b_t1, ↓b_t2, ↓b_t3, ↓b_t4, ↓b_t5, ↓b_t6, Nat.zero_add, Nat.le_refl, b_rs, b_rn, b_r2, b_ss, b_sn, b_bt, b_bf, b_b0, b_b1, b_bw, b_shl, b_or, b_iv, b_jv, b_sI, b_sJ, ↓z_hl, z_b0, z_b1, z_b2, b_and1c, b_and1z, if_true, if_false, nI_add, pk_mul, b_cl, b_lt, b_le, b_eq, b_eq0, b_le0, b_0lt, b_0le, b_lt0]
                rw [if_neg (by omega), if_pos c6, if_neg (by omega)]
              | false =>
                have e5 : w_scan (w_goesL (m 236) set) (n + 1) = w_scan (w_goesL (m 236) set) n := by rw [hw, if_neg (fun q => absurd (hg.symm.trans (hL.symm.trans q.1)) (by decide))]
                refine ⟨k - 1, [.ref 234, .int (nI set), .int (nI (w_left (m 236))), .int (nI (w_scan (w_goesL (m 236) set) n)), .int (nI (n + 1))], _, by omega, ⟨n + 1, by omega, by rw [e5], rfl⟩, ?_⟩
                rw [hg] at s1
                simp (disch := omega) only [b_xor, b_and, s1, s_Mo_bits, Nat.one_ne_zero, ↓bc_234, ↓br_234_6, ↓bc_236, ↓bx_236, bl_236, ↓b_t0, ↓b_t1, ↓b_t2, ↓b_t3, ↓b_t4, ↓b_t5, ↓b_t6, Nat.zero_add, Nat.le_refl, b_rs, b_rn, b_r2, b_ss, b_sn, b_bt, b_bf, b_b0, b_b1, b_bw, b_shl, b_or, b_iv, b_jv, b_sI, b_sJ, ↓z_hl, z_b0, z_b1, z_b2, b_and1c, b_and1z, if_true, if_false, nI_add, pk_mul, b_cl, b_lt, b_le, b_eq, b_eq0, b_le0, b_0lt, b_0le, b_lt0]
                rw [if_neg (by omega), if_pos c6, if_neg (by omega)]
            · have e5 : w_scan (w_goesL (m 236) set) (n + 1) = w_scan (w_goesL (m 236) set) n := by
                rw [hw, if_neg]
                rintro ⟨_, q | q⟩
                · exact c2 q
                · exact c3 q
              refine ⟨k - 1, [.ref 234, .int (nI set), .int (nI (w_left (m 236))), .int (nI (w_scan (w_goesL (m 236) set) n)), .int (nI (n + 1))], _, by omega, ⟨n + 1, by omega, by rw [e5], rfl⟩, ?_⟩
              simp (disch := omega) only [b_xor, b_and, s_Mo_bits, Nat.one_ne_zero, ↓bc_234, ↓br_234_6, ↓bc_236, ↓bx_236, bl_236, ↓b_t0, ↓b_t1, ↓b_t2, ↓b_t3, ↓b_t4, ↓b_t5, ↓b_t6, Nat.zero_add, Nat.le_refl, b_rs, b_rn, b_r2, b_ss, b_sn, b_bt, b_bf, b_b0, b_b1, b_bw, b_shl, b_or, b_iv, b_jv, b_sI, b_sJ, ↓z_hl, z_b0, z_b1, z_b2, b_and1c, b_and1z, if_true, if_false, nI_add, pk_mul, b_cl, b_lt, b_le, b_eq, b_eq0, b_le0, b_0lt, b_0le, b_lt0]
              rw [if_neg (by omega), if_pos c6, if_pos (by omega)]
        · have hL : w_goesL (m 236) set n = false := by unfold w_goesL; rw [decide_eq_false c6, Bool.false_and]
          have e5 : w_scan (w_goesL (m 236) set) (n + 1) = w_scan (w_goesL (m 236) set) n := by rw [hw, hL, if_neg (fun q => absurd q.1 (by decide))]
          refine ⟨k - 1, [.ref 234, .int (nI set), .int (nI (w_left (m 236))), .int (nI (w_scan (w_goesL (m 236) set) n)), .int (nI (n + 1))], _, by omega, ⟨n + 1, by omega, by rw [e5], rfl⟩, ?_⟩
          simp (disch := omega) only [b_xor, b_and, ↓bc_234, ↓br_234_6, ↓bc_236, ↓bx_236, bl_236, ↓b_t0, ↓b_t1, ↓b_t2, ↓b_t3, ↓b_t4, ↓b_t5, ↓b_t6, Nat.zero_add, Nat.le_refl, b_rs, b_rn, b_r2, b_ss, b_sn, b_bt, b_bf, b_b0, b_b1, b_bw, b_shl, b_or, b_iv, b_jv, b_sI, b_sJ, ↓z_hl, z_b0, z_b1, z_b2, b_and1c, b_and1z, if_true, if_false, nI_add, pk_mul, b_cl, b_lt, b_le, b_eq, b_eq0, b_le0, b_0lt, b_0le, b_lt0]
          rw [if_neg (by omega), if_neg c6]
    · rw [if_neg c, if_neg c]
      have hP : 2 ^ m 236 2 ≤ 256 := Nat.pow_le_pow_right (n := 2) (by decide) hT
      simp (disch := omega) only [↓bc_234, ↓br_234_6, ↓bc_236, ↓bx_236, bl_236, ↓b_t0, ↓b_t1, ↓b_t2, ↓b_t3, ↓b_t4, ↓b_t5, ↓b_t6, Nat.zero_add, Nat.le_refl, b_rs, b_rn, b_r2, b_ss, b_sn, b_bt, b_bf, b_b0, b_b1, b_bw, b_shl, b_or, b_iv, b_jv, b_sI, b_sJ, ↓z_hl, z_b0, z_b1, z_b2, b_and1c, b_and1z, if_true, if_false, nI_add, pk_mul, b_cl, b_lt, b_le, b_eq, b_eq0, b_le0, b_0lt, b_0le, b_lt0]
      rw [if_neg c]
  · have hP : 2 ^ m 236 2 ≤ 256 := Nat.pow_le_pow_right (n := 2) (by decide) hT
    rw [if_neg (show ¬ set < 2 ^ m 236 2 by omega), if_neg (show ¬ set < 2 ^ m 236 2 by omega)]
    have n1 : (nI set < 0) = True := b_lt0n (by omega) hs
    simp (disch := omega) only [n1, ↓bc_234, ↓br_234_6, ↓bc_236, ↓bx_236, bl_236, ↓b_t0, ↓b_t1, ↓b_t2, ↓b_t3, ↓b_t4, ↓b_t5, ↓b_t6, Nat.zero_add, Nat.le_refl, b_rs, b_rn, b_r2, b_ss, b_sn, b_bt, b_bf, b_b0, b_b1, b_bw, b_shl, b_or, b_iv, b_jv, b_sI, b_sJ, ↓z_hl, z_b0, z_b1, z_b2, b_and1c, b_and1z, if_true, if_false, nI_add, pk_mul, b_cl, b_lt, b_le, b_eq, b_eq0, b_le0, b_0lt, b_0le, b_lt0]
theorem t_covers (h : r_R m j) (hD : 10 ≤ D) {a : Nat} (ha : a < 4294967296) : w_step X tx D 171 274 [.int (nI a)] m j w := by
  obtain ⟨m2, e1, g1, g2⟩ := s_EM_covers (X := X) (tx := tx) (D := D) (j := j) (w := w) (r_R_fa h) (r_R_af h) (r_R_st h) (r_R_dy h) (by omega) ha
  have g6 : m2 236 = m 236 := g1 236 (by omega)
  have e2 := s_Mo_covers (X := X) (tx := tx) (D := D) (m := m2) (j := j) (w := w) (by rw [g6]; exact r_R_st h) (by rw [g6]; exact r_R_dy h) (by omega) ha
  rw [g6] at e2
  refine ⟨m2, j, _, j, _, e1, e2, ?_⟩
  have k4 := g1 234 (by omega)
  obtain ⟨t1, t2⟩ := r_R_tr h
  have key : ∀ f : Nat → Nat, (∀ k, k ≠ 0 → k ≠ 31 → k ≠ 32 → f k = m 234 k) → (f 32 < 2 ∧ m2 167 7 = if f 32 = 0 then 4294967295 else f 31) → r_R (b_r m2 234 f) j := fun f hf h7 => by
    refine r_R_asks h ⟨fun c hc => by rw [b_rn (by omega)]; exact g1 c (by omega), by rw [b_rn (by decide), g1 0 (by omega)], by rw [b_rn (by decide), g1 1 (by omega)], fun k hk => by rw [b_rn (by decide), g1 156 (by omega)], fun k hk => by rw [b_rs]; exact hf k (by omega) (by omega) (by omega)⟩ ?_ ?_ ?_ ?_ ?_
    · rw [b_rs, b_rn (by decide), b_rn (by decide), b_rn (by decide), g1 162 (by omega), g1 163 (by omega), g1 244 (by omega), hf 26 (by decide) (by decide) (by decide)]
      exact r_R_ro h
    · rw [b_rs, b_rn (by decide), b_rn (by decide), g1 171 (by omega), g1 247 (by omega), hf 30 (by decide) (by decide) (by decide)]
      exact r_R_sr h
    · rw [b_rs, b_rn (by decide)]
      exact h7
    · rw [b_rs, b_rn (by decide), g1 0 (by omega), hf 34 (by decide) (by decide) (by decide), hf 33 (by decide) (by decide) (by decide)]
      exact r_R_sk h
    · rw [b_rs, b_rn (by decide), g1 0 (by omega), hf 36 (by decide) (by decide) (by decide), hf 35 (by decide) (by decide) (by decide)]
      exact r_R_rd h
  have same : (¬ (a < 2 ^ m 236 2 ∧ w_cbest (m 236) a ≠ 4294967295)) → r_R (b_r m2 234 (b_s (m2 234) 0 0)) j := fun hn => by
    rw [k4]
    refine key _ (fun k q1 _ _ => b_sn q1) ?_
    rw [b_sn (by decide), b_sn (by decide), g2, if_neg hn]
    exact ⟨t1, t2⟩
  by_cases c : a < 2 ^ m 236 2
  · rw [if_pos c]
    unfold w_cvM
    by_cases c2 : w_cbest (m 236) a = 4294967295
    · rw [if_pos c2]
      exact same (fun g => g.2 c2)
    · rw [if_neg c2, k4]
      refine key _ (fun k q1 q2 q3 => by rw [b_sn q2, b_sn q3, b_sn q1]) ?_
      rw [b_sn (by decide), b_ss, b_ss, g2, if_pos ⟨c, c2⟩]
      exact ⟨by decide, rfl⟩
  · rw [if_neg c]
    exact same (fun g => c g.1)
end CZ
