/-! RINGS: the class's side -/
theorem b_bitL {L q : Nat} (h : L < 64) (hq : 6 ≤ q) : L.testBit q = false := Nat.testBit_lt_two_pow (Nat.lt_of_lt_of_le h (Nat.pow_le_pow_right (n := 2) (i := 6) (by decide) hq))
section RI
variable {X : Nat × (Nat → Int32)} {tx : List Int32} {D : Nat} {m j : Nat → Nat → Nat} {w : (Nat × Nat) × Bool} {s : Nat → Nat}
theorem s_Ri_come (hF : c_F m 4 s) (hA : c_A m 26 s) (hS : i_S s) (hI : i_D s) (hD : 1 ≤ D) : ∃ m2, a_ex X tx a_T D 137 [.ref 172] (b_h m j w) = some (b_h m2 j w, none) ∧ z_fr 172 175 m m2 ∧ m2 172 5 = w_l0 s ∧ (∀ q, q < 6 → m2 173 q = w_br s q) ∧ ∀ q, q < 6 → m2 175 q = 4294967295 := by
  obtain ⟨d, rfl⟩ : ∃ d, D = d + 1 := ⟨D - 1, by omega⟩
  have hE := i_S_E hS
  have e4 := c_F4_E hF
  have hh : ∀ e, e < s 3 → m 31 e = s (241 + e) := c_A_ha hA
  have hhl : ∀ e, e < s 3 → s (241 + e) < 4294967296 := fun e he => i_hlt hS hI he
  rw [e_Ri_come, q_Ri_come_0]
  simp (disch := omega) only [↓bc_172, ↓br_172_2, ↓bc_173, ↓bx_173, bl_173, ↓br_172_4, ↓bc_175, ↓bx_175, bl_175, ↓br_172_0, ↓bc_4, ↓br_172_1, ↓bc_26, ↓br_26_6, ↓bc_31, ↓bx_31, bl_31, ↓b_t0, ↓b_t1, ↓b_t2, ↓b_t3, ↓b_t4, ↓b_t5, ↓b_t6, Nat.zero_add, Nat.le_refl, b_rs, b_rn, b_r2, b_ss, b_sn, b_bt, b_bf, b_b0, b_b1, b_bw, b_shl, b_or, b_iv, b_jv, b_sI, b_sJ, ↓z_hl, z_b0, z_b1, z_b2, b_and1c, b_and1z, if_true, if_false, nI_add, pk_mul, b_cl, b_lt, b_le, b_eq, b_eq0, b_le0, b_0lt, b_0le, b_lt0]
  rw [← l_Ri_come_5]
  refine z_runT (Q := fun r => ∃ m2, r = some (b_h m2 j w, none) ∧ z_fr 172 175 m m2 ∧ m2 172 5 = w_l0 s ∧ (∀ q, q < 6 → m2 173 q = w_br s q) ∧ ∀ q, q < 6 → m2 175 q = 4294967295) (fun k c L h => ∃ q m3, h = b_h m3 j w ∧ z_fr 172 175 m m3 ∧ (∀ i, i < q → m3 173 i = w_br s i) ∧ (∀ i, i < q → m3 175 i = 4294967295) ∧
    ((∃ x, c = 5 ∧ k + 20 * q = 200 ∧ q ≤ 6 ∧ L = [.ref 172, .int (nI q), x] ∧ m3 172 5 = z_set (fun q => decide (w_br s q ≠ 4294967295)) q) ∨
     (∃ e, c = 20 ∧ k + 20 * q + e + 1 = 200 ∧ q < 6 ∧ e ≤ s 3 ∧ L = [.ref 172, .int (nI q), .int (nI e)] ∧ m3 175 q = 4294967295 ∧ m3 172 5 = z_set (fun q => decide (w_br s q ≠ 4294967295)) q ∧ m3 173 q = 4294967295 ∧ ∀ i, i < e → s (241 + i) ≠ q) ∨
     (∃ e, c = 20 ∧ k + 20 * q + e + 1 = 200 ∧ q < 6 ∧ e ≤ s 3 ∧ L = [.ref 172, .int (nI q), .int (nI e)] ∧ m3 175 q = 4294967295 ∧ m3 172 5 = z_set (fun q => decide (w_br s q ≠ 4294967295)) (q + 1) ∧ m3 173 q = w_br s q ∧ w_br s q ≠ 4294967295))) 0 ?_ 200 5 _ _ ⟨0, _, rfl, z_fr_r z_fr_rf (by omega), fun i hi => absurd hi (Nat.not_lt_zero i), fun i hi => absurd hi (Nat.not_lt_zero i), Or.inl ⟨_, rfl, by omega, by omega, rfl, by rw [b_rs, b_ss]; rfl⟩⟩ _ (z_fu (by omega))
  rintro k c L h ⟨q, m3, rfl, hm, h73, h75, ⟨x, rfl, hk, hq, rfl, hz⟩ | ⟨e, rfl, hk, hq, he, rfl, h5q, hz, h3q, hn⟩ | ⟨e, rfl, hk, hq, he, rfl, h5q, hz, h3q, hne⟩⟩ f _
  · rw [l_Ri_come_5, q_Ri_come_5]
    by_cases c : q = 6
    · left
      subst c
      refine ⟨m3, ?_, hm, hz, h73, h75⟩
      simp (disch := omega) only [↓bc_172, ↓br_172_2, ↓bc_173, ↓bx_173, bl_173, ↓br_172_4, ↓bc_175, ↓bx_175, bl_175, ↓br_172_0, ↓bc_4, ↓br_172_1, ↓bc_26, ↓br_26_6, ↓bc_31, ↓bx_31, bl_31, ↓b_t0, ↓b_t1, ↓b_t2, ↓b_t3, ↓b_t4, ↓b_t5, ↓b_t6, Nat.zero_add, Nat.le_refl, b_rs, b_rn, b_r2, b_ss, b_sn, b_bt, b_bf, b_b0, b_b1, b_bw, b_shl, b_or, b_iv, b_jv, b_sI, b_sJ, ↓z_hl, z_b0, z_b1, z_b2, b_and1c, b_and1z, if_true, if_false, nI_add, pk_mul, b_cl, b_lt, b_le, b_eq, b_eq0, b_le0, b_0lt, b_0le, b_lt0]
    · right
      refine ⟨k - 1, 20, [.ref 172, .int (nI q), .int (nI 0)], b_h (b_r (b_r m3 173 (b_s (m3 173) q 4294967295)) 175 (b_s (m3 175) q 4294967295)) j w, by omega, ⟨q, _, rfl, z_fr_r (z_fr_r hm (by omega)) (by omega), fun i hi => ?_, fun i hi => ?_, Or.inr (Or.inl ⟨0, rfl, by omega, by omega, by omega, rfl, by rw [b_rs, b_ss], ?_, ?_, fun i hi => absurd hi (Nat.not_lt_zero i)⟩)⟩, Or.inr ?_⟩
      · rw [b_rn (by decide), b_rs, b_sn (by omega)]; exact h73 i hi
      · rw [b_rs, b_sn (by omega)]; exact h75 i hi
      · rw [b_rn (by decide), b_rn (by decide)]; exact hz
      · rw [b_rn (by decide), b_rs, b_ss]
      · rw [l_Ri_come_20]
        simp (disch := omega) only [↓bc_172, ↓br_172_2, ↓bc_173, ↓bx_173, bl_173, ↓br_172_4, ↓bc_175, ↓bx_175, bl_175, ↓br_172_0, ↓bc_4, ↓br_172_1, ↓bc_26, ↓br_26_6, ↓bc_31, ↓bx_31, bl_31, ↓b_t0, ↓b_t1, ↓b_t2, ↓b_t3, ↓b_t4, ↓b_t5, ↓b_t6, Nat.zero_add, Nat.le_refl, b_rs, b_rn, b_r2, b_ss, b_sn, b_bt, b_bf, b_b0, b_b1, b_bw, b_shl, b_or, b_iv, b_jv, b_sI, b_sJ, ↓z_hl, z_b0, z_b1, z_b2, b_and1c, b_and1z, if_true, if_false, nI_add, pk_mul, b_cl, b_lt, b_le, b_eq, b_eq0, b_le0, b_0lt, b_0le, b_lt0]
        rw [if_neg (by omega)]
  · rw [l_Ri_come_20, q_Ri_come_20]
    right
    have e43 : m3 4 3 = s 3 := by rw [hm 4 (by omega)]; exact e4
    by_cases c : e = s 3
    · have hb : w_br s q = 4294967295 := w_br_none hE (by rw [← c]; exact hn)
      have hz2 : z_set (fun q => decide (w_br s q ≠ 4294967295)) (q + 1) = z_set (fun q => decide (w_br s q ≠ 4294967295)) q := z_set_f (decide_eq_false (fun g => g hb))
      refine ⟨k - (19 - e), 5, [.ref 172, .int (nI (q + 1)), .int (nI e)], b_h m3 j w, by omega, ⟨q + 1, m3, rfl, hm, fun i hi => ?_, fun i hi => ?_, Or.inl ⟨_, rfl, by omega, by omega, rfl, by rw [hz2]; exact hz⟩⟩, Or.inl ?_⟩
      · by_cases c2 : i = q
        · rw [c2, h3q, hb]
        · exact h73 i (by omega)
      · by_cases c2 : i = q
        · rw [c2, h5q]
        · exact h75 i (by omega)
      · simp (disch := omega) only [e43, ↓bc_172, ↓br_172_2, ↓bc_173, ↓bx_173, bl_173, ↓br_172_4, ↓bc_175, ↓bx_175, bl_175, ↓br_172_0, ↓bc_4, ↓br_172_1, ↓bc_26, ↓br_26_6, ↓bc_31, ↓bx_31, bl_31, ↓b_t0, ↓b_t1, ↓b_t2, ↓b_t3, ↓b_t4, ↓b_t5, ↓b_t6, Nat.zero_add, Nat.le_refl, b_rs, b_rn, b_r2, b_ss, b_sn, b_bt, b_bf, b_b0, b_b1, b_bw, b_shl, b_or, b_iv, b_jv, b_sI, b_sJ, ↓z_hl, z_b0, z_b1, z_b2, b_and1c, b_and1z, if_true, if_false, nI_add, pk_mul, b_cl, b_lt, b_le, b_eq, b_eq0, b_le0, b_0lt, b_0le, b_lt0]
        rw [if_pos (by omega)]
    · have h31 : m3 31 e = s (241 + e) := by rw [hm 31 (by omega)]; exact hh e (by omega)
      have hl := hhl e (by omega)
      by_cases c2 : s (241 + e) = q
      · have hb : w_br s q = e := w_br_at (by omega) c2 hn
        have hne : w_br s q ≠ 4294967295 := by rw [hb]; omega
        have hz2 : z_set (fun q => decide (w_br s q ≠ 4294967295)) (q + 1) = z_set (fun q => decide (w_br s q ≠ 4294967295)) q ||| 2 ^ q := z_set_t (decide_eq_true hne)
        refine ⟨k - 1, 20, [.ref 172, .int (nI q), .int (nI (e + 1))], b_h (b_r (b_r m3 173 (b_s (m3 173) q e)) 172 (b_s (m3 172) 5 (m3 172 5 ||| 2 ^ q))) j w, by omega, ⟨q, _, rfl, z_fr_r (z_fr_r hm (by omega)) (by omega), fun i hi => ?_, fun i hi => ?_, Or.inr (Or.inr ⟨e + 1, rfl, by omega, by omega, by omega, rfl, ?_, ?_, ?_, hne⟩)⟩, Or.inl ?_⟩
        · rw [b_rn (by decide), b_rs, b_sn (by omega)]; exact h73 i hi
        · rw [b_rn (by decide), b_rn (by decide)]; exact h75 i hi
        · rw [b_rn (by decide), b_rn (by decide)]; exact h5q
        · rw [b_rs, b_ss, hz2, hz]
        · rw [b_rn (by decide), b_rs, b_ss, hb]
        · simp (disch := omega) only [e43, h3q, h31, ↓bc_172, ↓br_172_2, ↓bc_173, ↓bx_173, bl_173, ↓br_172_4, ↓bc_175, ↓bx_175, bl_175, ↓br_172_0, ↓bc_4, ↓br_172_1, ↓bc_26, ↓br_26_6, ↓bc_31, ↓bx_31, bl_31, ↓b_t0, ↓b_t1, ↓b_t2, ↓b_t3, ↓b_t4, ↓b_t5, ↓b_t6, Nat.zero_add, Nat.le_refl, b_rs, b_rn, b_r2, b_ss, b_sn, b_bt, b_bf, b_b0, b_b1, b_bw, b_shl, b_or, b_iv, b_jv, b_sI, b_sJ, ↓z_hl, z_b0, z_b1, z_b2, b_and1c, b_and1z, if_true, if_false, nI_add, pk_mul, b_cl, b_lt, b_le, b_eq, b_eq0, b_le0, b_0lt, b_0le, b_lt0]
          rw [if_neg (by omega), if_pos c2]
      · refine ⟨k - 1, 20, [.ref 172, .int (nI q), .int (nI (e + 1))], b_h m3 j w, by omega, ⟨q, m3, rfl, hm, h73, h75, Or.inr (Or.inl ⟨e + 1, rfl, by omega, by omega, by omega, rfl, h5q, hz, h3q, fun i hi => ?_⟩)⟩, Or.inl ?_⟩
        · by_cases c3 : i = e
          · rw [c3]; exact c2
          · exact hn i (by omega)
        · simp (disch := omega) only [e43, h3q, h31, ↓bc_172, ↓br_172_2, ↓bc_173, ↓bx_173, bl_173, ↓br_172_4, ↓bc_175, ↓bx_175, bl_175, ↓br_172_0, ↓bc_4, ↓br_172_1, ↓bc_26, ↓br_26_6, ↓bc_31, ↓bx_31, bl_31, ↓b_t0, ↓b_t1, ↓b_t2, ↓b_t3, ↓b_t4, ↓b_t5, ↓b_t6, Nat.zero_add, Nat.le_refl, b_rs, b_rn, b_r2, b_ss, b_sn, b_bt, b_bf, b_b0, b_b1, b_bw, b_shl, b_or, b_iv, b_jv, b_sI, b_sJ, ↓z_hl, z_b0, z_b1, z_b2, b_and1c, b_and1z, if_true, if_false, nI_add, pk_mul, b_cl, b_lt, b_le, b_eq, b_eq0, b_le0, b_0lt, b_0le, b_lt0]
          rw [if_neg (by omega), if_neg c2]
  · rw [l_Ri_come_20, q_Ri_come_20]
    right
    have e43 : m3 4 3 = s 3 := by rw [hm 4 (by omega)]; exact e4
    have hbl := (w_br_lt hne).1
    refine ⟨k - (19 - e), 5, [.ref 172, .int (nI (q + 1)), .int (nI e)], b_h m3 j w, by omega, ⟨q + 1, m3, rfl, hm, fun i hi => ?_, fun i hi => ?_, Or.inl ⟨_, rfl, by omega, by omega, rfl, hz⟩⟩, Or.inl ?_⟩
    · by_cases c2 : i = q
      · rw [c2, h3q]
      · exact h73 i (by omega)
    · by_cases c2 : i = q
      · rw [c2, h5q]
      · exact h75 i (by omega)
    · simp (disch := omega) only [e43, h3q, ↓bc_172, ↓br_172_2, ↓bc_173, ↓bx_173, bl_173, ↓br_172_4, ↓bc_175, ↓bx_175, bl_175, ↓br_172_0, ↓bc_4, ↓br_172_1, ↓bc_26, ↓br_26_6, ↓bc_31, ↓bx_31, bl_31, ↓b_t0, ↓b_t1, ↓b_t2, ↓b_t3, ↓b_t4, ↓b_t5, ↓b_t6, Nat.zero_add, Nat.le_refl, b_rs, b_rn, b_r2, b_ss, b_sn, b_bt, b_bf, b_b0, b_b1, b_bw, b_shl, b_or, b_iv, b_jv, b_sI, b_sJ, ↓z_hl, z_b0, z_b1, z_b2, b_and1c, b_and1z, if_true, if_false, nI_add, pk_mul, b_cl, b_lt, b_le, b_eq, b_eq0, b_le0, b_0lt, b_0le, b_lt0]
      by_cases c : s 3 ≤ e
      · rw [if_pos c]
      · rw [if_neg c, if_neg hne]
theorem s_Ri_favourite (hF : c_F m 4 s) (hA : c_A m 26 s) (hS : i_S s) (hI : i_D s) (hD : 5 ≤ D) {L q : Nat} (hq : q < 6) (hL : L < 64) (h5 : m 172 5 = L) (h73 : ∀ i, i < 6 → m 173 i = w_br s i) (hc : ∀ o, o < 6 → L.testBit o = true → w_br s o ≠ 4294967295) : a_ex X tx a_T D 139 [.ref 172, .int (nI q)] (b_h m j w) = some ((b_h m j w), some (.int (nI (w_pt s L q)))) := by
  obtain ⟨d, rfl⟩ : ∃ d, D = d + 1 := ⟨D - 1, by omega⟩
  rw [e_Ri_favourite, q_Ri_favourite_0]
  have hE := i_S_E hS
  rw [← l_Ri_favourite_6]
  refine z_run (Q := fun r => r = some (b_h m j w, some (.int (nI (w_pt s L q))))) (fun k L2 h => ∃ o x b, k + o = 6 ∧ (w_favn s L q o ≠ 4294967295 → b = w_like s q (w_br s (w_favn s L q o))) ∧ b < 100 ∧ L2 = [.ref 172, .int (nI q), .int (nI (w_favn s L q o)), .int (nI b), .int (nI o), x] ∧ h = b_h m j w) 0 ?_ 6 _ _ ⟨0, _, 0, by omega, fun h => absurd rfl h, by omega, rfl, rfl⟩ _ (z_fu (by omega))
  rintro k L2 h ⟨o, x, b, hk, hb, hb2, rfl, rfl⟩ f _
  rw [l_Ri_favourite_6, q_Ri_favourite_6]
  by_cases c : o = 6
  · left
    subst c
    simp (disch := omega) only [↓bc_172, ↓br_172_1, ↓bc_26, ↓br_172_2, ↓bc_173, ↓bx_173, bl_173, ↓b_t0, ↓b_t1, ↓b_t2, ↓b_t3, ↓b_t4, ↓b_t5, ↓b_t6, Nat.zero_add, Nat.le_refl, b_rs, b_rn, b_r2, b_ss, b_sn, b_bt, b_bf, b_b0, b_b1, b_bw, b_shl, b_or, b_iv, b_jv, b_sI, b_sJ, ↓z_hl, z_b0, z_b1, z_b2, b_and1c, b_and1z, if_true, if_false, nI_add, pk_mul, b_cl, b_lt, b_le, b_eq, b_eq0, b_le0, b_0lt, b_0le, b_lt0]
    rfl
  · right
    have hw : w_favn s L q (o + 1) = if L.testBit o = true ∧ (w_favn s L q o = 4294967295 ∨ w_like s q (w_br s (w_favn s L q o)) < w_like s q (w_br s o) ∨ (w_like s q (w_br s o) = w_like s q (w_br s (w_favn s L q o)) ∧ w_br s o < w_br s (w_favn s L q o))) then o else w_favn s L q o := rfl
    have hlt := w_favn_lt (s := s) (L := L) (q := q) o
    have h73o := h73 o (by omega)
    cases ho : L.testBit o with
    | false =>
      have e5 : w_favn s L q (o + 1) = w_favn s L q o := by rw [hw, if_neg (fun g => by rw [ho] at g; exact absurd g.1 (by decide))]
      refine ⟨k - 1, [.ref 172, .int (nI q), .int (nI (w_favn s L q o)), .int (nI b), .int (nI (o + 1)), x], _, by omega, ⟨o + 1, x, b, by omega, by rw [e5]; exact hb, hb2, by rw [e5], rfl⟩, ?_⟩
      simp (disch := omega) only [h5, s_EM_isIn, ho, ↓bc_172, ↓br_172_1, ↓bc_26, ↓br_172_2, ↓bc_173, ↓bx_173, bl_173, ↓b_t0, ↓b_t1, ↓b_t2, ↓b_t3, ↓b_t4, ↓b_t5, ↓b_t6, Nat.zero_add, Nat.le_refl, b_rs, b_rn, b_r2, b_ss, b_sn, b_bt, b_bf, b_b0, b_b1, b_bw, b_shl, b_or, b_iv, b_jv, b_sI, b_sJ, ↓z_hl, z_b0, z_b1, z_b2, b_and1c, b_and1z, if_true, if_false, nI_add, pk_mul, b_cl, b_lt, b_le, b_eq, b_eq0, b_le0, b_0lt, b_0le, b_lt0]
      rw [if_neg (by omega)]
    | true =>
      have hne := hc o (by omega) ho
      obtain ⟨hbl, hbh⟩ := w_br_lt hne
      have s1 := s_Af_liking (X := X) (tx := tx) (D := d) (m := m) (j := j) (w := w) hF hA hS hI (by omega) (q := q) (e := w_br s o) (by omega) (by omega) (by rw [hbh]; omega)
      have hl54 : w_like s q (w_br s o) ≤ 54 := w_liken_le hS (by omega) _
      by_cases c2 : w_favn s L q o = 4294967295
      · have e5 : w_favn s L q (o + 1) = o := by rw [hw, if_pos ⟨ho, Or.inl c2⟩]
        refine ⟨k - 1, [.ref 172, .int (nI q), .int (nI o), .int (nI (w_like s q (w_br s o))), .int (nI (o + 1)), .int (nI (w_like s q (w_br s o)))], _, by omega, ⟨o + 1, _, w_like s q (w_br s o), by omega, by rw [e5]; exact fun _ => rfl, by omega, by rw [e5], rfl⟩, ?_⟩
        rw [c2]
        simp (disch := omega) only [h5, s_EM_isIn, ho, h73o, s1, Nat.one_ne_zero, ↓bc_172, ↓br_172_1, ↓bc_26, ↓br_172_2, ↓bc_173, ↓bx_173, bl_173, ↓b_t0, ↓b_t1, ↓b_t2, ↓b_t3, ↓b_t4, ↓b_t5, ↓b_t6, Nat.zero_add, Nat.le_refl, b_rs, b_rn, b_r2, b_ss, b_sn, b_bt, b_bf, b_b0, b_b1, b_bw, b_shl, b_or, b_iv, b_jv, b_sI, b_sJ, ↓z_hl, z_b0, z_b1, z_b2, b_and1c, b_and1z, if_true, if_false, nI_add, pk_mul, b_cl, b_lt, b_le, b_eq, b_eq0, b_le0, b_0lt, b_0le, b_lt0]
        rw [if_neg (by omega)]
      · have hlt2 : w_favn s L q o < o ∧ L.testBit (w_favn s L q o) = true := by
          rcases hlt with g | g
          · exact absurd g c2
          · exact g
        have hb3 := hb c2
        have h73f := h73 (w_favn s L q o) (by omega)
        have hnf := hc (w_favn s L q o) (by omega) hlt2.2
        have hbf := (w_br_lt hnf).1
        by_cases c3 : b < w_like s q (w_br s o)
        · have e5 : w_favn s L q (o + 1) = o := by rw [hw, if_pos ⟨ho, Or.inr (Or.inl (by omega))⟩]
          refine ⟨k - 1, [.ref 172, .int (nI q), .int (nI o), .int (nI (w_like s q (w_br s o))), .int (nI (o + 1)), .int (nI (w_like s q (w_br s o)))], _, by omega, ⟨o + 1, _, w_like s q (w_br s o), by omega, by rw [e5]; exact fun _ => rfl, by omega, by rw [e5], rfl⟩, ?_⟩
          simp (disch := omega) only [h5, s_EM_isIn, ho, h73o, s1, Nat.one_ne_zero, ↓bc_172, ↓br_172_1, ↓bc_26, ↓br_172_2, ↓bc_173, ↓bx_173, bl_173, ↓b_t0, ↓b_t1, ↓b_t2, ↓b_t3, ↓b_t4, ↓b_t5, ↓b_t6, Nat.zero_add, Nat.le_refl, b_rs, b_rn, b_r2, b_ss, b_sn, b_bt, b_bf, b_b0, b_b1, b_bw, b_shl, b_or, b_iv, b_jv, b_sI, b_sJ, ↓z_hl, z_b0, z_b1, z_b2, b_and1c, b_and1z, if_true, if_false, nI_add, pk_mul, b_cl, b_lt, b_le, b_eq, b_eq0, b_le0, b_0lt, b_0le, b_lt0]
          rw [if_neg (by omega), if_neg c2, if_pos c3]
        · by_cases c4 : w_like s q (w_br s o) = b ∧ w_br s o < w_br s (w_favn s L q o)
          · have e5 : w_favn s L q (o + 1) = o := by rw [hw, if_pos ⟨ho, Or.inr (Or.inr ⟨by omega, c4.2⟩)⟩]
            refine ⟨k - 1, [.ref 172, .int (nI q), .int (nI o), .int (nI (w_like s q (w_br s o))), .int (nI (o + 1)), .int (nI (w_like s q (w_br s o)))], _, by omega, ⟨o + 1, _, w_like s q (w_br s o), by omega, by rw [e5]; exact fun _ => rfl, by omega, by rw [e5], rfl⟩, ?_⟩
            simp (disch := omega) only [h5, s_EM_isIn, ho, h73o, s1, h73f, Nat.one_ne_zero, ↓bc_172, ↓br_172_1, ↓bc_26, ↓br_172_2, ↓bc_173, ↓bx_173, bl_173, ↓b_t0, ↓b_t1, ↓b_t2, ↓b_t3, ↓b_t4, ↓b_t5, ↓b_t6, Nat.zero_add, Nat.le_refl, b_rs, b_rn, b_r2, b_ss, b_sn, b_bt, b_bf, b_b0, b_b1, b_bw, b_shl, b_or, b_iv, b_jv, b_sI, b_sJ, ↓z_hl, z_b0, z_b1, z_b2, b_and1c, b_and1z, if_true, if_false, nI_add, pk_mul, b_cl, b_lt, b_le, b_eq, b_eq0, b_le0, b_0lt, b_0le, b_lt0]
            rw [if_neg (by omega), if_neg c2, if_neg c3, if_pos c4.1, if_neg (by omega)]
          · have e5 : w_favn s L q (o + 1) = w_favn s L q o := by
              rw [hw, if_neg]
              rintro ⟨_, g | g | g⟩
              · exact c2 g
              · omega
              · exact c4 ⟨by omega, g.2⟩
            refine ⟨k - 1, [.ref 172, .int (nI q), .int (nI (w_favn s L q o)), .int (nI b), .int (nI (o + 1)), .int (nI (w_like s q (w_br s o)))], _, by omega, ⟨o + 1, _, b, by omega, by rw [e5]; exact hb, hb2, by rw [e5], rfl⟩, ?_⟩
            simp (disch := omega) only [h5, s_EM_isIn, ho, h73o, s1, h73f, Nat.one_ne_zero, ↓bc_172, ↓br_172_1, ↓bc_26, ↓br_172_2, ↓bc_173, ↓bx_173, bl_173, ↓b_t0, ↓b_t1, ↓b_t2, ↓b_t3, ↓b_t4, ↓b_t5, ↓b_t6, Nat.zero_add, Nat.le_refl, b_rs, b_rn, b_r2, b_ss, b_sn, b_bt, b_bf, b_b0, b_b1, b_bw, b_shl, b_or, b_iv, b_jv, b_sI, b_sJ, ↓z_hl, z_b0, z_b1, z_b2, b_and1c, b_and1z, if_true, if_false, nI_add, pk_mul, b_cl, b_lt, b_le, b_eq, b_eq0, b_le0, b_0lt, b_0le, b_lt0]
            rw [if_neg (by omega), if_neg c2, if_neg c3]
            by_cases c5 : w_like s q (w_br s o) = b
            · rw [if_pos c5, if_pos (by omega)]
            · rw [if_neg c5]
theorem s_Ri_point (hF : c_F m 4 s) (hA : c_A m 26 s) (hS : i_S s) (hI : i_D s) (hD : 6 ≤ D) {L : Nat} (hL : L < 64) (h5 : m 172 5 = L) (h73 : ∀ i, i < 6 → m 173 i = w_br s i) (hc : ∀ o, o < 6 → L.testBit o = true → w_br s o ≠ 4294967295) : ∃ m2, a_ex X tx a_T D 138 [.ref 172] (b_h m j w) = some (b_h m2 j w, none) ∧ z_fr 174 174 m m2 ∧ ∀ q, q < 6 → L.testBit q = true → m2 174 q = w_pt s L q := by
  obtain ⟨d, rfl⟩ : ∃ d, D = d + 1 := ⟨D - 1, by omega⟩
  rw [e_Ri_point, q_Ri_point_0, ← l_Ri_point_2]
  refine z_run (Q := fun r => ∃ m2, r = some (b_h m2 j w, none) ∧ z_fr 174 174 m m2 ∧ ∀ q, q < 6 → L.testBit q = true → m2 174 q = w_pt s L q) (fun k L2 h => ∃ q m3, k + q = 6 ∧ L2 = [.ref 172, .int (nI q)] ∧ h = b_h m3 j w ∧ z_fr 174 174 m m3 ∧ ∀ i, i < q → L.testBit i = true → m3 174 i = w_pt s L i) 0 ?_ 6 _ _ ⟨0, m, by omega, rfl, rfl, z_fr_rf, fun i hi => absurd hi (Nat.not_lt_zero i)⟩ _ (z_fu (by omega))
  rintro k L2 h ⟨q, m3, hk, rfl, rfl, hm, hv⟩ f _
  rw [l_Ri_point_2, q_Ri_point_2]
  by_cases c : q = 6
  · left
    subst c
    refine ⟨m3, ?_, hm, hv⟩
    simp (disch := omega) only [↓bc_172, ↓br_172_3, ↓bc_174, ↓bx_174, bl_174, ↓b_t0, ↓b_t1, ↓b_t2, ↓b_t3, ↓b_t4, ↓b_t5, ↓b_t6, Nat.zero_add, Nat.le_refl, b_rs, b_rn, b_r2, b_ss, b_sn, b_bt, b_bf, b_b0, b_b1, b_bw, b_shl, b_or, b_iv, b_jv, b_sI, b_sJ, ↓z_hl, z_b0, z_b1, z_b2, b_and1c, b_and1z, if_true, if_false, nI_add, pk_mul, b_cl, b_lt, b_le, b_eq, b_eq0, b_le0, b_0lt, b_0le, b_lt0]
  · right
    have g5 : m3 172 5 = L := by rw [hm 172 (by omega)]; exact h5
    cases hb : L.testBit q with
    | false =>
      refine ⟨k - 1, [.ref 172, .int (nI (q + 1))], b_h (b_r m3 174 (b_s (m3 174) q 4294967295)) j w, by omega, ⟨q + 1, _, by omega, rfl, rfl, z_fr_r hm (by omega), fun i hi h2 => ?_⟩, ?_⟩
      · by_cases c2 : i = q
        · rw [c2, hb] at h2; exact absurd h2 (by decide)
        · rw [b_rs, b_sn c2]; exact hv i (by omega) h2
      · simp (disch := omega) only [g5, s_EM_isIn, hb, ↓bc_172, ↓br_172_3, ↓bc_174, ↓bx_174, bl_174, ↓b_t0, ↓b_t1, ↓b_t2, ↓b_t3, ↓b_t4, ↓b_t5, ↓b_t6, Nat.zero_add, Nat.le_refl, b_rs, b_rn, b_r2, b_ss, b_sn, b_bt, b_bf, b_b0, b_b1, b_bw, b_shl, b_or, b_iv, b_jv, b_sI, b_sJ, ↓z_hl, z_b0, z_b1, z_b2, b_and1c, b_and1z, if_true, if_false, nI_add, pk_mul, b_cl, b_lt, b_le, b_eq, b_eq0, b_le0, b_0lt, b_0le, b_lt0]
        rw [if_neg (by omega)]
    | true =>
      have hF3 : c_F m3 4 s := c_F_ext (fun c p1 p2 => hm c (by omega)) (fun _ _ => rfl) hS hF
      have hA3 : c_A m3 26 s := c_A_ext (fun c p1 p2 => hm c (by omega)) hA
      have s1 := s_Ri_favourite (X := X) (tx := tx) (D := d) (m := m3) (j := j) (w := w) hF3 hA3 hS hI (by omega) (L := L) (q := q) (by omega) hL g5 (fun i hi => by rw [hm 173 (by omega)]; exact h73 i hi) hc
      refine ⟨k - 1, [.ref 172, .int (nI (q + 1))], b_h (b_r m3 174 (b_s (m3 174) q (w_pt s L q))) j w, by omega, ⟨q + 1, _, by omega, rfl, rfl, z_fr_r hm (by omega), fun i hi h2 => ?_⟩, ?_⟩
      · by_cases c2 : i = q
        · rw [c2, b_rs, b_ss]
        · rw [b_rs, b_sn c2]; exact hv i (by omega) h2
      · simp (disch := omega) only [g5, s_EM_isIn, hb, s1, Nat.one_ne_zero, ↓bc_172, ↓br_172_3, ↓bc_174, ↓bx_174, bl_174, ↓b_t0, ↓b_t1, ↓b_t2, ↓b_t3, ↓b_t4, ↓b_t5, ↓b_t6, Nat.zero_add, Nat.le_refl, b_rs, b_rn, b_r2, b_ss, b_sn, b_bt, b_bf, b_b0, b_b1, b_bw, b_shl, b_or, b_iv, b_jv, b_sI, b_sJ, ↓z_hl, z_b0, z_b1, z_b2, b_and1c, b_and1z, if_true, if_false, nI_add, pk_mul, b_cl, b_lt, b_le, b_eq, b_eq0, b_le0, b_0lt, b_0le, b_lt0]
        rw [if_neg (by omega)]
theorem w_at_in {f : Nat → Nat} {L q : Nat} (hq : q < 6) (hb : L.testBit q = true) (hf : ∀ q, q < 6 → L.testBit q = true → f q < 6 ∧ L.testBit (f q) = true) : ∀ i, w_at f q i < 6 ∧ L.testBit (w_at f q i) = true
  | 0 => hf q hq hb
  | i + 1 => by
    have h1 : w_at f q (i + 1) = if w_at f q i = q then q else f (w_at f q i) := rfl
    obtain ⟨h2, h3⟩ := w_at_in hq hb hf i
    rw [h1]
    split
    · exact ⟨hq, hb⟩
    · exact hf _ h2 h3
theorem w_at_6 {f : Nat → Nat} {q i : Nat} (hi : i ≤ 6) (h : w_at f q i = q) : w_at f q 6 = q := by
  have := w_at_stay h (6 - i)
  rwa [show i + (6 - i) = 6 by omega] at this
theorem s_Ri_standsInRing (hD : 1 ≤ D) {L q : Nat} (hq : q < 6) (hb : L.testBit q = true) (h74 : ∀ i, i < 6 → L.testBit i = true → m 174 i = w_pt s L i) : a_ex X tx a_T D 142 [.ref 172, .int (nI q)] (b_h m j w) = some ((b_h m j w), some (.int (nI (b_b (decide (w_at (w_pt s L) q 6 = q)))))) := by
  obtain ⟨d, rfl⟩ : ∃ d, D = d + 1 := ⟨D - 1, by omega⟩
  rw [e_Ri_standsInRing, q_Ri_standsInRing_0]
  have hin := w_at_in (f := w_pt s L) hq hb (fun q g1 g2 => w_pt_in g2 g1)
  have h0 := h74 q hq hb
  have hp := (w_pt_in (s := s) (q := q) hb hq).1
  simp (disch := omega) only [h0, ↓bc_172, ↓br_172_3, ↓bc_174, ↓bx_174, bl_174, ↓b_t0, ↓b_t1, ↓b_t2, ↓b_t3, ↓b_t4, ↓b_t5, ↓b_t6, Nat.zero_add, Nat.le_refl, b_rs, b_rn, b_r2, b_ss, b_sn, b_bt, b_bf, b_b0, b_b1, b_bw, b_shl, b_or, b_iv, b_jv, b_sI, b_sJ, ↓z_hl, z_b0, z_b1, z_b2, b_and1c, b_and1z, if_true, if_false, nI_add, pk_mul, b_cl, b_lt, b_le, b_eq, b_eq0, b_le0, b_0lt, b_0le, b_lt0]
  rw [← l_Ri_standsInRing_7]
  refine z_run (Q := fun r => r = some (b_h m j w, some (.int (nI (b_b (decide (w_at (w_pt s L) q 6 = q))))))) (fun k L2 h => ∃ i, k + i = 6 ∧ L2 = [.ref 172, .int (nI q), .int (nI (w_at (w_pt s L) q i)), .int (nI i)] ∧ h = b_h m j w) 0 ?_ 6 _ _ ⟨0, by omega, rfl, rfl⟩ _ (z_fu (by omega))
  rintro k L2 h ⟨i, hk, rfl, rfl⟩ f _
  rw [l_Ri_standsInRing_7, q_Ri_standsInRing_7]
  obtain ⟨h1, h2⟩ := hin i
  by_cases c2 : w_at (w_pt s L) q i = q
  · left
    rw [w_at_6 (by omega) c2, decide_eq_true rfl, c2]
    by_cases c : i = 6
    · subst c
      simp (disch := omega) only [↓bc_172, ↓br_172_3, ↓bc_174, ↓bx_174, bl_174, ↓b_t0, ↓b_t1, ↓b_t2, ↓b_t3, ↓b_t4, ↓b_t5, ↓b_t6, Nat.zero_add, Nat.le_refl, b_rs, b_rn, b_r2, b_ss, b_sn, b_bt, b_bf, b_b0, b_b1, b_bw, b_shl, b_or, b_iv, b_jv, b_sI, b_sJ, ↓z_hl, z_b0, z_b1, z_b2, b_and1c, b_and1z, if_true, if_false, nI_add, pk_mul, b_cl, b_lt, b_le, b_eq, b_eq0, b_le0, b_0lt, b_0le, b_lt0]
    · simp (disch := omega) only [↓bc_172, ↓br_172_3, ↓bc_174, ↓bx_174, bl_174, ↓b_t0, ↓b_t1, ↓b_t2, ↓b_t3, ↓b_t4, ↓b_t5, ↓b_t6, Nat.zero_add, Nat.le_refl, b_rs, b_rn, b_r2, b_ss, b_sn, b_bt, b_bf, b_b0, b_b1, b_bw, b_shl, b_or, b_iv, b_jv, b_sI, b_sJ, ↓z_hl, z_b0, z_b1, z_b2, b_and1c, b_and1z, if_true, if_false, nI_add, pk_mul, b_cl, b_lt, b_le, b_eq, b_eq0, b_le0, b_0lt, b_0le, b_lt0]
      rw [if_neg (by omega)]
  · by_cases c : i = 6
    · left
      subst c
      rw [decide_eq_false c2]
      simp (disch := omega) only [↓bc_172, ↓br_172_3, ↓bc_174, ↓bx_174, bl_174, ↓b_t0, ↓b_t1, ↓b_t2, ↓b_t3, ↓b_t4, ↓b_t5, ↓b_t6, Nat.zero_add, Nat.le_refl, b_rs, b_rn, b_r2, b_ss, b_sn, b_bt, b_bf, b_b0, b_b1, b_bw, b_shl, b_or, b_iv, b_jv, b_sI, b_sJ, ↓z_hl, z_b0, z_b1, z_b2, b_and1c, b_and1z, if_true, if_false, nI_add, pk_mul, b_cl, b_lt, b_le, b_eq, b_eq0, b_le0, b_0lt, b_0le, b_lt0]
      rw [if_neg c2]
    · right
      have e1 : w_at (w_pt s L) q (i + 1) = w_pt s L (w_at (w_pt s L) q i) := by
        show (if w_at (w_pt s L) q i = q then q else w_pt s L (w_at (w_pt s L) q i)) = _
        rw [if_neg c2]
      have h4 := h74 _ h1 h2
      refine ⟨k - 1, [.ref 172, .int (nI q), .int (nI (w_pt s L (w_at (w_pt s L) q i))), .int (nI (i + 1))], _, by omega, ⟨i + 1, by omega, by rw [e1], rfl⟩, ?_⟩
      simp (disch := omega) only [h4, ↓bc_172, ↓br_172_3, ↓bc_174, ↓bx_174, bl_174, ↓b_t0, ↓b_t1, ↓b_t2, ↓b_t3, ↓b_t4, ↓b_t5, ↓b_t6, Nat.zero_add, Nat.le_refl, b_rs, b_rn, b_r2, b_ss, b_sn, b_bt, b_bf, b_b0, b_b1, b_bw, b_shl, b_or, b_iv, b_jv, b_sI, b_sJ, ↓z_hl, z_b0, z_b1, z_b2, b_and1c, b_and1z, if_true, if_false, nI_add, pk_mul, b_cl, b_lt, b_le, b_eq, b_eq0, b_le0, b_0lt, b_0le, b_lt0]
      rw [if_neg (by omega), if_neg c2, if_pos (by omega)]
end RI
