/-! RINGS: the class's rounds -/
theorem z_and_xor_bt {L R q : Nat} (hq : q < 32) : (L &&& (R ^^^ 4294967295)).testBit q = (L.testBit q && !(R.testBit q)) := by
  rw [Nat.testBit_and, Nat.testBit_xor, z_tbF q hq, Bool.xor_true]
section RJ
variable {X : Nat × (Nat → Int32)} {tx : List Int32} {D : Nat} {m j : Nat → Nat → Nat} {w : (Nat × Nat) × Bool} {s : Nat → Nat}
theorem s_Ri_broughtBy (hD : 1 ≤ D) {q : Nat} (hq : q < 6) : a_ex X tx a_T D 141 [.ref 172, .int (nI q)] (b_h m j w) = some ((b_h m j w), some (.int (nI (m 173 q)))) := by
  obtain ⟨d, rfl⟩ : ∃ d, D = d + 1 := ⟨D - 1, by omega⟩
  rw [e_Ri_broughtBy, q_Ri_broughtBy_0]
  simp (disch := omega) only [↓bc_172, ↓br_172_2, ↓bc_173, ↓bx_173, bl_173, ↓b_t0, ↓b_t1, ↓b_t2, ↓b_t3, ↓b_t4, ↓b_t5, ↓b_t6, Nat.zero_add, Nat.le_refl, b_rs, b_rn, b_r2, b_ss, b_sn, b_bt, b_bf, b_b0, b_b1, b_bw, b_shl, b_or, b_iv, b_jv, b_sI, b_sJ, ↓z_hl, z_b0, z_b1, z_b2, b_and1c, b_and1z, if_true, if_false, nI_add, pk_mul, b_cl, b_lt, b_le, b_eq, b_eq0, b_le0, b_0lt, b_0le, b_lt0]
  rw [if_neg (by omega)]
theorem s_Ri_leaveInRings (hE : s 3 ≤ 10) (hD : 2 ≤ D) {L : Nat} (hL : L < 64) (h5 : m 172 5 = L) (h73 : ∀ i, i < 6 → m 173 i = w_br s i) (h74 : ∀ i, i < 6 → L.testBit i = true → m 174 i = w_pt s L i) : ∃ m2, a_ex X tx a_T D 140 [.ref 172] (b_h m j w) = some (b_h m2 j w, none) ∧ z_fr 172 175 m m2 ∧ m2 172 5 = L &&& (w_rg s L ^^^ 4294967295) ∧ m2 173 = m 173 ∧ ∀ q, q < 6 → m2 175 q = if (w_rg s L).testBit q = true then w_br s (w_pt s L q) else m 175 q := by
  obtain ⟨d, rfl⟩ : ∃ d, D = d + 1 := ⟨D - 1, by omega⟩
  rw [e_Ri_leaveInRings, q_Ri_leaveInRings_0, ← l_Ri_leaveInRings_4]
  refine z_run (Q := fun r => ∃ m2, r = some (b_h m2 j w, none) ∧ z_fr 172 175 m m2 ∧ m2 172 5 = L &&& (w_rg s L ^^^ 4294967295) ∧ m2 173 = m 173 ∧ ∀ q, q < 6 → m2 175 q = if (w_rg s L).testBit q = true then w_br s (w_pt s L q) else m 175 q) (fun k L2 h => ∃ q m3, k + q = 6 ∧ L2 = [.ref 172, .int (nI (z_set (fun q => L.testBit q && decide (w_at (w_pt s L) q 6 = q)) q)), .int (nI q)] ∧ h = b_h m3 j w ∧ z_fr 175 175 m m3 ∧ ∀ i, i < 6 → m3 175 i = if i < q ∧ (w_rg s L).testBit i = true then w_br s (w_pt s L i) else m 175 i) 0 ?_ 6 _ _ ⟨0, m, by omega, rfl, rfl, z_fr_rf, fun i hi => by rw [if_neg (fun g => absurd g.1 (Nat.not_lt_zero i))]⟩ _ (z_fu (by omega))
  rintro k L2 h ⟨q, m3, hk, rfl, rfl, hm, hv⟩ f _
  rw [l_Ri_leaveInRings_4, q_Ri_leaveInRings_4]
  have g5 : m3 172 5 = L := by rw [hm 172 (by omega)]; exact h5
  by_cases c : q = 6
  · left
    subst c
    have e6 : z_set (fun q => L.testBit q && decide (w_at (w_pt s L) q 6 = q)) 6 = w_rg s L := rfl
    have hR := w_rg_lt (s := s) (L := L)
    refine ⟨b_r m3 172 (b_s (m3 172) 5 (L &&& (w_rg s L ^^^ 4294967295))), ?_, fun c hc => by rw [b_rn (by omega), hm c (by omega)], by rw [b_rs, b_ss], by rw [b_rn (by decide), hm 173 (by omega)], fun i hi => ?_⟩
    · rw [e6]
      simp (disch := omega) only [g5, b_xor, b_and, ↓bc_172, ↓br_172_4, ↓bc_175, ↓bx_175, bl_175, ↓br_172_3, ↓bc_174, ↓bx_174, bl_174, ↓b_t0, ↓b_t1, ↓b_t2, ↓b_t3, ↓b_t4, ↓b_t5, ↓b_t6, Nat.zero_add, Nat.le_refl, b_rs, b_rn, b_r2, b_ss, b_sn, b_bt, b_bf, b_b0, b_b1, b_bw, b_shl, b_or, b_iv, b_jv, b_sI, b_sJ, ↓z_hl, z_b0, z_b1, z_b2, b_and1c, b_and1z, if_true, if_false, nI_add, pk_mul, b_cl, b_lt, b_le, b_eq, b_eq0, b_le0, b_0lt, b_0le, b_lt0]
    · rw [b_rn (by decide), hv i hi]
      by_cases c2 : (w_rg s L).testBit i = true
      · rw [if_pos ⟨hi, c2⟩, if_pos c2]
      · rw [if_neg (fun g => c2 g.2), if_neg c2]
  · right
    have key : (w_rg s L).testBit q = (L.testBit q && decide (w_at (w_pt s L) q 6 = q)) := by
      unfold w_rg
      rw [z_set_bt, decide_eq_true (show q < 6 by omega), Bool.true_and]
    have skip : (L.testBit q && decide (w_at (w_pt s L) q 6 = q)) = false → ∀ i, i < 6 → m3 175 i = if i < q + 1 ∧ (w_rg s L).testBit i = true then w_br s (w_pt s L i) else m 175 i := fun g i hi => by
      rw [hv i hi]
      by_cases c2 : i = q
      · subst c2
        rw [if_neg (fun g2 => absurd g2.1 (by omega)), if_neg (fun g2 => by rw [key, g] at g2; exact absurd g2.2 (by decide))]
      · by_cases c3 : i < q ∧ (w_rg s L).testBit i = true
        · rw [if_pos c3, if_pos ⟨by omega, c3.2⟩]
        · rw [if_neg c3, if_neg (fun g2 => c3 ⟨by omega, g2.2⟩)]
    cases hb : L.testBit q with
    | false =>
      have hf : (L.testBit q && decide (w_at (w_pt s L) q 6 = q)) = false := by rw [hb]; rfl
      refine ⟨k - 1, [.ref 172, .int (nI (z_set (fun q => L.testBit q && decide (w_at (w_pt s L) q 6 = q)) q)), .int (nI (q + 1))], _, by omega, ⟨q + 1, m3, by omega, by rw [z_set_f hf], rfl, hm, skip hf⟩, ?_⟩
      simp (disch := omega) only [g5, s_EM_isIn, hb, ↓bc_172, ↓br_172_4, ↓bc_175, ↓bx_175, bl_175, ↓br_172_3, ↓bc_174, ↓bx_174, bl_174, ↓b_t0, ↓b_t1, ↓b_t2, ↓b_t3, ↓b_t4, ↓b_t5, ↓b_t6, Nat.zero_add, Nat.le_refl, b_rs, b_rn, b_r2, b_ss, b_sn, b_bt, b_bf, b_b0, b_b1, b_bw, b_shl, b_or, b_iv, b_jv, b_sI, b_sJ, ↓z_hl, z_b0, z_b1, z_b2, b_and1c, b_and1z, if_true, if_false, nI_add, pk_mul, b_cl, b_lt, b_le, b_eq, b_eq0, b_le0, b_0lt, b_0le, b_lt0]
      rw [if_neg (by omega)]
    | true =>
      have s1 := s_Ri_standsInRing (X := X) (tx := tx) (D := d) (m := m3) (j := j) (w := w) (s := s) (by omega) (L := L) (q := q) (by omega) hb (fun i hi h2 => by rw [hm 174 (by omega)]; exact h74 i hi h2)
      by_cases c2 : w_at (w_pt s L) q 6 = q
      · have ht : (L.testBit q && decide (w_at (w_pt s L) q 6 = q)) = true := by rw [hb, decide_eq_true c2]; rfl
        rw [decide_eq_true c2] at s1
        have hp := (w_pt_in (s := s) (q := q) hb (by omega)).1
        have h1 : m3 174 q = w_pt s L q := by rw [hm 174 (by omega)]; exact h74 q (by omega) hb
        have h2 : m3 173 (w_pt s L q) = w_br s (w_pt s L q) := by rw [hm 173 (by omega)]; exact h73 _ hp
        have s3 := s_Ri_broughtBy (X := X) (tx := tx) (D := d) (m := m3) (j := j) (w := w) (by omega) (q := w_pt s L q) hp
        rw [h2] at s3
        have hz := z_set_lt (fun q => L.testBit q && decide (w_at (w_pt s L) q 6 = q)) q
        have hp2 : 2 ^ q ≤ 2 ^ 6 := Nat.pow_le_pow_right (by decide) (by omega)
        refine ⟨k - 1, [.ref 172, .int (nI (z_set (fun q => L.testBit q && decide (w_at (w_pt s L) q 6 = q)) q ||| 2 ^ q)), .int (nI (q + 1))], b_h (b_r m3 175 (b_s (m3 175) q (w_br s (w_pt s L q)))) j w, by omega, ⟨q + 1, _, by omega, by rw [z_set_t ht], rfl, z_fr_r hm (by omega), fun i hi => ?_⟩, ?_⟩
        · rw [b_rs]
          by_cases c3 : i = q
          · rw [c3, b_ss, if_pos ⟨by omega, by rw [key]; exact ht⟩]
          · rw [b_sn c3, hv i hi]
            by_cases c4 : i < q ∧ (w_rg s L).testBit i = true
            · rw [if_pos c4, if_pos ⟨by omega, c4.2⟩]
            · rw [if_neg c4, if_neg (fun g2 => c4 ⟨by omega, g2.2⟩)]
        · simp (disch := omega) only [g5, s_EM_isIn, hb, s1, h1, s3, Nat.one_ne_zero, ↓bc_172, ↓br_172_4, ↓bc_175, ↓bx_175, bl_175, ↓br_172_3, ↓bc_174, ↓bx_174, bl_174, ↓b_t0, ↓b_t1, ↓b_t2, ↓b_t3, ↓b_t4, ↓b_t5, ↓b_t6, Nat.zero_add, Nat.le_refl, b_rs, b_rn, b_r2, b_ss, b_sn, b_bt, b_bf, b_b0, b_b1, b_bw, b_shl, b_or, b_iv, b_jv, b_sI, b_sJ, ↓z_hl, z_b0, z_b1, z_b2, b_and1c, b_and1z, if_true, if_false, nI_add, pk_mul, b_cl, b_lt, b_le, b_eq, b_eq0, b_le0, b_0lt, b_0le, b_lt0]
          rw [if_neg (by omega)]
      · have hf : (L.testBit q && decide (w_at (w_pt s L) q 6 = q)) = false := by rw [decide_eq_false c2, Bool.and_false]
        rw [decide_eq_false c2] at s1
        refine ⟨k - 1, [.ref 172, .int (nI (z_set (fun q => L.testBit q && decide (w_at (w_pt s L) q 6 = q)) q)), .int (nI (q + 1))], _, by omega, ⟨q + 1, m3, by omega, by rw [z_set_f hf], rfl, hm, skip hf⟩, ?_⟩
        simp (disch := omega) only [g5, s_EM_isIn, hb, s1, Nat.one_ne_zero, ↓bc_172, ↓br_172_4, ↓bc_175, ↓bx_175, bl_175, ↓br_172_3, ↓bc_174, ↓bx_174, bl_174, ↓b_t0, ↓b_t1, ↓b_t2, ↓b_t3, ↓b_t4, ↓b_t5, ↓b_t6, Nat.zero_add, Nat.le_refl, b_rs, b_rn, b_r2, b_ss, b_sn, b_bt, b_bf, b_b0, b_b1, b_bw, b_shl, b_or, b_iv, b_jv, b_sI, b_sJ, ↓z_hl, z_b0, z_b1, z_b2, b_and1c, b_and1z, if_true, if_false, nI_add, pk_mul, b_cl, b_lt, b_le, b_eq, b_eq0, b_le0, b_0lt, b_0le, b_lt0]
        rw [if_neg (by omega)]
theorem s_Ri_form (hF : c_F m 4 s) (hA : c_A m 26 s) (hS : i_S s) (hI : i_D s) (hD : 8 ≤ D) : ∃ m2, a_ex X tx a_T D 136 [.ref 172] (b_h m j w) = some (b_h m2 j w, none) ∧ z_fr 172 175 m m2 ∧ (∀ q, q < 6 → m2 173 q = w_br s q) ∧ ∀ q, q < 6 → m2 175 q = (w_rd s 6).2 q := by
  obtain ⟨d, rfl⟩ : ∃ d, D = d + 1 := ⟨D - 1, by omega⟩
  have hE := i_S_E hS
  obtain ⟨m2, e1, g1, g2, g3, g4⟩ := s_Ri_come (X := X) (tx := tx) (D := d) (j := j) (w := w) hF hA hS hI (by omega)
  rw [e_Ri_form, q_Ri_form_0]
  simp (disch := omega) only [e1, ↓bc_172, ↓b_t0, ↓b_t1, ↓b_t2, ↓b_t3, ↓b_t4, ↓b_t5, ↓b_t6, Nat.zero_add, Nat.le_refl, b_rs, b_rn, b_r2, b_ss, b_sn, b_bt, b_bf, b_b0, b_b1, b_bw, b_shl, b_or, b_iv, b_jv, b_sI, b_sJ, ↓z_hl, z_b0, z_b1, z_b2, b_and1c, b_and1z, if_true, if_false, nI_add, pk_mul, b_cl, b_lt, b_le, b_eq, b_eq0, b_le0, b_0lt, b_0le, b_lt0]
  rw [← l_Ri_form_4]
  refine z_run (Q := fun r => ∃ m2, r = some (b_h m2 j w, none) ∧ z_fr 172 175 m m2 ∧ (∀ q, q < 6 → m2 173 q = w_br s q) ∧ ∀ q, q < 6 → m2 175 q = (w_rd s 6).2 q) (fun k L2 h => ∃ n m3, k + n = 6 ∧ L2 = [.ref 172, .int (nI n)] ∧ h = b_h m3 j w ∧ z_fr 172 175 m m3 ∧ m3 172 5 = (w_rd s n).1 ∧ (∀ q, q < 6 → m3 173 q = w_br s q) ∧ ∀ q, q < 6 → m3 175 q = (w_rd s n).2 q) 0 ?_ 6 _ _ ⟨0, m2, by omega, rfl, rfl, g1, g2, g3, fun q hq => (g4 q hq)⟩ _ (z_fu (by omega))
  rintro k L2 h ⟨n, m3, hk, rfl, rfl, hm, h5, h73, h75⟩ f _
  rw [l_Ri_form_4, q_Ri_form_4]
  have hlt := w_rd_lt (s := s) n
  by_cases c : n = 6
  · left
    subst c
    refine ⟨m3, ?_, hm, h73, h75⟩
    simp (disch := omega) only [↓bc_172, ↓b_t0, ↓b_t1, ↓b_t2, ↓b_t3, ↓b_t4, ↓b_t5, ↓b_t6, Nat.zero_add, Nat.le_refl, b_rs, b_rn, b_r2, b_ss, b_sn, b_bt, b_bf, b_b0, b_b1, b_bw, b_shl, b_or, b_iv, b_jv, b_sI, b_sJ, ↓z_hl, z_b0, z_b1, z_b2, b_and1c, b_and1z, if_true, if_false, nI_add, pk_mul, b_cl, b_lt, b_le, b_eq, b_eq0, b_le0, b_0lt, b_0le, b_lt0]
  · by_cases c2 : (w_rd s n).1 = 0
    · left
      refine ⟨m3, ?_, hm, h73, fun q hq => by rw [w_rd_last (by omega) c2]; exact h75 q hq⟩
      rw [c2] at h5
      simp (disch := omega) only [h5, ↓bc_172, ↓b_t0, ↓b_t1, ↓b_t2, ↓b_t3, ↓b_t4, ↓b_t5, ↓b_t6, Nat.zero_add, Nat.le_refl, b_rs, b_rn, b_r2, b_ss, b_sn, b_bt, b_bf, b_b0, b_b1, b_bw, b_shl, b_or, b_iv, b_jv, b_sI, b_sJ, ↓z_hl, z_b0, z_b1, z_b2, b_and1c, b_and1z, if_true, if_false, nI_add, pk_mul, b_cl, b_lt, b_le, b_eq, b_eq0, b_le0, b_0lt, b_0le, b_lt0]
      rw [if_neg (by omega)]
    · right
      have hF3 : c_F m3 4 s := c_F_ext (fun c p1 p2 => hm c (by omega)) (fun _ _ => rfl) hS hF
      have hA3 : c_A m3 26 s := c_A_ext (fun c p1 p2 => hm c (by omega)) hA
      have hc : ∀ o, o < 6 → ((w_rd s n).1).testBit o = true → w_br s o ≠ 4294967295 := fun o _ ho => (w_l0_bit (w_rd_sub n ho)).2
      obtain ⟨m4, s1, k1, k2⟩ := s_Ri_point (X := X) (tx := tx) (D := d) (m := m3) (j := j) (w := w) hF3 hA3 hS hI (by omega) (L := (w_rd s n).1) hlt h5 h73 hc
      obtain ⟨m5, s2, k3, k4, k5, k6⟩ := s_Ri_leaveInRings (X := X) (tx := tx) (D := d) (m := m4) (j := j) (w := w) (s := s) hE (by omega) (L := (w_rd s n).1) hlt (by rw [k1 172 (by omega)]; exact h5) (fun i hi => by rw [k1 173 (by omega)]; exact h73 i hi) k2
      refine ⟨k - 1, [.ref 172, .int (nI (n + 1))], b_h m5 j w, by omega, ⟨n + 1, m5, by omega, rfl, rfl, fun c hc => by rw [k3 c hc, k1 c (by omega), hm c hc], k4, fun q hq => by rw [k5, k1 173 (by omega)]; exact h73 q hq, fun q hq => ?_⟩, ?_⟩
      · rw [k6 q hq, k1 175 (by omega), h75 q hq]
        rfl
      · simp (disch := omega) only [h5, s1, s2, ↓bc_172, ↓b_t0, ↓b_t1, ↓b_t2, ↓b_t3, ↓b_t4, ↓b_t5, ↓b_t6, Nat.zero_add, Nat.le_refl, b_rs, b_rn, b_r2, b_ss, b_sn, b_bt, b_bf, b_b0, b_b1, b_bw, b_shl, b_or, b_iv, b_jv, b_sI, b_sJ, ↓z_hl, z_b0, z_b1, z_b2, b_and1c, b_and1z, if_true, if_false, nI_add, pk_mul, b_cl, b_lt, b_le, b_eq, b_eq0, b_le0, b_0lt, b_0le, b_lt0]
        rw [if_neg (by omega), if_neg c2]
/-- how many have another one then -/
def w_chg (s : Nat → Nat) : Nat := z_sum (fun q => b_b (decide ((w_rd s 6).2 q ≠ w_br s q))) 6
theorem w_won_b {q : Nat} (hE : s 3 ≤ 10) (hq : q < 6) : (w_rd s 6).2 q = 4294967295 ∨ (w_rd s 6).2 q < 10 := by
  rcases w_rd_won (s := s) hq 6 with h | h
  · exact Or.inl h
  · exact Or.inr (by omega)
theorem w_chg_le : ∀ n, z_sum (fun q => b_b (decide ((w_rd s 6).2 q ≠ w_br s q))) n ≤ n := fun n => by
  have := z_sum_le (g := fun q => b_b (decide ((w_rd s 6).2 q ≠ w_br s q))) (b := 1) n (fun q _ => by have := b_b_lt (decide ((w_rd s 6).2 q ≠ w_br s q)); omega)
  omega
theorem s_Ri_changed (hE : s 3 ≤ 10) (hD : 1 ≤ D) (h73 : ∀ q, q < 6 → m 173 q = w_br s q) (h75 : ∀ q, q < 6 → m 175 q = (w_rd s 6).2 q) : a_ex X tx a_T D 143 [.ref 172] (b_h m j w) = some ((b_h m j w), some (.int (nI (w_chg s)))) := by
  obtain ⟨d, rfl⟩ : ∃ d, D = d + 1 := ⟨D - 1, by omega⟩
  rw [e_Ri_changed, q_Ri_changed_0]
  rw [← l_Ri_changed_4]
  refine z_run (Q := fun r => r = some (b_h m j w, some (.int (nI (w_chg s))))) (fun k L2 h => ∃ q, k + q = 6 ∧ L2 = [.ref 172, .int (nI (z_sum (fun q => b_b (decide ((w_rd s 6).2 q ≠ w_br s q))) q)), .int (nI q)] ∧ h = b_h m j w) 0 ?_ 6 _ _ ⟨0, by omega, rfl, rfl⟩ _ (z_fu (by omega))
  rintro k L2 h ⟨q, hk, rfl, rfl⟩ f _
  rw [l_Ri_changed_4, q_Ri_changed_4]
  by_cases c : q = 6
  · left
    subst c
    simp (disch := omega) only [↓bc_172, ↓br_172_4, ↓bc_175, ↓bx_175, bl_175, ↓br_172_2, ↓bc_173, ↓bx_173, bl_173, ↓b_t0, ↓b_t1, ↓b_t2, ↓b_t3, ↓b_t4, ↓b_t5, ↓b_t6, Nat.zero_add, Nat.le_refl, b_rs, b_rn, b_r2, b_ss, b_sn, b_bt, b_bf, b_b0, b_b1, b_bw, b_shl, b_or, b_iv, b_jv, b_sI, b_sJ, ↓z_hl, z_b0, z_b1, z_b2, b_and1c, b_and1z, if_true, if_false, nI_add, pk_mul, b_cl, b_lt, b_le, b_eq, b_eq0, b_le0, b_0lt, b_0le, b_lt0]
    rfl
  · right
    have h1 := h73 q (by omega)
    have h2 := h75 q (by omega)
    have h3 := w_br_b (s := s) (q := q) hE
    have h4 := w_won_b (s := s) (q := q) hE (by omega)
    have hle := w_chg_le (s := s) q
    have e1 : z_sum (fun q => b_b (decide ((w_rd s 6).2 q ≠ w_br s q))) (q + 1) = z_sum (fun q => b_b (decide ((w_rd s 6).2 q ≠ w_br s q))) q + b_b (decide ((w_rd s 6).2 q ≠ w_br s q)) := rfl
    by_cases c2 : (w_rd s 6).2 q = w_br s q
    · rw [decide_eq_false (fun g => g c2), b_bf] at e1
      refine ⟨k - 1, [.ref 172, .int (nI (z_sum (fun q => b_b (decide ((w_rd s 6).2 q ≠ w_br s q))) q)), .int (nI (q + 1))], _, by omega, ⟨q + 1, by omega, by rw [e1]; rfl, rfl⟩, ?_⟩
      simp (disch := omega) only [h1, h2, ↓bc_172, ↓br_172_4, ↓bc_175, ↓bx_175, bl_175, ↓br_172_2, ↓bc_173, ↓bx_173, bl_173, ↓b_t0, ↓b_t1, ↓b_t2, ↓b_t3, ↓b_t4, ↓b_t5, ↓b_t6, Nat.zero_add, Nat.le_refl, b_rs, b_rn, b_r2, b_ss, b_sn, b_bt, b_bf, b_b0, b_b1, b_bw, b_shl, b_or, b_iv, b_jv, b_sI, b_sJ, ↓z_hl, z_b0, z_b1, z_b2, b_and1c, b_and1z, if_true, if_false, nI_add, pk_mul, b_cl, b_lt, b_le, b_eq, b_eq0, b_le0, b_0lt, b_0le, b_lt0]
      rw [if_neg (by omega), if_pos c2]
    · rw [decide_eq_true c2, b_bt] at e1
      refine ⟨k - 1, [.ref 172, .int (nI (z_sum (fun q => b_b (decide ((w_rd s 6).2 q ≠ w_br s q))) q + 1)), .int (nI (q + 1))], _, by omega, ⟨q + 1, by omega, by rw [e1], rfl⟩, ?_⟩
      simp (disch := omega) only [h1, h2, ↓bc_172, ↓br_172_4, ↓bc_175, ↓bx_175, bl_175, ↓br_172_2, ↓bc_173, ↓bx_173, bl_173, ↓b_t0, ↓b_t1, ↓b_t2, ↓b_t3, ↓b_t4, ↓b_t5, ↓b_t6, Nat.zero_add, Nat.le_refl, b_rs, b_rn, b_r2, b_ss, b_sn, b_bt, b_bf, b_b0, b_b1, b_bw, b_shl, b_or, b_iv, b_jv, b_sI, b_sJ, ↓z_hl, z_b0, z_b1, z_b2, b_and1c, b_and1z, if_true, if_false, nI_add, pk_mul, b_cl, b_lt, b_le, b_eq, b_eq0, b_le0, b_0lt, b_0le, b_lt0]
      rw [if_neg (by omega), if_neg c2]
/-- behind the trade -/
def w_hand (s g : Nat → Nat) : Nat → (Nat → Nat)
  | 0 => s
  | n + 1 => if g n = 4294967295 then w_hand s g n else b_s (w_hand s g n) (241 + g n) n
theorem i_D_hand {e q : Nat} (hS : i_S s) (hI : i_D s) (he : e < s 3) (hp : s (241 + e) ≠ 4294967295) (hq : q < s 1) : i_D (b_s s (241 + e) q) := by
  have hE := i_S_E hS
  have hM := i_S_M hS
  have lo : ∀ i, i < 241 ∨ 251 ≤ i → b_s s (241 + e) q i = s i := fun i hi => b_sn (by omega)
  have ha2 : ∀ k, k < 10 → (b_s s (241 + e) q (241 + k) = 4294967295 ↔ s (241 + k) = 4294967295) := fun k hk => by
    by_cases c : k = e
    · rw [c, b_ss]
      exact ⟨fun g => by omega, fun g => absurd g hp⟩
    · rw [b_sn (by omega)]
  have sums : ∀ (g r : Nat → Nat), (∀ k, k < s 3 → g k = r k) → z_sum g (s 3) = z_sum r (s 3) := fun g r h => z_sum_congr _ h
  refine ⟨by rw [lo 157 (by omega)]; exact i_D_da hI, ?_, fun i h1 h2 => by rw [lo 1 (by omega)] at h1; rw [lo (159 + i) (by omega)]; exact i_D_coz hI i h1 h2, fun t ht k hk => by rw [lo _ (by omega)]; exact i_D_op hI t ht k hk, fun t ht k h1 h2 => by rw [lo 0 (by omega)] at h1; rw [lo _ (by omega)]; exact i_D_opk hI t ht k h1 h2, fun t h1 ht k hk => by rw [lo 2 (by omega)] at h1; rw [lo _ (by omega)]; exact i_D_opt hI t h1 ht k hk, fun k hk => ?_, fun k hk => by rw [lo _ (by omega)]; exact i_D_pr hI k hk, fun k hk => ?_, fun k hk => ?_, fun k hk h1 => ?_, by rw [lo 281 (by omega)]; exact i_D_we hI, fun k hk => ?_, fun k hk h1 h2 h3 => ?_, fun k hk q hq => by rw [lo _ (by omega)]; exact i_D_sh hI k hk q hq, fun k hk q h1 hq => by rw [lo 0 (by omega)] at h1; rw [lo _ (by omega)]; exact i_D_shk hI k hk q h1 hq, fun t ht => ?_, fun t ht => ?_, ?_⟩
  · rw [z_sum_congr (k := fun i => s (159 + i)) 6 (fun k hk => lo _ (by omega))]
    exact i_D_co hI
  · rw [lo 3 (by omega)] at hk
    rw [lo 1 (by omega)]
    by_cases c : k = e
    · rw [c, b_ss]; exact Or.inr hq
    · rw [b_sn (by omega)]; exact i_D_ha hI k hk
  · rw [lo 3 (by omega)] at hk
    rw [lo _ (by omega), lo 2 (by omega)]; exact i_D_pu hI k hk
  · rw [lo 3 (by omega)] at hk
    rw [lo (261 + k) (by omega), i_D_pz hI k hk]
    exact not_congr (ha2 k (by omega)).symm
  · rw [lo 3 (by omega)] at hk
    rw [ha2 k (by omega)] at h1
    rw [lo (271 + k) (by omega), lo 157 (by omega)]; exact i_D_po hI k hk h1
  · rw [lo 281 (by omega)] at hk
    obtain ⟨g1, g2, g3⟩ := i_D_wp hI k hk
    exact ⟨by rw [lo 3 (by omega)]; exact g1, (ha2 k (by omega)).mpr g2, by rw [lo (147 + k) (by omega)]; exact g3⟩
  · rw [lo 3 (by omega)] at hk
    rw [ha2 k (by omega)] at h1
    rw [lo (147 + k) (by omega)] at h2
    rw [lo 281 (by omega)] at h3
    rw [lo 157 (by omega), lo (271 + k) (by omega), lo (147 + k) (by omega)]
    exact i_D_wa hI k hk h1 h2 h3
  · rw [lo 2 (by omega)] at ht
    have hT := i_S_T hS
    rw [lo (225 + t) (by omega), lo 3 (by omega), i_D_pg hI t ht]
    exact sums _ _ (fun k hk => by rw [lo (261 + k) (by omega)])
  · rw [lo 2 (by omega)] at ht
    have hT := i_S_T hS
    rw [lo (233 + t) (by omega), lo 3 (by omega), i_D_wo hI t ht]
    exact sums _ _ (fun k hk => by rw [lo (261 + k) (by omega), lo 281 (by omega)])
  · rw [lo 158 (by omega), lo 3 (by omega), i_D_dk hI]
    exact sums _ _ (fun k hk => by rw [lo 281 (by omega)])
theorem c_A_hand {e q : Nat} (hA : c_A m 26 s) (hS : i_S s) (he : e < s 3) (hp : s (241 + e) ≠ 4294967295) (hq : q < s 1) : c_A (b_r m 31 (b_s (m 31) e q)) 26 (b_s s (241 + e) q) := by
  have hE := i_S_E hS
  have hM := i_S_M hS
  have lo : ∀ i, i < 241 ∨ 251 ≤ i → b_s s (241 + e) q i = s i := fun i hi => b_sn (by omega)
  have ha2 : ∀ k, k < 10 → (b_s s (241 + e) q (241 + k) = 4294967295 ↔ s (241 + k) = 4294967295) := fun k hk => by
    by_cases c : k = e
    · rw [c, b_ss]
      exact ⟨fun g => by omega, fun g => absurd g hp⟩
    · rw [b_sn (by omega)]
  have eo : ∀ c, c ≠ 31 → (b_r m 31 (b_s (m 31) e q)) c = m c := fun c hc => b_rn hc
  refine ⟨by rw [eo 26 (by decide), lo 157 (by omega)]; exact c_A_da hA, fun i hi => ?_, fun i hi => ?_, fun i hi => ?_, fun t ht k hk => ?_, fun k hk => ?_, fun k hk => ?_, fun k hk => ?_, fun k hk => ?_, fun k hk => ?_, fun k hk => ?_, fun k hk h1 n hn => ?_⟩
  · rw [lo 1 (by omega)] at hi; rw [eo 27 (by decide), lo _ (by omega)]; exact c_A_co hA i hi
  · rw [lo 1 (by omega)] at hi; rw [eo 28 (by decide), lo _ (by omega)]; exact c_A_bo hA i hi
  · rw [lo 1 (by omega)] at hi; rw [eo 29 (by decide), lo _ (by omega)]; exact c_A_pp hA i hi
  · rw [eo 30 (by decide), lo _ (by omega)]; exact c_A_op hA t ht k hk
  · rw [lo 3 (by omega)] at hk
    show (b_r m 31 (b_s (m 31) e q)) 31 k = _
    rw [b_rs]
    by_cases c : k = e
    · rw [c, b_ss, b_ss]
    · rw [b_sn c, b_sn (by omega)]; exact c_A_ha hA k hk
  · rw [lo 3 (by omega)] at hk; rw [eo 32 (by decide), lo _ (by omega)]; exact c_A_pr hA k hk
  · rw [lo 3 (by omega)] at hk
    rw [eo 33 (by decide), lo (261 + k) (by omega), show m 33 k = _ from c_A_pl hA k hk]
    have := ha2 k (by omega)
    by_cases c : s (241 + k) = 4294967295
    · rw [if_pos c, if_pos (this.mpr c)]
    · rw [if_neg c, if_neg (fun g => c (this.mp g))]
  · rw [lo 3 (by omega)] at hk
    rw [eo 34 (by decide), lo (271 + k) (by omega), show m 34 k = _ from c_A_pd hA k hk]
    have := ha2 k (by omega)
    by_cases c : s (241 + k) = 4294967295
    · rw [if_pos c, if_pos (this.mpr c)]
    · rw [if_neg c, if_neg (fun g => c (this.mp g))]
  · rw [lo 3 (by omega)] at hk; rw [eo 35 (by decide), lo 281 (by omega)]; exact c_A_we hA k hk
  · rw [lo 3 (by omega)] at hk; rw [eo 36 (by decide), lo _ (by omega)]; exact c_A_so hA k hk
  · rw [lo 3 (by omega)] at hk
    rw [lo 0 (by omega)] at hn
    have hK := i_S_K hS
    rw [eo 37 (by decide), lo (292 + 6 * k + n) (by omega)]
    exact c_A_sh hA k hk ((ha2 k (by omega)).mp h1) n hn
theorem w_br_man {q : Nat} (hS : i_S s) (hI : i_D s) (hq : q < 6) (h : w_br s q ≠ 4294967295) : q < s 1 := by
  obtain ⟨h1, h2⟩ := w_br_lt h
  have := i_D_ha hI _ h1
  omega
theorem w_hand_ok (hS : i_S s) (hI : i_D s) : ∀ n, n ≤ 6 → i_S (w_hand s (w_rd s 6).2 n) ∧ i_D (w_hand s (w_rd s 6).2 n) ∧ (∀ i, i < 241 ∨ 251 ≤ i → w_hand s (w_rd s 6).2 n i = s i) ∧ ∀ e, e < s 3 → (w_hand s (w_rd s 6).2 n (241 + e) = 4294967295 ↔ s (241 + e) = 4294967295)
  | 0, _ => ⟨hS, hI, fun _ _ => rfl, fun _ _ => Iff.rfl⟩
  | n + 1, hn => by
    obtain ⟨h1, h2, h3, h4⟩ := w_hand_ok hS hI n (by omega)
    have hE := i_S_E hS
    have hM := i_S_M hS
    have hw : w_hand s (w_rd s 6).2 (n + 1) = if (w_rd s 6).2 n = 4294967295 then w_hand s (w_rd s 6).2 n else b_s (w_hand s (w_rd s 6).2 n) (241 + (w_rd s 6).2 n) n := rfl
    rw [hw]
    by_cases c : (w_rd s 6).2 n = 4294967295
    · rw [if_pos c]; exact ⟨h1, h2, h3, h4⟩
    · rw [if_neg c]
      obtain ⟨g1, g2, g3⟩ := (w_rd_won (s := s) (q := n) (by omega) 6).resolve_left c
      have hq := w_br_man hS hI (by omega) g3
      have e3 := h3 3 (by omega)
      have e1 := h3 1 (by omega)
      have hp : w_hand s (w_rd s 6).2 n (241 + (w_rd s 6).2 n) ≠ 4294967295 := fun g => by have := (h4 _ g1).mp g; omega
      refine ⟨i_S_ext (fun i hi => b_sn (by omega)) h1, i_D_hand h1 h2 (by rw [e3]; exact g1) hp (by rw [e1]; exact hq), fun i hi => by rw [b_sn (by omega)]; exact h3 i hi, fun e he => ?_⟩
      by_cases c2 : e = (w_rd s 6).2 n
      · rw [c2, b_ss]
        exact ⟨fun g => by omega, fun g => by omega⟩
      · rw [b_sn (by omega)]; exact h4 e he
theorem s_Ri_handOver (hF : c_F m 4 s) (hA : c_A m 26 s) (hS : i_S s) (hI : i_D s) (hD : 2 ≤ D) (h75 : ∀ q, q < 6 → m 175 q = (w_rd s 6).2 q) : ∃ m2, a_ex X tx a_T D 144 [.ref 172] (b_h m j w) = some (b_h m2 j w, none) ∧ z_fr 31 31 m m2 ∧ c_A m2 26 (w_hand s (w_rd s 6).2 6) := by
  obtain ⟨d, rfl⟩ : ∃ d, D = d + 1 := ⟨D - 1, by omega⟩
  have hE := i_S_E hS
  have hM := i_S_M hS
  rw [e_Ri_handOver, q_Ri_handOver_0, ← l_Ri_handOver_2]
  refine z_run (Q := fun r => ∃ m2, r = some (b_h m2 j w, none) ∧ z_fr 31 31 m m2 ∧ c_A m2 26 (w_hand s (w_rd s 6).2 6)) (fun k L2 h => ∃ q m3, k + q = 6 ∧ L2 = [.ref 172, .int (nI q)] ∧ h = b_h m3 j w ∧ z_fr 31 31 m m3 ∧ c_A m3 26 (w_hand s (w_rd s 6).2 q)) 0 ?_ 6 _ _ ⟨0, m, by omega, rfl, rfl, z_fr_rf, hA⟩ _ (z_fu (by omega))
  rintro k L2 h ⟨q, m3, hk, rfl, rfl, hm, hv⟩ f _
  rw [l_Ri_handOver_2, q_Ri_handOver_2]
  by_cases c : q = 6
  · left
    subst c
    refine ⟨m3, ?_, hm, hv⟩
    simp (disch := omega) only [↓bc_172, ↓br_172_0, ↓bc_4, ↓br_172_4, ↓bc_175, ↓bx_175, bl_175, ↓br_172_1, ↓bc_26, ↓br_26_6, ↓bc_31, ↓bx_31, bl_31, ↓b_t0, ↓b_t1, ↓b_t2, ↓b_t3, ↓b_t4, ↓b_t5, ↓b_t6, Nat.zero_add, Nat.le_refl, b_rs, b_rn, b_r2, b_ss, b_sn, b_bt, b_bf, b_b0, b_b1, b_bw, b_shl, b_or, b_iv, b_jv, b_sI, b_sJ, ↓z_hl, z_b0, z_b1, z_b2, b_and1c, b_and1z, if_true, if_false, nI_add, pk_mul, b_cl, b_lt, b_le, b_eq, b_eq0, b_le0, b_0lt, b_0le, b_lt0]
  · right
    have hF3 : c_F m3 4 s := c_F_ext (fun c p1 p2 => hm c (by omega)) (fun _ _ => rfl) hS hF
    have h1 : m3 175 q = (w_rd s 6).2 q := by rw [hm 175 (by omega)]; exact h75 q (by omega)
    have hwb := w_won_b (s := s) (q := q) hE (by omega)
    have s1 := s_Fa_isEnding (X := X) (tx := tx) (D := d) (m := m3) (j := j) (w := w) hF3 hS (by omega) (n := (w_rd s 6).2 q) (by omega)
    have hw : w_hand s (w_rd s 6).2 (q + 1) = if (w_rd s 6).2 q = 4294967295 then w_hand s (w_rd s 6).2 q else b_s (w_hand s (w_rd s 6).2 q) (241 + (w_rd s 6).2 q) q := rfl
    by_cases c2 : (w_rd s 6).2 q = 4294967295
    · rw [if_pos c2] at hw
      rw [decide_eq_false (show ¬ (w_rd s 6).2 q < s 3 by omega)] at s1
      refine ⟨k - 1, [.ref 172, .int (nI (q + 1))], _, by omega, ⟨q + 1, m3, by omega, rfl, rfl, hm, by rw [hw]; exact hv⟩, ?_⟩
      simp (disch := omega) only [h1, s1, ↓bc_172, ↓br_172_0, ↓bc_4, ↓br_172_4, ↓bc_175, ↓bx_175, bl_175, ↓br_172_1, ↓bc_26, ↓br_26_6, ↓bc_31, ↓bx_31, bl_31, ↓b_t0, ↓b_t1, ↓b_t2, ↓b_t3, ↓b_t4, ↓b_t5, ↓b_t6, Nat.zero_add, Nat.le_refl, b_rs, b_rn, b_r2, b_ss, b_sn, b_bt, b_bf, b_b0, b_b1, b_bw, b_shl, b_or, b_iv, b_jv, b_sI, b_sJ, ↓z_hl, z_b0, z_b1, z_b2, b_and1c, b_and1z, if_true, if_false, nI_add, pk_mul, b_cl, b_lt, b_le, b_eq, b_eq0, b_le0, b_0lt, b_0le, b_lt0]
      rw [if_neg (by omega)]
    · rw [if_neg c2] at hw
      obtain ⟨g1, g2, g3⟩ := (w_rd_won (s := s) (q := q) (by omega) 6).resolve_left c2
      have hq := w_br_man hS hI (by omega) g3
      obtain ⟨k1, k2, k3, k4⟩ := w_hand_ok hS hI q (by omega)
      have e3 := k3 3 (by omega)
      have e1 := k3 1 (by omega)
      have hp : w_hand s (w_rd s 6).2 q (241 + (w_rd s 6).2 q) ≠ 4294967295 := fun g => by have := (k4 _ g1).mp g; omega
      rw [decide_eq_true g1] at s1
      refine ⟨k - 1, [.ref 172, .int (nI (q + 1))], b_h (b_r m3 31 (b_s (m3 31) ((w_rd s 6).2 q) q)) j w, by omega, ⟨q + 1, _, by omega, rfl, rfl, z_fr_r hm (by omega), by rw [hw]; exact c_A_hand hv k1 (by rw [e3]; exact g1) hp (by rw [e1]; exact hq)⟩, ?_⟩
      simp (disch := omega) only [h1, s1, Nat.one_ne_zero, ↓bc_172, ↓br_172_0, ↓bc_4, ↓br_172_4, ↓bc_175, ↓bx_175, bl_175, ↓br_172_1, ↓bc_26, ↓br_26_6, ↓bc_31, ↓bx_31, bl_31, ↓b_t0, ↓b_t1, ↓b_t2, ↓b_t3, ↓b_t4, ↓b_t5, ↓b_t6, Nat.zero_add, Nat.le_refl, b_rs, b_rn, b_r2, b_ss, b_sn, b_bt, b_bf, b_b0, b_b1, b_bw, b_shl, b_or, b_iv, b_jv, b_sI, b_sJ, ↓z_hl, z_b0, z_b1, z_b2, b_and1c, b_and1z, if_true, if_false, nI_add, pk_mul, b_cl, b_lt, b_le, b_eq, b_eq0, b_le0, b_0lt, b_0le, b_lt0]
      rw [if_neg (by omega)]
end RJ
