/-! MATCHES: covers -/
/-- what a question about a set may change -/
def w_same3 (m m2 : Nat → Nat → Nat) : Prop :=
  (∀ c, c = 2 ∨ c = 235 ∨ (4 ≤ c ∧ c ≤ 14) ∨ (26 ≤ c ∧ c ≤ 37) ∨ (50 ≤ c ∧ c ≤ 151) ∨ (178 ≤ c ∧ c ≤ 233) ∨ c = 236 ∨ c = 241 ∨ c = 251 ∨ c = 254 ∨ c = 256 → m2 c = m c) ∧
  m2 0 14 = m 0 14 ∧ m2 1 2 = m 1 2 ∧ (∀ k, 6 ≤ k → m2 156 k = m 156 k) ∧ (∀ k, k = 2 ∨ k = 15 ∨ k = 23 ∨ k = 43 → m2 234 k = m 234 k)
theorem r_R_asks {m m2 j : Nat → Nat → Nat} (h : r_R m j) (hw : w_same3 m m2) (h5 : m2 162 3 ≤ 10 ∧ ((m2 234 26 = 4294967295 ∧ m2 162 3 = 0) ∨ m2 234 26 = m2 162 3) ∧ ∀ k, k < m2 162 3 → m2 163 k = m2 244 k) (h6 : (m2 234 30 = 4294967295 ∨ m2 234 30 ≤ 8) ∧ ∀ t, t < 8 → m2 171 t = if m2 234 30 ≠ 4294967295 ∧ t < m2 234 30 then m2 247 t else 4294967295) (h7 : m2 234 32 < 2 ∧ m2 167 7 = if m2 234 32 = 0 then 4294967295 else m2 234 31) (h8 : m2 234 34 < 2 ∧ m2 0 15 = if m2 234 34 = 0 then 4294967295 else m2 234 33) (h9 : m2 234 36 < 2 ∧ m2 0 16 = if m2 234 36 = 0 then 4294967295 else m2 234 35) : r_R m2 j := by
  obtain ⟨w1, w2, w3, w4, w7⟩ := hw
  have hS := r_R_st h
  have e6 := w1 236 (by omega)
  refine ⟨by rw [e6]; exact hS, by rw [e6]; exact r_R_dy h, by rw [e6]; exact c_F_ext (fun c p1 p2 => w1 c (by omega)) (fun i hi => rfl) hS (r_R_fa h), by rw [e6]; exact c_A_ext (fun c p1 p2 => w1 c (by omega)) (r_R_af h), ?_, ?_, ?_, ?_, ?_, ?_, h5, h6, h7, h8, h9, r_R_wd h, ?_⟩
  · rw [w3, w7 2 (by omega), w1 2 (by omega), w1 235 (by omega)]; exact r_R_tp h
  · rw [w2, w7 15 (by omega)]; exact r_R_ft h
  · rw [w1 6 (by omega), w1 7 (by omega), w1 4 (by omega), e6]; exact r_R_nm h
  · rw [e6, w1 241 (by omega), w7 23 (by omega)]; exact r_P_ext (fun c p1 p2 => w1 c (by omega)) (fun _ _ => rfl) (r_R_pa h)
  · rw [w1 148 (by omega), w1 149 (by omega), w1 150 (by omega), w1 151 (by omega), e6]; exact r_R_cl h
  · obtain ⟨g1, g2, g3⟩ := r_R_to h
    rw [w4 6 (by omega), w7 43 (by omega)]
    exact ⟨g1, g2, fun hn k hk => by rw [w4 (7 + k) (by omega), w1 251 (by omega)]; exact g3 hn k hk⟩
  · intro k hk
    obtain ⟨g1, g2, g3⟩ := r_R_im h k hk
    rw [w1 (178 + 28 * k) (by omega), w1 256 (by omega)]
    refine ⟨g1, g2, fun hn => ?_⟩
    have e1 : w_imS m2 k = w_imS m k := by unfold w_imS; rw [w1 254 (by omega)]
    rw [e1]
    exact r_I_ext (fun c p1 p2 => w1 c (by omega)) rfl (g3 hn)
def w_cbest (s : Nat → Nat) (set : Nat) : Nat := w_scan (w_goes s set) (2 ^ s 3)
def w_qcov (s : Nat → Nat) (set : Nat) : Nat := if w_cbest s set = 4294967295 then 4294967295 else w_pc (w_cbest s set)
section CY
variable {X : Nat × (Nat → Int32)} {tx : List Int32} {D : Nat} {m j : Nat → Nat → Nat} {w : (Nat × Nat) × Bool} {s : Nat → Nat}
theorem s_Ma_fewest (hF : c_F m 4 s) (hA : c_A m 26 s) (hS : i_S s) (hI : i_D s) (hD : 7 ≤ D) {set : Nat} (hs : set < 256) : ∃ m2, a_ex X tx a_T D 133 [.ref 167, .int (nI set)] (b_h m j w) = some (b_h m2 j w, some (.int (nI (w_qcov s set)))) ∧ z_fr 167 169 m m2 ∧ m2 167 7 = if w_cbest s set = 4294967295 then m 167 7 else w_cbest s set := by
  obtain ⟨d, rfl⟩ : ∃ d, D = d + 1 := ⟨D - 1, by omega⟩
  rw [e_Ma_fewest, q_Ma_fewest_0]
  have hE := i_S_E hS
  obtain ⟨m2, e1, g1, g2, g3, g4⟩ := s_Ma_gather (X := X) (tx := tx) (D := d) (j := j) (w := w) hF hA hS hI (by omega) hs false
  rw [b_bf] at e1
  have hF2 : c_F m2 4 s := c_F_ext (fun c p1 p2 => g1 c (by omega)) (fun _ _ => rfl) hS hF
  have e4 := c_F4_E hF2
  have hP : 2 ^ s 3 ≤ 1024 := Nat.pow_le_pow_right (n := 2) (by decide) hE
  simp (disch := omega) only [e1, ↓bc_167, ↓br_167_0, ↓bc_4, ↓b_t0, ↓b_t1, ↓b_t2, ↓b_t3, ↓b_t4, ↓b_t5, ↓b_t6, Nat.zero_add, Nat.le_refl, b_rs, b_rn, b_r2, b_ss, b_sn, b_bt, b_bf, b_b0, b_b1, b_bw, b_shl, b_or, b_iv, b_jv, b_sI, b_sJ, ↓z_hl, z_b0, z_b1, z_b2, b_and1c, b_and1z, if_true, if_false, nI_add, pk_mul, b_cl, b_lt, b_le, b_eq, b_eq0, b_le0, b_0lt, b_0le, b_lt0]
  rw [← l_Ma_fewest_8]
  refine z_run (Q := fun r => ∃ m2, r = some (b_h m2 j w, some (.int (nI (w_qcov s set)))) ∧ z_fr 167 169 m m2 ∧ m2 167 7 = if w_cbest s set = 4294967295 then m 167 7 else w_cbest s set) (fun k L h => ∃ n u, k + n = 2 ^ s 3 ∧ L = [.ref 167, .int (nI set), .int (nI (w_scan (w_goes s set) n)), .int (nI n), u] ∧ h = b_h m2 j w) 0 ?_ (2 ^ s 3) _ _ ⟨0, _, by omega, rfl, rfl⟩ _ (z_fu (by omega))
  rintro k L h ⟨n, u, hk, rfl, rfl⟩ f _
  rw [l_Ma_fewest_8, q_Ma_fewest_8]
  have hB := w_scan_lt (w_goes s set) n
  by_cases c : n = 2 ^ s 3
  · left
    rw [c] at hB
    by_cases c2 : w_scan (w_goes s set) (2 ^ s 3) = 4294967295
    · refine ⟨m2, ?_, g1, ?_⟩
      · have e5 : w_qcov s set = 4294967295 := if_pos c2
        rw [e5, c, c2]
        simp (disch := omega) only [e4, ↓bc_167, ↓br_167_0, ↓bc_4, ↓b_t0, ↓b_t1, ↓b_t2, ↓b_t3, ↓b_t4, ↓b_t5, ↓b_t6, Nat.zero_add, Nat.le_refl, b_rs, b_rn, b_r2, b_ss, b_sn, b_bt, b_bf, b_b0, b_b1, b_bw, b_shl, b_or, b_iv, b_jv, b_sI, b_sJ, ↓z_hl, z_b0, z_b1, z_b2, b_and1c, b_and1z, if_true, if_false, nI_add, pk_mul, b_cl, b_lt, b_le, b_eq, b_eq0, b_le0, b_0lt, b_0le, b_lt0]
      · rw [if_pos (show w_cbest s set = 4294967295 from c2), g2 7 (by decide)]
    · refine ⟨b_r m2 167 (b_s (m2 167) 7 (w_cbest s set)), ?_, z_fr_r g1 (by omega), by rw [b_rs, b_ss, if_neg (show ¬ w_cbest s set = 4294967295 from c2)]⟩
      have e5 : w_qcov s set = w_pc (w_cbest s set) := if_neg c2
      have e6 : w_scan (w_goes s set) (2 ^ s 3) = w_cbest s set := rfl
      rw [e6] at c2 hB
      rw [e5, c, e6]
      simp (disch := omega) only [e4, s_Ji_bitCount, ↓bc_167, ↓br_167_0, ↓bc_4, ↓b_t0, ↓b_t1, ↓b_t2, ↓b_t3, ↓b_t4, ↓b_t5, ↓b_t6, Nat.zero_add, Nat.le_refl, b_rs, b_rn, b_r2, b_ss, b_sn, b_bt, b_bf, b_b0, b_b1, b_bw, b_shl, b_or, b_iv, b_jv, b_sI, b_sJ, ↓z_hl, z_b0, z_b1, z_b2, b_and1c, b_and1z, if_true, if_false, nI_add, pk_mul, b_cl, b_lt, b_le, b_eq, b_eq0, b_le0, b_0lt, b_0le, b_lt0]
      rw [if_neg c2]
  · right
    have hw : w_scan (w_goes s set) (n + 1) = if w_goes s set n = true ∧ (w_scan (w_goes s set) n = 4294967295 ∨ w_pc n < w_pc (w_scan (w_goes s set) n)) then n else w_scan (w_goes s set) n := rfl
    have s1 := s_Ma_goWithAll (X := X) (tx := tx) (D := d) (m := m2) (j := j) (w := w) hS (set := set) (x := n) (by omega) g3 g4 (by omega)
    by_cases c2 : w_scan (w_goes s set) n = 4294967295
    · cases hg : w_goes s set n with
      | true =>
        have e5 : w_scan (w_goes s set) (n + 1) = n := by rw [hw, if_pos ⟨hg, Or.inl c2⟩]
        refine ⟨k - 1, [.ref 167, .int (nI set), .int (nI n), .int (nI (n + 1)), .int (nI 1)], _, by omega, ⟨n + 1, _, by omega, by rw [e5], rfl⟩, ?_⟩
        rw [hg] at s1
        rw [c2]
        simp (disch := omega) only [e4, q_Ma_fewest_26, s1, Nat.one_ne_zero, ↓bc_167, ↓br_167_0, ↓bc_4, ↓b_t0, ↓b_t1, ↓b_t2, ↓b_t3, ↓b_t4, ↓b_t5, ↓b_t6, Nat.zero_add, Nat.le_refl, b_rs, b_rn, b_r2, b_ss, b_sn, b_bt, b_bf, b_b0, b_b1, b_bw, b_shl, b_or, b_iv, b_jv, b_sI, b_sJ, ↓z_hl, z_b0, z_b1, z_b2, b_and1c, b_and1z, if_true, if_false, nI_add, pk_mul, b_cl, b_lt, b_le, b_eq, b_eq0, b_le0, b_0lt, b_0le, b_lt0]
        rw [if_neg (by omega)]
      | false =>
        have e5 : w_scan (w_goes s set) (n + 1) = 4294967295 := by rw [hw, if_neg (fun q => absurd (hg.symm.trans q.1) (by decide)), c2]
        refine ⟨k - 1, [.ref 167, .int (nI set), .int (nI 4294967295), .int (nI (n + 1)), .int (nI 1)], _, by omega, ⟨n + 1, _, by omega, by rw [e5], rfl⟩, ?_⟩
        rw [hg] at s1
        rw [c2]
        simp (disch := omega) only [e4, q_Ma_fewest_26, s1, Nat.one_ne_zero, ↓bc_167, ↓br_167_0, ↓bc_4, ↓b_t0, ↓b_t1, ↓b_t2, ↓b_t3, ↓b_t4, ↓b_t5, ↓b_t6, Nat.zero_add, Nat.le_refl, b_rs, b_rn, b_r2, b_ss, b_sn, b_bt, b_bf, b_b0, b_b1, b_bw, b_shl, b_or, b_iv, b_jv, b_sI, b_sJ, ↓z_hl, z_b0, z_b1, z_b2, b_and1c, b_and1z, if_true, if_false, nI_add, pk_mul, b_cl, b_lt, b_le, b_eq, b_eq0, b_le0, b_0lt, b_0le, b_lt0]
        rw [if_neg (by omega)]
    · have hB2 : w_scan (w_goes s set) n < n := by omega
      have hp1 := w_pc_le n
      have hp2 := w_pc_le (w_scan (w_goes s set) n)
      by_cases c3 : w_pc n < w_pc (w_scan (w_goes s set) n)
      · cases hg : w_goes s set n with
        | true =>
          have e5 : w_scan (w_goes s set) (n + 1) = n := by rw [hw, if_pos ⟨hg, Or.inr c3⟩]
          refine ⟨k - 1, [.ref 167, .int (nI set), .int (nI n), .int (nI (n + 1)), .int (nI 1)], _, by omega, ⟨n + 1, _, by omega, by rw [e5], rfl⟩, ?_⟩
          rw [hg] at s1
          simp (disch := omega) only [e4, q_Ma_fewest_26, s1, s_Ji_bitCount, Nat.one_ne_zero, ↓bc_167, ↓br_167_0, ↓bc_4, ↓b_t0, ↓b_t1, ↓b_t2, ↓b_t3, ↓b_t4, ↓b_t5, ↓b_t6, Nat.zero_add, Nat.le_refl, b_rs, b_rn, b_r2, b_ss, b_sn, b_bt, b_bf, b_b0, b_b1, b_bw, b_shl, b_or, b_iv, b_jv, b_sI, b_sJ, ↓z_hl, z_b0, z_b1, z_b2, b_and1c, b_and1z, if_true, if_false, nI_add, pk_mul, b_cl, b_lt, b_le, b_eq, b_eq0, b_le0, b_0lt, b_0le, b_lt0]
          rw [if_neg (by omega), if_neg c2, if_neg (by omega)]
        | false =>
          have e5 : w_scan (w_goes s set) (n + 1) = w_scan (w_goes s set) n := by rw [hw, if_neg (fun q => absurd (hg.symm.trans q.1) (by decide))]
          refine ⟨k - 1, [.ref 167, .int (nI set), .int (nI (w_scan (w_goes s set) n)), .int (nI (n + 1)), .int (nI 1)], _, by omega, ⟨n + 1, _, by omega, by rw [e5], rfl⟩, ?_⟩
          rw [hg] at s1
          simp (disch := omega) only [e4, q_Ma_fewest_26, s1, s_Ji_bitCount, Nat.one_ne_zero, ↓bc_167, ↓br_167_0, ↓bc_4, ↓b_t0, ↓b_t1, ↓b_t2, ↓b_t3, ↓b_t4, ↓b_t5, ↓b_t6, Nat.zero_add, Nat.le_refl, b_rs, b_rn, b_r2, b_ss, b_sn, b_bt, b_bf, b_b0, b_b1, b_bw, b_shl, b_or, b_iv, b_jv, b_sI, b_sJ, ↓z_hl, z_b0, z_b1, z_b2, b_and1c, b_and1z, if_true, if_false, nI_add, pk_mul, b_cl, b_lt, b_le, b_eq, b_eq0, b_le0, b_0lt, b_0le, b_lt0]
          rw [if_neg (by omega), if_neg c2, if_neg (by omega)]
      · have e5 : w_scan (w_goes s set) (n + 1) = w_scan (w_goes s set) n := by
          rw [hw, if_neg]
          rintro ⟨_, q | q⟩
          · exact c2 q
          · exact c3 q
        refine ⟨k - 1, [.ref 167, .int (nI set), .int (nI (w_scan (w_goes s set) n)), .int (nI (n + 1)), .int (nI 0)], _, by omega, ⟨n + 1, _, by omega, by rw [e5], rfl⟩, ?_⟩
        simp (disch := omega) only [e4, q_Ma_fewest_26, s_Ji_bitCount, Nat.one_ne_zero, ↓bc_167, ↓br_167_0, ↓bc_4, ↓b_t0, ↓b_t1, ↓b_t2, ↓b_t3, ↓b_t4, ↓b_t5, ↓b_t6, Nat.zero_add, Nat.le_refl, b_rs, b_rn, b_r2, b_ss, b_sn, b_bt, b_bf, b_b0, b_b1, b_bw, b_shl, b_or, b_iv, b_jv, b_sI, b_sJ, ↓z_hl, z_b0, z_b1, z_b2, b_and1c, b_and1z, if_true, if_false, nI_add, pk_mul, b_cl, b_lt, b_le, b_eq, b_eq0, b_le0, b_0lt, b_0le, b_lt0]
        rw [if_neg (by omega), if_neg c2, if_pos (by omega)]
/-! the reference -/
def w_left (s : Nat → Nat) : Nat := (2 ^ s 3 - 1) &&& (w_endsOf s 4294967295 ^^^ 4294967295)
theorem w_left_bt {e : Nat} (he : s 3 ≤ 10) (hl : e < s 3) (h : s (241 + e) ≠ 4294967295) : (w_left s).testBit e = true := by
  unfold w_left w_endsOf
  rw [Nat.testBit_and, Nat.testBit_two_pow_sub_one, Nat.testBit_xor, z_tbF e (by omega), z_set_bt, decide_eq_true hl, decide_eq_false h]
  rfl
theorem w_left_lt : w_left s ≤ 2 ^ s 3 - 1 := Nat.and_le_left
theorem w_goes_and (hE : s 3 ≤ 10) {set x : Nat} : w_goes s set (x &&& w_left s) = w_goes s set x := by
  unfold w_goes
  refine z_all_congr fun t _ => ?_
  unfold w_goesT
  congr 1
  refine z_any_congr fun e he => ?_
  rw [Nat.testBit_and]
  cases hf : w_fit s e t with
  | false => rw [Bool.and_false, Bool.and_false]
  | true =>
    unfold w_fit at hf
    rw [Bool.and_eq_true, decide_eq_true_eq] at hf
    rw [w_left_bt hE he hf.1, Bool.and_true]
def w_goesL (s : Nat → Nat) (set x : Nat) : Bool := decide (x &&& (w_left s ^^^ 4294967295) = 0) && w_goes s set x
theorem w_sub_le {x K : Nat} (hK : K < 1024) (h : x &&& (K ^^^ 4294967295) = 0) (hx : x < 1024) : x ≤ K := by
  have e : x = x &&& K := by
    refine Nat.eq_of_testBit_eq fun i => ?_
    rw [Nat.testBit_and]
    by_cases hi : i < 32
    · have h2 := Nat.testBit_and x (K ^^^ 4294967295) i
      rw [h, Nat.zero_testBit, Nat.testBit_xor, z_tbF i hi] at h2
      cases h3 : x.testBit i with
      | false => rfl
      | true =>
        cases h4 : K.testBit i with
        | true => rfl
        | false => rw [h3, h4] at h2; exact absurd h2 (by decide)
    · have h5 := Nat.testBit_lt_two_pow (Nat.lt_of_lt_of_le hx (Nat.pow_le_pow_right (n := 2) (i := 10) (by decide) (by omega)) : x < 2 ^ i)
      rw [h5]
      rfl
  rw [e]
  exact Nat.and_le_right
theorem w_cbest_eq (hE : s 3 ≤ 10) {set : Nat} : w_scan (w_goesL s set) (w_left s + 1) = w_cbest s set := by
  have hP : 2 ^ s 3 ≤ 1024 := Nat.pow_le_pow_right (n := 2) (by decide) hE
  have hP1 : 1 ≤ 2 ^ s 3 := Nat.one_le_two_pow
  have hK := w_left_lt (s := s)
  have e1 := w_scan_pad (Q := w_goesL s set) (a := w_left s + 1) (2 ^ s 3) (by omega) (fun x h1 h2 => by
    unfold w_goesL
    rw [decide_eq_false (fun g => by have := w_sub_le (K := w_left s) (by omega) g (by omega); omega), Bool.false_and])
  rw [← e1]
  refine (w_scan_eq (Q := w_goes s set) (R := w_goesL s set) hP (fun x _ h => ?_) (fun x hx h1 h2 => ?_) _ (Nat.le_refl _)).symm
  · unfold w_goesL at h
    rw [Bool.and_eq_true] at h
    exact h.2
  · have h3 : x &&& (w_left s ^^^ 4294967295) ≠ 0 := fun g => by
      unfold w_goesL at h2
      rw [decide_eq_true g, h1] at h2
      exact absurd h2 (by decide)
    obtain ⟨g1, g2⟩ := w_pc_less (K := w_left s) (by omega) h3
    exact ⟨x &&& w_left s, g1, (w_goes_and hE).trans h1, g2⟩
end CY
