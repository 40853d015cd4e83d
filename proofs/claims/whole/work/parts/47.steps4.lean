/-! CALL BY CALL: odds -/
theorem b_sid {f : Nat → Nat} {k x : Nat} (h : f k = x) : b_s f k x = f := by
  funext i
  unfold b_s
  split
  · rename_i h2; subst h2; exact h.symm
  · rfl
section D4
variable {X : Nat × (Nat → Int32)} {tx : List Int32} {D : Nat} {m j : Nat → Nat → Nat} {w : (Nat × Nat) × Bool}
/-- of the seeds x, x + 1 .. -/
noncomputable def w_odds (s : Nat → Nat) (t x n : Nat) : Nat := z_sum (fun i => if w_open (w_ddays (x + i) s (min 20 (400 - s 157))).2 t = 0 then 1 else 0) n
def w_oddok (s : Nat → Nat) (t n : Nat) : Prop := t < s 2 ∧ 1 ≤ n ∧ n ≤ 30 ∧ 0 < s 3
/-- the seed moves -/
def w_sm (m : Nat → Nat → Nat) (x : Nat) : Nat → Nat → Nat := b_r (w_tm m) 234 (b_s (b_s (m 234) 0 0) 40 x)
theorem w_sm_s {x : Nat} : w_sm m x 236 = m 236 := by unfold w_sm w_tm; rw [b_rn (by decide), b_rn (by decide), b_rn (by decide)]
theorem w_tm_234 : w_tm m 234 = b_s (m 234) 0 0 := by unfold w_tm; rw [b_rn (by decide), b_rs]
theorem s_Mo_odds (hS : i_S (m 236)) (hI : i_D (m 236)) (hD : 8 ≤ D) {t n x : Nat} (hc : w_oddok (m 236) t n) : ∃ y, a_ex X tx a_T D 297 [.ref 234, .int (nI t), .int (nI n), .int (nI x)] (b_h m j w) = some ((b_h (w_sm m y) j w), some (.int (nI (w_odds (m 236) t x n)))) := by
  obtain ⟨c1, c2, c3, c4⟩ := hc
  obtain ⟨d, rfl⟩ : ∃ d, D = d + 1 := ⟨D - 1, by omega⟩
  rw [e_Mo_odds, q_Mo_odds_0]
  have hS2 : i_S ((b_r m 234 (b_s (m 234) 0 0)) 236) := by rw [b_rn (by decide)]; exact hS
  have hI2 : i_D ((b_r m 234 (b_s (m 234) 0 0)) 236) := by rw [b_rn (by decide)]; exact hI
  have qq : (b_r m 234 (b_s (m 234) 0 0)) 236 = m 236 := b_rn (by decide)
  have q0 : (b_r m 234 (b_s (m 234) 0 0)) 236 0 = m 236 0 := by rw [qq]
  have q1 : (b_r m 234 (b_s (m 234) 0 0)) 236 1 = m 236 1 := by rw [qq]
  have q2 : (b_r m 234 (b_s (m 234) 0 0)) 236 2 = m 236 2 := by rw [qq]
  have q3 : (b_r m 234 (b_s (m 234) 0 0)) 236 3 = m 236 3 := by rw [qq]
  have hK := i_S_K hS
  have hM := i_S_M hS
  have hT := i_S_T hS
  have hE := i_S_E hS
  have hda := i_D_da hI
  have e1 : decide (t < m 236 2) = true := decide_eq_true c1
  have e2 : decide (1 ≤ n ∧ n ≤ 30) = true := decide_eq_true ⟨c2, c3⟩
  have s2 := s_Mo_tries (X := X) (tx := tx) (D := d) (m := b_r m 234 (b_s (m 234) 0 0)) (j := j) (w := w) (by omega)
  rw [qq, b_rn (c := 234) (c2 := 242) (by decide)] at s2
  have s3 : a_ex X tx a_T d 257 [.ref 234] (b_h (b_r m 234 (b_s (m 234) 0 0)) j w) = some (b_h (w_tm m) j w, none) := s2
  have t236 : w_tm m 236 = m 236 := by unfold w_tm; rw [b_rn (by decide), b_rn (by decide)]
  have start : b_h (w_tm m) j w = b_h (w_sm m (m 234 40)) j w := by
    unfold w_sm
    rw [b_ri]
    rw [w_tm_234]
    exact (b_sid (by rw [b_sn (by decide)])).symm
  have main : ∃ y, a_go X tx (a_ex X tx a_T d) k_Mo_odds_0 (a_f1 + 1) 25 [.ref 234, .int (nI t), .int (nI n), .int (nI x), .int (nI 0), .int (nI 0)] (b_h (w_tm m) j w) = some (b_h (w_sm m y) j w, some (.int (nI (w_odds (m 236) t x n)))) := by
    rw [start]
    refine z_run (Q := fun r => ∃ y, r = some (b_h (w_sm m y) j w, some (.int (nI (w_odds (m 236) t x n))))) (fun k L h => ∃ i y, k + i = n ∧ L = [.ref 234, .int (nI t), .int (nI n), .int (nI x), .int (nI (w_odds (m 236) t x i)), .int (nI i)] ∧ h = b_h (w_sm m y) j w) 0 ?_ n _ _ ⟨0, _, by omega, rfl, rfl⟩ _ (z_fu (by omega))
    rintro k L h ⟨i, y, hk, rfl, rfl⟩ f _
    rw [l_Mo_odds_25, q_Mo_odds_25]
    by_cases hi : i = n
    · left
      subst hi
      simp (disch := omega) only [↓bc_234, ↓br_234_6, ↓bc_236, ↓bx_236, bl_236, ↓b_t0, ↓b_t1, ↓b_t2, ↓b_t3, ↓b_t4, ↓b_t5, ↓b_t6, Nat.zero_add, Nat.le_refl, b_rs, b_rn, b_r2, b_ss, b_sn, b_bt, b_bf, b_b0, b_b1, b_bw, b_shl, b_or, b_iv, b_jv, b_sI, b_sJ, ↓z_hl, z_b0, z_b1, z_b2, b_and1c, b_and1z, if_true, if_false, nI_add, pk_mul, b_cl, b_lt, b_le, b_eq, b_eq0, b_le0, b_0lt, b_0le, b_lt0]
      exact ⟨y, rfl⟩
    · right
      obtain ⟨g1, g2, g3, g4⟩ := w_ddays_ok (x := x + i) hS hI (by omega) c4 (min 20 (400 - m 236 157)) (by omega)
      have s1 := s_Mo_draws (X := X) (tx := tx) (D := d) (m := w_sm m y) (j := j) (w := w) (by rw [w_sm_s]; exact hS) (by rw [w_sm_s]; exact hI) (by rw [w_sm_s]; omega) (by rw [w_sm_s]; exact c4) (by omega) (q := 20) (x := x + i) (by omega)
      rw [w_sm_s] at s1
      have e3 : w_dm (w_sm m y) (w_ddays (x + i) (m 236) (min 20 (400 - m 236 157))) = b_r (w_sm m (w_ddays (x + i) (m 236) (min 20 (400 - m 236 157))).1) 236 (w_ddays (x + i) (m 236) (min 20 (400 - m 236 157))).2 := by
        unfold w_dm w_sm
        rw [b_rs, b_r2, b_s2]
      rw [e3] at s1
      have s4 := s_Mo_back (X := X) (tx := tx) (D := d) (m := b_r (w_sm m (w_ddays (x + i) (m 236) (min 20 (400 - m 236 157))).1) 236 (w_ddays (x + i) (m 236) (min 20 (400 - m 236 157))).2) (j := j) (w := w) (by omega)
      have e4 : b_rg (w_ddays (x + i) (m 236) (min 20 (400 - m 236 157))).2 157 195 (fun z => b_r (w_sm m (w_ddays (x + i) (m 236) (min 20 (400 - m 236 157))).1) 236 (w_ddays (x + i) (m 236) (min 20 (400 - m 236 157))).2 242 z) = w_sm m (w_ddays (x + i) (m 236) (min 20 (400 - m 236 157))).1 236 := by
        rw [w_sm_s]
        refine w_restore g3 (fun z hz => ?_)
        rw [b_rn (by decide)]
        unfold w_sm w_tm
        rw [b_rn (by decide), b_rs, b_rgi (by omega) (by omega)]
        rfl
      rw [b_r2, b_rs, e4, b_ri rfl] at s4
      have g5 := w_open_le g2 (t := t) (by omega)
      refine ⟨k - 1, _, _, by omega, ⟨i + 1, (w_ddays (x + i) (m 236) (min 20 (400 - m 236 157))).1, by omega, rfl, rfl⟩, ?_⟩
      rw [show w_odds (m 236) t x (i + 1) = w_odds (m 236) t x i + (if w_open (w_ddays (x + i) (m 236) (min 20 (400 - m 236 157))).2 t = 0 then 1 else 0) from rfl]
      simp (disch := omega) only [s1, s_Mo_openOf, s4, ↓bc_234, ↓br_234_6, ↓bc_236, ↓bx_236, bl_236, ↓b_t0, ↓b_t1, ↓b_t2, ↓b_t3, ↓b_t4, ↓b_t5, ↓b_t6, Nat.zero_add, Nat.le_refl, b_rs, b_rn, b_r2, b_ss, b_sn, b_bt, b_bf, b_b0, b_b1, b_bw, b_shl, b_or, b_iv, b_jv, b_sI, b_sJ, ↓z_hl, z_b0, z_b1, z_b2, b_and1c, b_and1z, if_true, if_false, nI_add, pk_mul, b_cl, b_lt, b_le, b_eq, b_eq0, b_le0, b_0lt, b_0le, b_lt0]
      rw [if_neg (by omega)]
      by_cases c : w_open (w_ddays (x + i) (m 236) (min 20 (400 - m 236 157))).2 t = 0
      · rw [if_pos c, if_pos c]
      · rw [if_neg c, if_neg c]
  obtain ⟨y, hy⟩ := main
  refine ⟨y, ?_⟩
  simp (disch := omega) only [s_Mo_isThing hS2, s_Mo_isIn, e1, e2, s3, ↓bc_234, ↓br_234_6, ↓bc_236, ↓bx_236, bl_236, ↓b_t0, ↓b_t1, ↓b_t2, ↓b_t3, ↓b_t4, ↓b_t5, ↓b_t6, Nat.zero_add, Nat.le_refl, b_rs, b_rn, b_r2, b_ss, b_sn, b_bt, b_bf, b_b0, b_b1, b_bw, b_shl, b_or, b_iv, b_jv, b_sI, b_sJ, ↓z_hl, z_b0, z_b1, z_b2, b_and1c, b_and1z, if_true, if_false, nI_add, pk_mul, b_cl, b_lt, b_le, b_eq, b_eq0, b_le0, b_0lt, b_0le, b_lt0]
  rw [if_neg (by decide), if_neg (by decide), if_neg (by omega), ← l_Mo_odds_25]
  exact hy
theorem s_Mo_oddsN (hS : i_S (m 236)) (hI : i_D (m 236)) (hD : 3 ≤ D) {t n x : Nat} (ht : t < 4294967296) (hn : n < 4294967296) (hc : ¬ w_oddok (m 236) t n) : a_ex X tx a_T D 297 [.ref 234, .int (nI t), .int (nI n), .int (nI x)] (b_h m j w) = some ((b_h (b_r m 234 (b_s (m 234) 0 0)) j w), some (.int (nI (4294967295)))) := by
  obtain ⟨d, rfl⟩ : ∃ d, D = d + 1 := ⟨D - 1, by omega⟩
  rw [e_Mo_odds, q_Mo_odds_0]
  have hS2 : i_S ((b_r m 234 (b_s (m 234) 0 0)) 236) := by rw [b_rn (by decide)]; exact hS
  have hI2 : i_D ((b_r m 234 (b_s (m 234) 0 0)) 236) := by rw [b_rn (by decide)]; exact hI
  have qq : (b_r m 234 (b_s (m 234) 0 0)) 236 = m 236 := b_rn (by decide)
  have q0 : (b_r m 234 (b_s (m 234) 0 0)) 236 0 = m 236 0 := by rw [qq]
  have q1 : (b_r m 234 (b_s (m 234) 0 0)) 236 1 = m 236 1 := by rw [qq]
  have q2 : (b_r m 234 (b_s (m 234) 0 0)) 236 2 = m 236 2 := by rw [qq]
  have q3 : (b_r m 234 (b_s (m 234) 0 0)) 236 3 = m 236 3 := by rw [qq]
  have hK := i_S_K hS
  have hM := i_S_M hS
  have hT := i_S_T hS
  have hE := i_S_E hS
  by_cases c1 : t < m 236 2
  · have e1 : decide (t < m 236 2) = true := decide_eq_true c1
    by_cases c2 : 1 ≤ n ∧ n ≤ 30
    · have e2 : decide (1 ≤ n ∧ n ≤ 30) = true := decide_eq_true c2
      have c3 : m 236 3 = 0 := by
        cases Nat.decEq (m 236 3) 0 with
        | isTrue h => exact h
        | isFalse h => exact absurd ⟨c1, c2.1, c2.2, by omega⟩ hc
      simp (disch := omega) only [s_Mo_isThing hS2, s_Mo_isIn, e1, e2, c3, ↓bc_234, ↓br_234_6, ↓bc_236, ↓bx_236, bl_236, ↓b_t0, ↓b_t1, ↓b_t2, ↓b_t3, ↓b_t4, ↓b_t5, ↓b_t6, Nat.zero_add, Nat.le_refl, b_rs, b_rn, b_r2, b_ss, b_sn, b_bt, b_bf, b_b0, b_b1, b_bw, b_shl, b_or, b_iv, b_jv, b_sI, b_sJ, ↓z_hl, z_b0, z_b1, z_b2, b_and1c, b_and1z, if_true, if_false, nI_add, pk_mul, b_cl, b_lt, b_le, b_eq, b_eq0, b_le0, b_0lt, b_0le, b_lt0]
      rw [if_neg (by decide), if_neg (by decide)]
    · have e2 : decide (1 ≤ n ∧ n ≤ 30) = false := decide_eq_false c2
      simp (disch := omega) only [s_Mo_isThing hS2, s_Mo_isIn, e1, e2, ↓bc_234, ↓br_234_6, ↓bc_236, ↓bx_236, bl_236, ↓b_t0, ↓b_t1, ↓b_t2, ↓b_t3, ↓b_t4, ↓b_t5, ↓b_t6, Nat.zero_add, Nat.le_refl, b_rs, b_rn, b_r2, b_ss, b_sn, b_bt, b_bf, b_b0, b_b1, b_bw, b_shl, b_or, b_iv, b_jv, b_sI, b_sJ, ↓z_hl, z_b0, z_b1, z_b2, b_and1c, b_and1z, if_true, if_false, nI_add, pk_mul, b_cl, b_lt, b_le, b_eq, b_eq0, b_le0, b_0lt, b_0le, b_lt0]
      rw [if_neg (by decide)]
  · have e1 : decide (t < m 236 2) = false := decide_eq_false c1
    simp (disch := omega) only [s_Mo_isThing hS2, e1, ↓bc_234, ↓br_234_6, ↓bc_236, ↓bx_236, bl_236, ↓b_t0, ↓b_t1, ↓b_t2, ↓b_t3, ↓b_t4, ↓b_t5, ↓b_t6, Nat.zero_add, Nat.le_refl, b_rs, b_rn, b_r2, b_ss, b_sn, b_bt, b_bf, b_b0, b_b1, b_bw, b_shl, b_or, b_iv, b_jv, b_sI, b_sJ, ↓z_hl, z_b0, z_b1, z_b2, b_and1c, b_and1z, if_true, if_false, nI_add, pk_mul, b_cl, b_lt, b_le, b_eq, b_eq0, b_le0, b_0lt, b_0le, b_lt0]
theorem s_EM_oddsN {s : Nat → Nat} (hF : c_F m 4 s) (hS : i_S s) (hD : 2 ≤ D) {t n x : Nat} (ht : t < 4294967296) (hn : n < 4294967296) (hc : ¬ w_oddok s t n) : a_ex X tx a_T D 185 [.ref 0, .int (nI t), .int (nI n), .int (nI x)] (b_h m j w) = some ((b_h m j w), some (.int (nI (4294967295)))) := by
  obtain ⟨d, rfl⟩ : ∃ d, D = d + 1 := ⟨D - 1, by omega⟩
  rw [e_EM_odds, q_EM_odds_0]
  have hE := i_S_E hS
  have fE := c_F4_E hF
  by_cases c1 : t < s 2
  · have e1 : decide (t < s 2) = true := decide_eq_true c1
    by_cases c3 : n < 2147483648
    · by_cases c4 : n < 1
      · simp (disch := omega) only [s_Fa_isThing hF hS, e1, ↓bc_0, ↓br_0_1, ↓bc_4, ↓br_0_3, ↓bc_26, ↓br_0_4, ↓bc_38, ↓br_0_12, ↓bc_176, ↓b_t0, ↓b_t1, ↓b_t2, ↓b_t3, ↓b_t4, ↓b_t5, ↓b_t6, Nat.zero_add, Nat.le_refl, b_rs, b_rn, b_r2, b_ss, b_sn, b_bt, b_bf, b_b0, b_b1, b_bw, b_shl, b_or, b_iv, b_jv, b_sI, b_sJ, ↓z_hl, z_b0, z_b1, z_b2, b_and1c, b_and1z, if_true, if_false, nI_add, pk_mul, b_cl, b_lt, b_le, b_eq, b_eq0, b_le0, b_0lt, b_0le, b_lt0]
        rw [if_neg (by decide), if_pos c4]
      · by_cases c5 : 30 < n
        · simp (disch := omega) only [s_Fa_isThing hF hS, e1, ↓bc_0, ↓br_0_1, ↓bc_4, ↓br_0_3, ↓bc_26, ↓br_0_4, ↓bc_38, ↓br_0_12, ↓bc_176, ↓b_t0, ↓b_t1, ↓b_t2, ↓b_t3, ↓b_t4, ↓b_t5, ↓b_t6, Nat.zero_add, Nat.le_refl, b_rs, b_rn, b_r2, b_ss, b_sn, b_bt, b_bf, b_b0, b_b1, b_bw, b_shl, b_or, b_iv, b_jv, b_sI, b_sJ, ↓z_hl, z_b0, z_b1, z_b2, b_and1c, b_and1z, if_true, if_false, nI_add, pk_mul, b_cl, b_lt, b_le, b_eq, b_eq0, b_le0, b_0lt, b_0le, b_lt0]
          rw [if_neg (by decide), if_neg c4, if_pos c5]
        · have c6 : s 3 = 0 := by
            cases Nat.decEq (s 3) 0 with
            | isTrue h => exact h
            | isFalse h => exact absurd ⟨c1, by omega, by omega, by omega⟩ hc
          simp (disch := omega) only [s_Fa_isThing hF hS, e1, fE, c6, ↓bc_0, ↓br_0_1, ↓bc_4, ↓br_0_3, ↓bc_26, ↓br_0_4, ↓bc_38, ↓br_0_12, ↓bc_176, ↓b_t0, ↓b_t1, ↓b_t2, ↓b_t3, ↓b_t4, ↓b_t5, ↓b_t6, Nat.zero_add, Nat.le_refl, b_rs, b_rn, b_r2, b_ss, b_sn, b_bt, b_bf, b_b0, b_b1, b_bw, b_shl, b_or, b_iv, b_jv, b_sI, b_sJ, ↓z_hl, z_b0, z_b1, z_b2, b_and1c, b_and1z, if_true, if_false, nI_add, pk_mul, b_cl, b_lt, b_le, b_eq, b_eq0, b_le0, b_0lt, b_0le, b_lt0]
          rw [if_neg (by decide), if_neg c4, if_neg c5]
    · have e2 : (nI n < nI 1) = True := b_ltn (by omega) hn (by decide)
      simp (disch := omega) only [s_Fa_isThing hF hS, e1, e2, ↓bc_0, ↓br_0_1, ↓bc_4, ↓br_0_3, ↓bc_26, ↓br_0_4, ↓bc_38, ↓br_0_12, ↓bc_176, ↓b_t0, ↓b_t1, ↓b_t2, ↓b_t3, ↓b_t4, ↓b_t5, ↓b_t6, Nat.zero_add, Nat.le_refl, b_rs, b_rn, b_r2, b_ss, b_sn, b_bt, b_bf, b_b0, b_b1, b_bw, b_shl, b_or, b_iv, b_jv, b_sI, b_sJ, ↓z_hl, z_b0, z_b1, z_b2, b_and1c, b_and1z, if_true, if_false, nI_add, pk_mul, b_cl, b_lt, b_le, b_eq, b_eq0, b_le0, b_0lt, b_0le, b_lt0]
      rw [if_neg (by decide)]
  · have e1 : decide (t < s 2) = false := decide_eq_false c1
    simp (disch := omega) only [s_Fa_isThing hF hS, e1, ↓bc_0, ↓br_0_1, ↓bc_4, ↓br_0_3, ↓bc_26, ↓br_0_4, ↓bc_38, ↓br_0_12, ↓bc_176, ↓b_t0, ↓b_t1, ↓b_t2, ↓b_t3, ↓b_t4, ↓b_t5, ↓b_t6, Nat.zero_add, Nat.le_refl, b_rs, b_rn, b_r2, b_ss, b_sn, b_bt, b_bf, b_b0, b_b1, b_bw, b_shl, b_or, b_iv, b_jv, b_sI, b_sJ, ↓z_hl, z_b0, z_b1, z_b2, b_and1c, b_and1z, if_true, if_false, nI_add, pk_mul, b_cl, b_lt, b_le, b_eq, b_eq0, b_le0, b_0lt, b_0le, b_lt0]
theorem b_is38 : b_isaf 38 := Or.inr (Or.inl rfl)
theorem s_EM_odds {s : Nat → Nat} (hF : c_F m 4 s) (hA : c_A m 26 s) (hS : i_S s) (hI : i_D s) (hD : 8 ≤ D) {t n x : Nat} (hc : w_oddok s t n) : ∃ m2, a_ex X tx a_T D 185 [.ref 0, .int (nI t), .int (nI n), .int (nI x)] (b_h m j w) = some (b_h m2 j w, some (.int (nI (w_odds s t x n)))) ∧ z_fd 38 49 m m2 := by
  obtain ⟨c1, c2, c3, c4⟩ := hc
  obtain ⟨d, rfl⟩ : ∃ d, D = d + 1 := ⟨D - 1, by omega⟩
  rw [e_EM_odds, q_EM_odds_0]
  have hE := i_S_E hS
  have hT := i_S_T hS
  have fE := c_F4_E hF
  have hda := i_D_da hI
  have e1 : decide (t < s 2) = true := decide_eq_true c1
  have main : ∃ m2, a_go X tx (a_ex X tx a_T d) k_EM_odds_0 (a_f1 + 1) 27 [.ref 0, .int (nI t), .int (nI n), .int (nI x), .int (nI (min 20 (400 - s 157))), .int (nI 0), .int (nI 0)] (b_h m j w) = some (b_h m2 j w, some (.int (nI (w_odds s t x n)))) ∧ z_fd 38 49 m m2 := by
    refine z_run (Q := fun r => ∃ m2, r = some (b_h m2 j w, some (.int (nI (w_odds s t x n)))) ∧ z_fd 38 49 m m2) (fun k L h => ∃ i m3, k + i = n ∧ L = [.ref 0, .int (nI t), .int (nI n), .int (nI x), .int (nI (min 20 (400 - s 157))), .int (nI (w_odds s t x i)), .int (nI i)] ∧ h = b_h m3 j w ∧ z_fd 38 49 m m3) 0 ?_ n _ _ ⟨0, m, by omega, rfl, rfl, fun _ _ _ => rfl⟩ _ (z_fu (by omega))
    rintro k L h ⟨i, m3, hk, rfl, rfl, hfr⟩ f _
    rw [l_EM_odds_27, q_EM_odds_27]
    by_cases hi : i = n
    · left
      subst hi
      simp (disch := omega) only [↓bc_0, ↓br_0_1, ↓bc_4, ↓br_0_3, ↓bc_26, ↓bc_38, ↓br_0_4, ↓br_0_12, ↓bc_176, ↓b_t0, ↓b_t1, ↓b_t2, ↓b_t3, ↓b_t4, ↓b_t5, ↓b_t6, Nat.zero_add, Nat.le_refl, b_rs, b_rn, b_r2, b_ss, b_sn, b_bt, b_bf, b_b0, b_b1, b_bw, b_shl, b_or, b_iv, b_jv, b_sI, b_sJ, ↓z_hl, z_b0, z_b1, z_b2, b_and1c, b_and1z, if_true, if_false, nI_add, pk_mul, b_cl, b_lt, b_le, b_eq, b_eq0, b_le0, b_0lt, b_0le, b_lt0]
      exact ⟨m3, rfl, hfr⟩
    · right
      obtain ⟨g1, g2, g3, g4⟩ := w_ddays_ok (x := x + i) hS hI (by omega) c4 (min 20 (400 - s 157)) (by omega)
      have s1 := s_Af_copy (X := X) (tx := tx) (D := d) (m := m3) (j := j) (w := w) (a := 38) (b := 26) b_is38 b_is26 (by omega) (by omega)
      have hA3 : c_A m3 26 s := c_A_ext (fun c q1 q2 => hfr c (by omega) (by omega)) hA
      have hA4 : c_A (w_cpA m3 38 26) 38 s := c_A_cp (by omega) hS hA3
      have f4 : z_fd 38 49 m (w_cpA m3 38 26) := z_fd_tr hfr (z_fd_of w_cpA_fr)
      have hF4 : c_F (w_cpA m3 38 26) 4 s := c_F_ext (fun c q1 q2 => f4 c (by omega) (by omega)) (fun _ _ => rfl) hS hF
      obtain ⟨m5, k1, k2, k3⟩ := s_Dr_live38 (X := X) (tx := tx) (D := d) (m := w_cpA m3 38 26) (j := j) (w := w) hF4 hA4 hS hI (by omega) c4 (by omega) (N := min 20 (400 - s 157)) (x := x + i) (by omega)
      have f5 : z_fd 38 49 m m5 := z_fd_tr f4 k2
      have hF5 : c_F m5 4 (w_ddays (x + i) s (min 20 (400 - s 157))).2 := c_F_ext (fun c q1 q2 => f5 c (by omega) (by omega)) (fun z hz => g3 z (by omega)) hS hF
      have g5 := w_open_le g2 (t := t) (by omega)
      refine ⟨k - 1, _, _, by omega, ⟨i + 1, m5, by omega, rfl, rfl, f5⟩, ?_⟩
      rw [show w_odds s t x (i + 1) = w_odds s t x i + (if w_open (w_ddays (x + i) s (min 20 (400 - s 157))).2 t = 0 then 1 else 0) from rfl]
      simp (disch := omega) only [s1, k1, s_Af_allOpen38 hF5 k3 g1 g2, ↓bc_0, ↓br_0_1, ↓bc_4, ↓br_0_3, ↓bc_26, ↓bc_38, ↓br_0_4, ↓br_0_12, ↓bc_176, ↓b_t0, ↓b_t1, ↓b_t2, ↓b_t3, ↓b_t4, ↓b_t5, ↓b_t6, Nat.zero_add, Nat.le_refl, b_rs, b_rn, b_r2, b_ss, b_sn, b_bt, b_bf, b_b0, b_b1, b_bw, b_shl, b_or, b_iv, b_jv, b_sI, b_sJ, ↓z_hl, z_b0, z_b1, z_b2, b_and1c, b_and1z, if_true, if_false, nI_add, pk_mul, b_cl, b_lt, b_le, b_eq, b_eq0, b_le0, b_0lt, b_0le, b_lt0]
      rw [if_neg (by omega)]
      by_cases c : w_open (w_ddays (x + i) s (min 20 (400 - s 157))).2 t = 0
      · rw [if_pos c, if_pos c]
      · rw [if_neg c, if_neg c]; rfl
  obtain ⟨m2, hy, hf⟩ := main
  refine ⟨m2, ?_, hf⟩
  simp (disch := omega) only [s_Fa_isThing hF hS, e1, fE, s_Af_daysLeft26 hA hI, b_min, ↓bc_0, ↓br_0_1, ↓bc_4, ↓br_0_3, ↓bc_26, ↓bc_38, ↓br_0_4, ↓br_0_12, ↓bc_176, ↓b_t0, ↓b_t1, ↓b_t2, ↓b_t3, ↓b_t4, ↓b_t5, ↓b_t6, Nat.zero_add, Nat.le_refl, b_rs, b_rn, b_r2, b_ss, b_sn, b_bt, b_bf, b_b0, b_b1, b_bw, b_shl, b_or, b_iv, b_jv, b_sI, b_sJ, ↓z_hl, z_b0, z_b1, z_b2, b_and1c, b_and1z, if_true, if_false, nI_add, pk_mul, b_cl, b_lt, b_le, b_eq, b_eq0, b_le0, b_0lt, b_0le, b_lt0]
  rw [if_neg (by decide), if_neg (by omega), if_neg (by omega), if_neg (by omega), ← l_EM_odds_27]
  exact hy
theorem r_R_sm {x : Nat} (h : r_R m j) : r_R (w_sm m x) j := by
  have h2 := r_R_tm h
  unfold w_sm
  have : b_s (b_s (m 234) 0 0) 40 x = b_s (w_tm m 234) 40 x := by rw [w_tm_234]
  rw [this]
  exact r_R_idle h2 (w_same_s (by omega)) (b_rn (by decide)) (fun c hc => b_rn (by omega)) (b_rn (by decide)) (by rw [b_rs, b_sn (by decide)])
theorem r_R_fd {m2 : Nat → Nat → Nat} {lo hi : Nat} (h : r_R m j) (hf : z_fd lo hi m m2) (hl : 38 ≤ lo) (hh : hi ≤ 49) : r_R m2 j :=
  r_R_idle h (w_same_fd hf (by omega) (by omega)) (hf 236 (by omega) (by omega)) (fun c hc => hf c (by omega) (by omega)) (hf 241 (by omega) (by omega)) (by rw [hf 234 (by omega) (by omega)])
theorem t_odds (h : r_R m j) (hD : 12 ≤ D) {t n x : Nat} (ht : t < 4294967296) (hn : n < 4294967296) : w_step X tx D 185 297 [.int (nI t), .int (nI n), .int (nI x)] m j w := by
  have hS := r_R_st h
  have hI := r_R_dy h
  by_cases c : w_oddok (m 236) t n
  · obtain ⟨m2, k1, k2⟩ := s_EM_odds (X := X) (tx := tx) (D := D) (j := j) (w := w) (r_R_fa h) (r_R_af h) hS hI (by omega) (x := x) c
    have e236 : m2 236 = m 236 := k2 236 (by omega) (by omega)
    obtain ⟨y, k3⟩ := s_Mo_odds (X := X) (tx := tx) (D := D) (m := m2) (j := j) (w := w) (by rw [e236]; exact hS) (by rw [e236]; exact hI) (by omega) (x := x) (by rw [e236]; exact c)
    rw [e236] at k3
    exact ⟨m2, j, _, j, _, k1, k3, r_R_sm (r_R_fd h k2 (by omega) (by omega))⟩
  · exact ⟨m, j, _, j, _, s_EM_oddsN (r_R_fa h) hS (by omega) ht hn c, s_Mo_oddsN hS hI (by omega) ht hn c, r_R_thr h⟩
end D4
