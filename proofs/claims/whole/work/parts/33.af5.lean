/-! THE CLASS: going on, days -/
def w_goA (f s : Nat → Nat) (e t n : Nat) : Nat → Nat := b_rg f (t * 6) n fun k => min 99 (s (177 + 6 * t + k) + s (292 + 6 * e + k))
theorem w_goA1 {f s : Nat → Nat} {e t n : Nat} : b_s (w_goA f s e t n) (t * 6 + n) (min 99 (s (177 + 6 * t + n) + s (292 + 6 * e + n))) = w_goA f s e t (n + 1) := b_rg1
theorem s_Af_shutm26 {X : Nat × (Nat → Int32)} {tx : List Int32} {D : Nat} {m j : Nat → Nat → Nat} {w : (Nat × Nat) × Bool} (hD : 1 ≤ D) {e k : Nat} (he : e < 10) (hk : k < 6) : a_ex X tx a_T D 51 [.ref 26, .int (nI e), .int (nI k)] (b_h m j w) = some ((b_h m j w), some (.int (nI (m 37 (e * 6 + k))))) := by
  obtain ⟨d, rfl⟩ : ∃ d, D = d + 1 := ⟨D - 1, by omega⟩
  rw [e_Af_shutBy, q_Af_shutBy_0]
  simp (disch := omega) only [↓bc_26, ↓br_26_12, ↓bc_37, ↓bx_37, bl_37, ↓b_t0, ↓b_t1, ↓b_t2, ↓b_t3, ↓b_t4, ↓b_t5, ↓b_t6, Nat.zero_add, Nat.le_refl, b_rs, b_rn, b_r2, b_ss, b_sn, b_bt, b_bf, b_b0, b_b1, b_bw, b_shl, b_or, b_iv, b_jv, b_sI, b_sJ, ↓z_hl, z_b0, z_b1, z_b2, b_and1c, b_and1z, if_true, if_false, nI_add, pk_mul, b_cl, b_lt, b_le, b_eq, b_eq0, b_le0, b_0lt, b_0le, b_lt0]
  rw [if_neg (by omega), if_neg (by omega)]
theorem s_Af_goOn26 {X : Nat × (Nat → Int32)} {tx : List Int32} {D : Nat} {m j : Nat → Nat → Nat} {w : (Nat × Nat) × Bool} {s : Nat → Nat} (hF : c_F m 4 s) (hA : c_A m 26 s) (hS : i_S s) (hI : i_D s) (hD : 2 ≤ D) {e : Nat} (he : e < s 3) (hp : s (241 + e) = 4294967295) :
    ∃ m2, a_ex X tx a_T D 77 [.ref 26, .int (nI e)] (b_h m j w) = some (b_h m2 j w, none) ∧ z_fr 26 37 m m2 ∧ c_A m2 26 (w_dark s e) := by
  have hE := i_S_E hS
  have hT := i_S_T hS
  have hK := i_S_K hS
  obtain ⟨t, ht, ht8, hpl⟩ := i_place hS hI he hp
  refine ⟨b_r (b_r m 30 (w_goA (m 30) s e t (s 0))) 35 (b_s (m 35) e 1), ?_, ?_, ?_⟩
  · obtain ⟨d, rfl⟩ : ∃ d, D = d + 1 := ⟨D - 1, by omega⟩
    rw [e_Af_goOn, q_Af_goOn_0]
    have g1 := c_F4_K hF
    have g2 := c_A26_pl hA e he
    rw [if_pos hp, hpl, Nat.add_sub_cancel] at g2
    simp (disch := omega) only [g2, ↓bc_26, ↓br_26_8, ↓bc_33, ↓bx_33, bl_33, ↓br_26_0, ↓bc_4, ↓br_26_10, ↓bc_35, ↓bx_35, bl_35, ↓b_t0, ↓b_t1, ↓b_t2, ↓b_t3, ↓b_t4, ↓b_t5, ↓b_t6, Nat.zero_add, Nat.le_refl, b_rs, b_rn, b_r2, b_ss, b_sn, b_bt, b_bf, b_b0, b_b1, b_bw, b_shl, b_or, b_iv, b_jv, b_sI, b_sJ, ↓z_hl, z_b0, z_b1, z_b2, b_and1c, b_and1z, if_true, if_false, nI_add, pk_mul, b_cl, b_lt, b_le, b_eq, b_eq0, b_le0, b_0lt, b_0le, b_lt0]
    rw [← l_Af_goOn_7]
    refine z_lp (fun n => [.ref 26, .int (nI e), .int (nI t), .int (nI n)]) (fun n => b_h (b_r m 30 (w_goA (m 30) s e t n)) j w) (s 0) 0 rfl (by simp [w_goA, b_rg0, b_ri]) ?_ ?_ _ (z_fu (by omega))
    · intro n hn f _
      rw [l_Af_goOn_7, q_Af_goOn_7]
      have b2 := i_D_op hI t (by omega) n (by omega)
      have b3 := i_D_sh hI e (by omega) n (by omega)
      have e1 : w_goA (m 30) s e t n (t * 6 + n) = s (177 + 6 * t + n) := by unfold w_goA; rw [b_rgo (by omega)]; exact c_A26_op hA t (by omega) n (by omega)
      have e2 := c_A26_sh hA e he hp n hn
      simp (disch := omega) only [g1, s_Af_amountm26, s_Af_shutm26, s_Af_setAmount26, e1, e2, b_min, w_goA1, ↓bc_26, ↓br_26_8, ↓bc_33, ↓bx_33, bl_33, ↓br_26_0, ↓bc_4, ↓br_26_10, ↓bc_35, ↓bx_35, bl_35, ↓b_t0, ↓b_t1, ↓b_t2, ↓b_t3, ↓b_t4, ↓b_t5, ↓b_t6, Nat.zero_add, Nat.le_refl, b_rs, b_rn, b_r2, b_ss, b_sn, b_bt, b_bf, b_b0, b_b1, b_bw, b_shl, b_or, b_iv, b_jv, b_sI, b_sJ, ↓z_hl, z_b0, z_b1, z_b2, b_and1c, b_and1z, if_true, if_false, nI_add, pk_mul, b_cl, b_lt, b_le, b_eq, b_eq0, b_le0, b_0lt, b_0le, b_lt0]
      rw [if_neg (by omega)]
    · intro f _
      rw [l_Af_goOn_7, q_Af_goOn_7]
      simp (disch := omega) only [g1, ↓bc_26, ↓br_26_8, ↓bc_33, ↓bx_33, bl_33, ↓br_26_0, ↓bc_4, ↓br_26_10, ↓bc_35, ↓bx_35, bl_35, ↓b_t0, ↓b_t1, ↓b_t2, ↓b_t3, ↓b_t4, ↓b_t5, ↓b_t6, Nat.zero_add, Nat.le_refl, b_rs, b_rn, b_r2, b_ss, b_sn, b_bt, b_bf, b_b0, b_b1, b_bw, b_shl, b_or, b_iv, b_jv, b_sI, b_sJ, ↓z_hl, z_b0, z_b1, z_b2, b_and1c, b_and1z, if_true, if_false, nI_add, pk_mul, b_cl, b_lt, b_le, b_eq, b_eq0, b_le0, b_0lt, b_0le, b_lt0]
  · exact z_fr_r (z_fr_r z_fr_rf (by decide)) (by decide)
  · unfold c_A
    simp (disch := omega) only [b_rs, b_rn]
    have u : ∀ i, (i < 158 ∨ (159 ≤ i ∧ i < 177) ∨ (225 ≤ i ∧ i < 233) ∨ (241 ≤ i ∧ i < 281) ∨ 282 ≤ i) → w_dark s e i = s i := fun i hi => w_dark_lo hpl ht8 hi
    rw [u 1 (by omega), u 3 (by omega), u 0 (by omega), w_dark_we hpl ht8]
    refine ⟨by rw [u _ (by omega)]; exact c_A26_da hA, ?_, ?_, ?_, ?_, ?_, ?_, ?_, ?_, ?_, ?_, ?_⟩
    · intro i hi; have := i_S_M hS; rw [u _ (by omega)]; exact c_A26_co hA i hi
    · intro i hi; have := i_S_M hS; rw [u _ (by omega)]; exact c_A26_bo hA i hi
    · intro i hi; have := i_S_M hS; rw [u _ (by omega)]; exact c_A26_pp hA i hi
    · intro v hv k hk
      unfold w_goA
      by_cases c1 : v = t
      · subst c1
        rw [w_dark_op hpl ht8 hk]
        by_cases c2 : k < s 0
        · rw [b_rgk c2]
        · rw [b_rgo (by omega), show m 30 (v * 6 + k) = s (177 + 6 * v + k) from c_A26_op hA v hv k hk, i_D_opk hI v hv k (by omega) hk, i_D_shk hI e (by omega) k (by omega) hk]
          rfl
      · rw [w_dark_on hpl ht8 hv hk c1, b_rgo (by omega)]
        exact c_A26_op hA v hv k hk
    · intro i hi; rw [u _ (by omega)]; exact c_A26_ha hA i hi
    · intro i hi; rw [u _ (by omega)]; exact c_A26_pr hA i hi
    · intro i hi; rw [u (241 + i) (by omega), u (261 + i) (by omega)]; exact c_A26_pl hA i hi
    · intro i hi; rw [u (241 + i) (by omega), u (271 + i) (by omega)]; exact c_A26_pd hA i hi
    · intro i hi
      by_cases c1 : i = e
      · subst c1; rw [b_ss, z_or_bt]; simp [b_b]
      · rw [b_sn c1, z_or_bt, decide_eq_false (show ¬ e = i by omega), Bool.or_false]; exact c_A26_we hA i hi
    · intro i hi; rw [u _ (by omega)]; exact c_A26_so hA i hi
    · intro i hi hq k hk
      rw [u _ (by omega)] at hq
      rw [u _ (by omega)]
      exact c_A26_sh hA i hi hq k hk
theorem c_A_price26 {m : Nat → Nat → Nat} {s : Nat → Nat} (hA : c_A m 26 s) (hS : i_S s) {e : Nat} (he : e < s 3) : c_A (b_r m 32 (b_s (m 32) e (s (251 + e) - s 4))) 26 (w_price s e) := by
  have hE := i_S_E hS
  have hM := i_S_M hS
  have hK := i_S_K hS
  have u : ∀ i, (i < 251 ∨ 261 ≤ i) → w_price s e i = s i := fun i hi => b_sn (by omega)
  unfold c_A
  simp (disch := omega) only [b_rs, b_rn]
  rw [u 1 (by omega), u 3 (by omega), u 0 (by omega), u 281 (by omega)]
  refine ⟨by rw [u _ (by omega)]; exact c_A26_da hA, ?_, ?_, ?_, ?_, ?_, ?_, ?_, ?_, ?_, ?_, ?_⟩
  · intro i hi; rw [u _ (by omega)]; exact c_A26_co hA i hi
  · intro i hi; rw [u _ (by omega)]; exact c_A26_bo hA i hi
  · intro i hi; rw [u _ (by omega)]; exact c_A26_pp hA i hi
  · intro v hv k hk; rw [u _ (by omega)]; exact c_A26_op hA v hv k hk
  · intro i hi; rw [u _ (by omega)]; exact c_A26_ha hA i hi
  · intro i hi
    by_cases c1 : i = e
    · subst c1; unfold w_price; rw [b_ss, b_ss]
    · unfold w_price; rw [b_sn c1, b_sn (by omega)]; exact c_A26_pr hA i hi
  · intro i hi; rw [u (241 + i) (by omega), u (261 + i) (by omega)]; exact c_A26_pl hA i hi
  · intro i hi; rw [u (241 + i) (by omega), u (271 + i) (by omega)]; exact c_A26_pd hA i hi
  · intro i hi; exact c_A26_we hA i hi
  · intro i hi; rw [u _ (by omega)]; exact c_A26_so hA i hi
  · intro i hi hq k hk
    rw [u _ (by omega)] at hq
    rw [u _ (by omega)]
    exact c_A26_sh hA i hi hq k hk
theorem c_A_day26 {m : Nat → Nat → Nat} {s : Nat → Nat} (hA : c_A m 26 s) (hS : i_S s) : c_A (b_r m 26 (b_s (m 26) 1 (s 157 + 1))) 26 (b_s s 157 (s 157 + 1)) := by
  have hE := i_S_E hS
  have hM := i_S_M hS
  have hK := i_S_K hS
  have u : ∀ i, i ≠ 157 → b_s s 157 (s 157 + 1) i = s i := fun i hi => b_sn hi
  unfold c_A
  simp (disch := omega) only [b_rs, b_rn, b_ss]
  rw [u 1 (by omega), u 3 (by omega), u 0 (by omega), u 281 (by omega)]
  refine ⟨trivial, ?_, ?_, ?_, ?_, ?_, ?_, ?_, ?_, ?_, ?_, ?_⟩
  · intro i hi; rw [u _ (by omega)]; exact c_A26_co hA i hi
  · intro i hi; rw [u _ (by omega)]; exact c_A26_bo hA i hi
  · intro i hi; rw [u _ (by omega)]; exact c_A26_pp hA i hi
  · intro v hv k hk; rw [u _ (by omega)]; exact c_A26_op hA v hv k hk
  · intro i hi; rw [u _ (by omega)]; exact c_A26_ha hA i hi
  · intro i hi; rw [u _ (by omega)]; exact c_A26_pr hA i hi
  · intro i hi; rw [u (241 + i) (by omega), u (261 + i) (by omega)]; exact c_A26_pl hA i hi
  · intro i hi; rw [u (241 + i) (by omega), u (271 + i) (by omega)]; exact c_A26_pd hA i hi
  · intro i hi; exact c_A26_we hA i hi
  · intro i hi; rw [u _ (by omega)]; exact c_A26_so hA i hi
  · intro i hi hq k hk
    rw [u _ (by omega)] at hq
    rw [u _ (by omega)]
    exact c_A26_sh hA i hi hq k hk
theorem s_Af_passDayB26 {X : Nat × (Nat → Int32)} {tx : List Int32} {d : Nat} {j : Nat → Nat → Nat} {w : (Nat × Nat) × Bool} {m : Nat → Nat → Nat} {s : Nat → Nat} (hF : c_F m 4 s) (hA : c_A m 26 s) (hS : i_S s) (hI : i_D s) (hd : 1 ≤ d) (f : Nat) (hf : 20 ≤ f) :
    ∃ m2, a_rn X tx (a_ex X tx a_T d) (a_go X tx (a_ex X tx a_T d) k_Af_passDay_0 f) k_Af_passDay_24 0 [.ref 26, .int (nI 0)] [] (b_h m j w) = some (b_h m2 j w, none) ∧ z_fr 26 37 m m2 ∧ c_A m2 26 (b_s (w_loopB s (s 3)) 157 (s 157 + 1)) := by
  have hE := i_S_E hS
  rw [← l_Af_passDay_24]
  refine z_run (Q := fun r => ∃ m2, r = some (b_h m2 j w, none) ∧ z_fr 26 37 m m2 ∧ c_A m2 26 (b_s (w_loopB s (s 3)) 157 (s 157 + 1))) (fun k L h => ∃ n m3, k + n = s 3 ∧ L = [.ref 26, .int (nI n)] ∧ h = b_h m3 j w ∧ z_fr 26 37 m m3 ∧ c_A m3 26 (w_loopB s n)) 0 ?_ (s 3) _ _ ⟨0, m, by omega, rfl, rfl, z_fr_rf, hA⟩ _ (by omega)
  rintro k L h ⟨n, m3, hk, rfl, rfl, hfr, hA3⟩ f _
  obtain ⟨h1, h2, h3⟩ := w_loopB_ok hS hI n (by omega)
  have hF3 : c_F m3 4 (w_loopB s n) := c_F_fr (by decide) hfr (fun i hi => h3 i (by omega)) hS hF
  have g1 := c_F4_E hF3
  have g2 := c_A26_da hA3
  have g3 := h3 3 (by omega)
  have g4 := h3 157 (by omega)
  have g5 := i_D_da hI
  rw [l_Af_passDay_24, q_Af_passDay_24]
  by_cases hn : n = s 3
  · left
    subst hn
    refine ⟨_, ?_, ?_, c_A_day26 hA3 h1 |> (fun h => by rw [g4] at h; exact h)⟩
    · simp (disch := omega) only [g1, g2, g3, g4, ↓bc_26, ↓br_26_0, ↓bc_4, ↓br_26_11, ↓bc_36, ↓bx_36, bl_36, ↓br_26_7, ↓bc_32, ↓bx_32, bl_32, ↓b_t0, ↓b_t1, ↓b_t2, ↓b_t3, ↓b_t4, ↓b_t5, ↓b_t6, Nat.zero_add, Nat.le_refl, b_rs, b_rn, b_r2, b_ss, b_sn, b_bt, b_bf, b_b0, b_b1, b_bw, b_shl, b_or, b_iv, b_jv, b_sI, b_sJ, ↓z_hl, z_b0, z_b1, z_b2, b_and1c, b_and1z, if_true, if_false, nI_add, pk_mul, b_cl, b_lt, b_le, b_eq, b_eq0, b_le0, b_0lt, b_0le, b_lt0]
    · exact z_fr_r hfr (by decide)
  · right
    have hn2 : n < w_loopB s n 3 := by omega
    have k1 := c_A26_so hA3 n hn2
    have k2 := c_A26_pr hA3 n hn2
    have k3 := c_F4_U hF3
    have k4 := i_D_pr h2 n (by omega)
    have k5 := i_S_U h1
    by_cases c1 : w_loopB s n (241 + n) = 4294967295
    · refine ⟨k - 1, _, _, by omega, ⟨n + 1, m3, by omega, rfl, rfl, hfr, ?_⟩, ?_⟩
      · show c_A m3 26 (w_stepB (w_loopB s n) n)
        unfold w_stepB
        rw [if_neg (fun h => h.1 c1)]
        exact hA3
      · simp (disch := omega) only [g1, g3, s_Af_isPut26 hA3 h1 h2, decide_eq_false_iff_not, ↓bc_26, ↓br_26_0, ↓bc_4, ↓br_26_11, ↓bc_36, ↓bx_36, bl_36, ↓br_26_7, ↓bc_32, ↓bx_32, bl_32, ↓b_t0, ↓b_t1, ↓b_t2, ↓b_t3, ↓b_t4, ↓b_t5, ↓b_t6, Nat.zero_add, Nat.le_refl, b_rs, b_rn, b_r2, b_ss, b_sn, b_bt, b_bf, b_b0, b_b1, b_bw, b_shl, b_or, b_iv, b_jv, b_sI, b_sJ, ↓z_hl, z_b0, z_b1, z_b2, b_and1c, b_and1z, if_true, if_false, nI_add, pk_mul, b_cl, b_lt, b_le, b_eq, b_eq0, b_le0, b_0lt, b_0le, b_lt0]
        rw [if_neg (by omega), if_neg (fun h => h c1)]
    · by_cases c2 : nI (w_loopB s n (282 + n)) = 0
      · refine ⟨k - 1, _, _, by omega, ⟨n + 1, b_r m3 32 (b_s (m3 32) n (w_loopB s n (251 + n) - w_loopB s n 4)), by omega, rfl, rfl, z_fr_r hfr (by decide), ?_⟩, ?_⟩
        · show c_A _ 26 (w_stepB (w_loopB s n) n)
          unfold w_stepB
          rw [if_pos ⟨c1, c2⟩]
          exact c_A_price26 hA3 h1 hn2
        · by_cases c5 : w_loopB s n 4 ≤ w_loopB s n (251 + n)
          · simp (disch := omega) only [g1, g3, s_Af_isPut26 hA3 h1 h2, decide_eq_false_iff_not, k1, k2, k3, c2, b_sub, b_max, ↓bc_26, ↓br_26_0, ↓bc_4, ↓br_26_11, ↓bc_36, ↓bx_36, bl_36, ↓br_26_7, ↓bc_32, ↓bx_32, bl_32, ↓b_t0, ↓b_t1, ↓b_t2, ↓b_t3, ↓b_t4, ↓b_t5, ↓b_t6, Nat.zero_add, Nat.le_refl, b_rs, b_rn, b_r2, b_ss, b_sn, b_bt, b_bf, b_b0, b_b1, b_bw, b_shl, b_or, b_iv, b_jv, b_sI, b_sJ, ↓z_hl, z_b0, z_b1, z_b2, b_and1c, b_and1z, if_true, if_false, nI_add, pk_mul, b_cl, b_lt, b_le, b_eq, b_eq0, b_le0, b_0lt, b_0le, b_lt0]
            rw [if_neg (by omega), if_pos c1, Nat.zero_max]
          · have c6 : a_max (nI 0) (nI (w_loopB s n (251 + n) + 4294967296 - w_loopB s n 4)) = nI (w_loopB s n (251 + n) - w_loopB s n 4) := by
              unfold a_max
              rw [if_neg (by rw [b_ltm (by omega) (by omega) (by omega)]; exact id), show w_loopB s n (251 + n) - w_loopB s n 4 = 0 by omega]
            simp (disch := omega) only [g1, g3, s_Af_isPut26 hA3 h1 h2, decide_eq_false_iff_not, k1, k2, k3, c2, b_subn, c6, ↓bc_26, ↓br_26_0, ↓bc_4, ↓br_26_11, ↓bc_36, ↓bx_36, bl_36, ↓br_26_7, ↓bc_32, ↓bx_32, bl_32, ↓b_t0, ↓b_t1, ↓b_t2, ↓b_t3, ↓b_t4, ↓b_t5, ↓b_t6, Nat.zero_add, Nat.le_refl, b_rs, b_rn, b_r2, b_ss, b_sn, b_bt, b_bf, b_b0, b_b1, b_bw, b_shl, b_or, b_iv, b_jv, b_sI, b_sJ, ↓z_hl, z_b0, z_b1, z_b2, b_and1c, b_and1z, if_true, if_false, nI_add, pk_mul, b_cl, b_lt, b_le, b_eq, b_eq0, b_le0, b_0lt, b_0le, b_lt0]
            rw [if_neg (by omega), if_pos c1]
      · refine ⟨k - 1, _, _, by omega, ⟨n + 1, m3, by omega, rfl, rfl, hfr, ?_⟩, ?_⟩
        · show c_A m3 26 (w_stepB (w_loopB s n) n)
          unfold w_stepB
          rw [if_neg (fun h => c2 h.2)]
          exact hA3
        · simp (disch := omega) only [g1, g3, s_Af_isPut26 hA3 h1 h2, decide_eq_false_iff_not, k1, c2, ↓bc_26, ↓br_26_0, ↓bc_4, ↓br_26_11, ↓bc_36, ↓bx_36, bl_36, ↓br_26_7, ↓bc_32, ↓bx_32, bl_32, ↓b_t0, ↓b_t1, ↓b_t2, ↓b_t3, ↓b_t4, ↓b_t5, ↓b_t6, Nat.zero_add, Nat.le_refl, b_rs, b_rn, b_r2, b_ss, b_sn, b_bt, b_bf, b_b0, b_b1, b_bw, b_shl, b_or, b_iv, b_jv, b_sI, b_sJ, ↓z_hl, z_b0, z_b1, z_b2, b_and1c, b_and1z, if_true, if_false, nI_add, pk_mul, b_cl, b_lt, b_le, b_eq, b_eq0, b_le0, b_0lt, b_0le, b_lt0]
          rw [if_neg (by omega), if_pos c1]
theorem s_Af_passDay26 {X : Nat × (Nat → Int32)} {tx : List Int32} {D : Nat} {m j : Nat → Nat → Nat} {w : (Nat × Nat) × Bool} {s : Nat → Nat} (hF : c_F m 4 s) (hA : c_A m 26 s) (hS : i_S s) (hI : i_D s) (hD : 4 ≤ D) :
    ∃ m2, a_ex X tx a_T D 74 [.ref 26] (b_h m j w) = some (b_h m2 j w, none) ∧ z_fr 26 37 m m2 ∧ c_A m2 26 (w_day s) := by
  have hE := i_S_E hS
  obtain ⟨d, rfl⟩ : ∃ d, D = d + 1 := ⟨D - 1, by omega⟩
  rw [e_Af_passDay, q_Af_passDay_0]
  rw [← l_Af_passDay_2]
  refine z_run (Q := fun r => ∃ m2, r = some (b_h m2 j w, none) ∧ z_fr 26 37 m m2 ∧ c_A m2 26 (w_day s)) (fun k L h => ∃ n m3, k + n = s 3 ∧ L = [.ref 26, .int (nI n)] ∧ h = b_h m3 j w ∧ z_fr 26 37 m m3 ∧ c_A m3 26 (w_loopA s n)) 30 ?_ (s 3) _ _ ⟨0, m, by omega, rfl, rfl, z_fr_rf, hA⟩ _ (z_fu (by omega))
  rintro k L h ⟨n, m3, hk, rfl, rfl, hfr, hA3⟩ f hf
  obtain ⟨h1, h2, h3⟩ := w_loopA_ok hS hI n (by omega)
  have hF3 : c_F m3 4 (w_loopA s n) := c_F_fr (by decide) hfr (fun i hi => h3 i (by omega)) hS hF
  have g1 := c_F4_E hF3
  have g2 := c_A26_da hA3
  have g3 := h3 3 (by omega)
  have g4 := h3 157 (by omega)
  have g5 := i_D_da hI
  rw [l_Af_passDay_2, q_Af_passDay_2]
  by_cases hn : n = s 3
  · left
    subst hn
    obtain ⟨m4, k1, k2, k3⟩ := s_Af_passDayB26 (X := X) (tx := tx) (d := d) (j := j) (w := w) hF3 hA3 h1 h2 (by omega) f (by omega)
    refine ⟨m4, ?_, z_fr_tr hfr k2, ?_⟩
    · simp (disch := omega) only [g1, g3, ↓bc_26, ↓br_26_0, ↓bc_4, ↓br_26_11, ↓bc_36, ↓bx_36, bl_36, ↓br_26_7, ↓bc_32, ↓bx_32, bl_32, ↓b_t0, ↓b_t1, ↓b_t2, ↓b_t3, ↓b_t4, ↓b_t5, ↓b_t6, Nat.zero_add, Nat.le_refl, b_rs, b_rn, b_r2, b_ss, b_sn, b_bt, b_bf, b_b0, b_b1, b_bw, b_shl, b_or, b_iv, b_jv, b_sI, b_sJ, ↓z_hl, z_b0, z_b1, z_b2, b_and1c, b_and1z, if_true, if_false, nI_add, pk_mul, b_cl, b_lt, b_le, b_eq, b_eq0, b_le0, b_0lt, b_0le, b_lt0]
      exact k1
    · rw [g3, w_dloop_AB hS hI _ (Nat.le_refl _), g4] at k3
      exact k3
  · right
    have hn2 : n < w_loopA s n 3 := by omega
    have q1 := h3 (241 + n) (by omega)
    have q2 := h3 (147 + n) (by omega)
    have q3 := h3 (271 + n) (by omega)
    by_cases c1 : w_wait (w_loopA s n) n = true
    · have c1' := c1
      unfold w_wait at c1'
      simp only [Bool.and_eq_true, decide_eq_true_eq, Bool.not_eq_true'] at c1'
      obtain ⟨⟨p1, p2⟩, p3⟩ := c1'
      have p4 := i_D_po h2 n hn2 p2
      have p5 := i_S_fd h1 n (by omega)
      have p6 := i_D_da h2
      by_cases c2 : w_loopA s n 157 + 1 = w_loopA s n (271 + n) + w_loopA s n (147 + n)
      · obtain ⟨m4, k1, k2, k3⟩ := s_Af_goOn26 (X := X) (tx := tx) (D := d) (j := j) (w := w) hF3 hA3 h1 h2 (by omega) hn2 p2
        refine ⟨k - 1, _, _, by omega, ⟨n + 1, m4, by omega, rfl, rfl, z_fr_tr hfr k2, ?_⟩, ?_⟩
        · show c_A m4 26 (w_stepA (w_loopA s n) n)
          unfold w_stepA
          rw [if_pos ⟨p2, p1, p3, c2⟩]
          exact k3
        · have c3 : w_loopA s n (271 + n) + w_loopA s n (147 + n) - 1 = w_loopA s n 157 := by omega
          simp (disch := omega) only [g1, g2, g3, s_Af_isWaiting26 hF3 hA3 h1 h2, s_Af_lastQuietDay26 hF3 hA3 h1 h2 _ _ p2, c1, k1, ↓bc_26, ↓br_26_0, ↓bc_4, ↓br_26_11, ↓bc_36, ↓bx_36, bl_36, ↓br_26_7, ↓bc_32, ↓bx_32, bl_32, ↓b_t0, ↓b_t1, ↓b_t2, ↓b_t3, ↓b_t4, ↓b_t5, ↓b_t6, Nat.zero_add, Nat.le_refl, b_rs, b_rn, b_r2, b_ss, b_sn, b_bt, b_bf, b_b0, b_b1, b_bw, b_shl, b_or, b_iv, b_jv, b_sI, b_sJ, ↓z_hl, z_b0, z_b1, z_b2, b_and1c, b_and1z, if_true, if_false, nI_add, pk_mul, b_cl, b_lt, b_le, b_eq, b_eq0, b_le0, b_0lt, b_0le, b_lt0]
          rw [if_neg (by omega), if_neg (by decide), if_pos c3]
      · refine ⟨k - 1, _, _, by omega, ⟨n + 1, m3, by omega, rfl, rfl, hfr, ?_⟩, ?_⟩
        · show c_A m3 26 (w_stepA (w_loopA s n) n)
          unfold w_stepA
          rw [if_neg (fun h => c2 h.2.2.2)]
          exact hA3
        · have c3 : ¬ w_loopA s n (271 + n) + w_loopA s n (147 + n) - 1 = w_loopA s n 157 := by omega
          simp (disch := omega) only [g1, g2, g3, s_Af_isWaiting26 hF3 hA3 h1 h2, s_Af_lastQuietDay26 hF3 hA3 h1 h2 _ _ p2, c1, ↓bc_26, ↓br_26_0, ↓bc_4, ↓br_26_11, ↓bc_36, ↓bx_36, bl_36, ↓br_26_7, ↓bc_32, ↓bx_32, bl_32, ↓b_t0, ↓b_t1, ↓b_t2, ↓b_t3, ↓b_t4, ↓b_t5, ↓b_t6, Nat.zero_add, Nat.le_refl, b_rs, b_rn, b_r2, b_ss, b_sn, b_bt, b_bf, b_b0, b_b1, b_bw, b_shl, b_or, b_iv, b_jv, b_sI, b_sJ, ↓z_hl, z_b0, z_b1, z_b2, b_and1c, b_and1z, if_true, if_false, nI_add, pk_mul, b_cl, b_lt, b_le, b_eq, b_eq0, b_le0, b_0lt, b_0le, b_lt0]
          rw [if_neg (by omega), if_neg (by decide), if_neg c3]
    · refine ⟨k - 1, _, _, by omega, ⟨n + 1, m3, by omega, rfl, rfl, hfr, ?_⟩, ?_⟩
      · show c_A m3 26 (w_stepA (w_loopA s n) n)
        unfold w_stepA
        rw [if_neg (fun h => c1 (by unfold w_wait; simp [h.1, h.2.1, h.2.2.1]))]
        exact hA3
      · simp (disch := omega) only [g1, g3, s_Af_isWaiting26 hF3 hA3 h1 h2, Bool.eq_false_iff.mpr c1, ↓bc_26, ↓br_26_0, ↓bc_4, ↓br_26_11, ↓bc_36, ↓bx_36, bl_36, ↓br_26_7, ↓bc_32, ↓bx_32, bl_32, ↓b_t0, ↓b_t1, ↓b_t2, ↓b_t3, ↓b_t4, ↓b_t5, ↓b_t6, Nat.zero_add, Nat.le_refl, b_rs, b_rn, b_r2, b_ss, b_sn, b_bt, b_bf, b_b0, b_b1, b_bw, b_shl, b_or, b_iv, b_jv, b_sI, b_sJ, ↓z_hl, z_b0, z_b1, z_b2, b_and1c, b_and1z, if_true, if_false, nI_add, pk_mul, b_cl, b_lt, b_le, b_eq, b_eq0, b_le0, b_0lt, b_0le, b_lt0]
        rw [if_neg (by omega)]
theorem s_Af_passDays26 {X : Nat × (Nat → Int32)} {tx : List Int32} {D : Nat} {m j : Nat → Nat → Nat} {w : (Nat × Nat) × Bool} {s : Nat → Nat} (hF : c_F m 4 s) (hA : c_A m 26 s) (hS : i_S s) (hI : i_D s) (hD : 5 ≤ D) {q : Nat} (hq : s 157 + q ≤ 400) :
    ∃ m2, a_ex X tx a_T D 73 [.ref 26, .int (nI q)] (b_h m j w) = some (b_h m2 j w, none) ∧ z_fr 26 37 m m2 ∧ c_A m2 26 (w_days s q) := by
  obtain ⟨d, rfl⟩ : ∃ d, D = d + 1 := ⟨D - 1, by omega⟩
  rw [e_Af_passDays, q_Af_passDays_0]
  rw [← l_Af_passDays_2]
  refine z_run (Q := fun r => ∃ m2, r = some (b_h m2 j w, none) ∧ z_fr 26 37 m m2 ∧ c_A m2 26 (w_days s q)) (fun k L h => ∃ n m3, k + n = q ∧ L = [.ref 26, .int (nI q), .int (nI n)] ∧ h = b_h m3 j w ∧ z_fr 26 37 m m3 ∧ c_A m3 26 (w_days s n)) 0 ?_ q _ _ ⟨0, m, by omega, rfl, rfl, z_fr_rf, hA⟩ _ (z_fu (by omega))
  rintro k L h ⟨n, m3, hk, rfl, rfl, hfr, hA3⟩ f hf
  obtain ⟨h1, h2, h3, h4⟩ := w_days_ok hS hI n (by omega)
  have hF3 : c_F m3 4 (w_days s n) := c_F_fr (by decide) hfr (fun i hi => h4 i (by omega)) hS hF
  rw [l_Af_passDays_2, q_Af_passDays_2]
  by_cases hn : n = q
  · left
    subst hn
    exact ⟨m3, by simp (disch := omega) only [↓bc_26, ↓b_t0, ↓b_t1, ↓b_t2, ↓b_t3, ↓b_t4, ↓b_t5, ↓b_t6, Nat.zero_add, Nat.le_refl, b_rs, b_rn, b_r2, b_ss, b_sn, b_bt, b_bf, b_b0, b_b1, b_bw, b_shl, b_or, b_iv, b_jv, b_sI, b_sJ, ↓z_hl, z_b0, z_b1, z_b2, b_and1c, b_and1z, if_true, if_false, nI_add, pk_mul, b_cl, b_lt, b_le, b_eq, b_eq0, b_le0, b_0lt, b_0le, b_lt0], hfr, hA3⟩
  · right
    obtain ⟨m4, k1, k2, k3⟩ := s_Af_passDay26 (X := X) (tx := tx) (D := d) (j := j) (w := w) hF3 hA3 h1 h2 (by omega)
    refine ⟨k - 1, _, _, by omega, ⟨n + 1, m4, by omega, rfl, rfl, z_fr_tr hfr k2, k3⟩, ?_⟩
    simp (disch := omega) only [k1, ↓bc_26, ↓b_t0, ↓b_t1, ↓b_t2, ↓b_t3, ↓b_t4, ↓b_t5, ↓b_t6, Nat.zero_add, Nat.le_refl, b_rs, b_rn, b_r2, b_ss, b_sn, b_bt, b_bf, b_b0, b_b1, b_bw, b_shl, b_or, b_iv, b_jv, b_sI, b_sJ, ↓z_hl, z_b0, z_b1, z_b2, b_and1c, b_and1z, if_true, if_false, nI_add, pk_mul, b_cl, b_lt, b_le, b_eq, b_eq0, b_le0, b_0lt, b_0le, b_lt0]
    rw [if_neg (by omega)]
theorem s_Af_shutm38 {X : Nat × (Nat → Int32)} {tx : List Int32} {D : Nat} {m j : Nat → Nat → Nat} {w : (Nat × Nat) × Bool} (hD : 1 ≤ D) {e k : Nat} (he : e < 10) (hk : k < 6) : a_ex X tx a_T D 51 [.ref 38, .int (nI e), .int (nI k)] (b_h m j w) = some ((b_h m j w), some (.int (nI (m 49 (e * 6 + k))))) := by
  obtain ⟨d, rfl⟩ : ∃ d, D = d + 1 := ⟨D - 1, by omega⟩
  rw [e_Af_shutBy, q_Af_shutBy_0]
  simp (disch := omega) only [↓bc_38, ↓br_38_12, ↓bc_49, ↓bx_49, bl_49, ↓b_t0, ↓b_t1, ↓b_t2, ↓b_t3, ↓b_t4, ↓b_t5, ↓b_t6, Nat.zero_add, Nat.le_refl, b_rs, b_rn, b_r2, b_ss, b_sn, b_bt, b_bf, b_b0, b_b1, b_bw, b_shl, b_or, b_iv, b_jv, b_sI, b_sJ, ↓z_hl, z_b0, z_b1, z_b2, b_and1c, b_and1z, if_true, if_false, nI_add, pk_mul, b_cl, b_lt, b_le, b_eq, b_eq0, b_le0, b_0lt, b_0le, b_lt0]
  rw [if_neg (by omega), if_neg (by omega)]
theorem s_Af_goOn38 {X : Nat × (Nat → Int32)} {tx : List Int32} {D : Nat} {m j : Nat → Nat → Nat} {w : (Nat × Nat) × Bool} {s : Nat → Nat} (hF : c_F m 4 s) (hA : c_A m 38 s) (hS : i_S s) (hI : i_D s) (hD : 2 ≤ D) {e : Nat} (he : e < s 3) (hp : s (241 + e) = 4294967295) :
    ∃ m2, a_ex X tx a_T D 77 [.ref 38, .int (nI e)] (b_h m j w) = some (b_h m2 j w, none) ∧ z_fr 38 49 m m2 ∧ c_A m2 38 (w_dark s e) := by
  have hE := i_S_E hS
  have hT := i_S_T hS
  have hK := i_S_K hS
  obtain ⟨t, ht, ht8, hpl⟩ := i_place hS hI he hp
  refine ⟨b_r (b_r m 42 (w_goA (m 42) s e t (s 0))) 47 (b_s (m 47) e 1), ?_, ?_, ?_⟩
  · obtain ⟨d, rfl⟩ : ∃ d, D = d + 1 := ⟨D - 1, by omega⟩
    rw [e_Af_goOn, q_Af_goOn_0]
    have g1 := c_F4_K hF
    have g2 := c_A38_pl hA e he
    rw [if_pos hp, hpl, Nat.add_sub_cancel] at g2
    simp (disch := omega) only [g2, ↓bc_38, ↓br_38_8, ↓bc_45, ↓bx_45, bl_45, ↓br_38_0, ↓bc_4, ↓br_38_10, ↓bc_47, ↓bx_47, bl_47, ↓b_t0, ↓b_t1, ↓b_t2, ↓b_t3, ↓b_t4, ↓b_t5, ↓b_t6, Nat.zero_add, Nat.le_refl, b_rs, b_rn, b_r2, b_ss, b_sn, b_bt, b_bf, b_b0, b_b1, b_bw, b_shl, b_or, b_iv, b_jv, b_sI, b_sJ, ↓z_hl, z_b0, z_b1, z_b2, b_and1c, b_and1z, if_true, if_false, nI_add, pk_mul, b_cl, b_lt, b_le, b_eq, b_eq0, b_le0, b_0lt, b_0le, b_lt0]
    rw [← l_Af_goOn_7]
    refine z_lp (fun n => [.ref 38, .int (nI e), .int (nI t), .int (nI n)]) (fun n => b_h (b_r m 42 (w_goA (m 42) s e t n)) j w) (s 0) 0 rfl (by simp [w_goA, b_rg0, b_ri]) ?_ ?_ _ (z_fu (by omega))
    · intro n hn f _
      rw [l_Af_goOn_7, q_Af_goOn_7]
      have b2 := i_D_op hI t (by omega) n (by omega)
      have b3 := i_D_sh hI e (by omega) n (by omega)
      have e1 : w_goA (m 42) s e t n (t * 6 + n) = s (177 + 6 * t + n) := by unfold w_goA; rw [b_rgo (by omega)]; exact c_A38_op hA t (by omega) n (by omega)
      have e2 := c_A38_sh hA e he hp n hn
      simp (disch := omega) only [g1, s_Af_amountm38, s_Af_shutm38, s_Af_setAmount38, e1, e2, b_min, w_goA1, ↓bc_38, ↓br_38_8, ↓bc_45, ↓bx_45, bl_45, ↓br_38_0, ↓bc_4, ↓br_38_10, ↓bc_47, ↓bx_47, bl_47, ↓b_t0, ↓b_t1, ↓b_t2, ↓b_t3, ↓b_t4, ↓b_t5, ↓b_t6, Nat.zero_add, Nat.le_refl, b_rs, b_rn, b_r2, b_ss, b_sn, b_bt, b_bf, b_b0, b_b1, b_bw, b_shl, b_or, b_iv, b_jv, b_sI, b_sJ, ↓z_hl, z_b0, z_b1, z_b2, b_and1c, b_and1z, if_true, if_false, nI_add, pk_mul, b_cl, b_lt, b_le, b_eq, b_eq0, b_le0, b_0lt, b_0le, b_lt0]
      rw [if_neg (by omega)]
    · intro f _
      rw [l_Af_goOn_7, q_Af_goOn_7]
      simp (disch := omega) only [g1, ↓bc_38, ↓br_38_8, ↓bc_45, ↓bx_45, bl_45, ↓br_38_0, ↓bc_4, ↓br_38_10, ↓bc_47, ↓bx_47, bl_47, ↓b_t0, ↓b_t1, ↓b_t2, ↓b_t3, ↓b_t4, ↓b_t5, ↓b_t6, Nat.zero_add, Nat.le_refl, b_rs, b_rn, b_r2, b_ss, b_sn, b_bt, b_bf, b_b0, b_b1, b_bw, b_shl, b_or, b_iv, b_jv, b_sI, b_sJ, ↓z_hl, z_b0, z_b1, z_b2, b_and1c, b_and1z, if_true, if_false, nI_add, pk_mul, b_cl, b_lt, b_le, b_eq, b_eq0, b_le0, b_0lt, b_0le, b_lt0]
  · exact z_fr_r (z_fr_r z_fr_rf (by decide)) (by decide)
  · unfold c_A
    simp (disch := omega) only [b_rs, b_rn]
    have u : ∀ i, (i < 158 ∨ (159 ≤ i ∧ i < 177) ∨ (225 ≤ i ∧ i < 233) ∨ (241 ≤ i ∧ i < 281) ∨ 282 ≤ i) → w_dark s e i = s i := fun i hi => w_dark_lo hpl ht8 hi
    rw [u 1 (by omega), u 3 (by omega), u 0 (by omega), w_dark_we hpl ht8]
    refine ⟨by rw [u _ (by omega)]; exact c_A38_da hA, ?_, ?_, ?_, ?_, ?_, ?_, ?_, ?_, ?_, ?_, ?_⟩
    · intro i hi; have := i_S_M hS; rw [u _ (by omega)]; exact c_A38_co hA i hi
    · intro i hi; have := i_S_M hS; rw [u _ (by omega)]; exact c_A38_bo hA i hi
    · intro i hi; have := i_S_M hS; rw [u _ (by omega)]; exact c_A38_pp hA i hi
    · intro v hv k hk
      unfold w_goA
      by_cases c1 : v = t
      · subst c1
        rw [w_dark_op hpl ht8 hk]
        by_cases c2 : k < s 0
        · rw [b_rgk c2]
        · rw [b_rgo (by omega), show m 42 (v * 6 + k) = s (177 + 6 * v + k) from c_A38_op hA v hv k hk, i_D_opk hI v hv k (by omega) hk, i_D_shk hI e (by omega) k (by omega) hk]
          rfl
      · rw [w_dark_on hpl ht8 hv hk c1, b_rgo (by omega)]
        exact c_A38_op hA v hv k hk
    · intro i hi; rw [u _ (by omega)]; exact c_A38_ha hA i hi
    · intro i hi; rw [u _ (by omega)]; exact c_A38_pr hA i hi
    · intro i hi; rw [u (241 + i) (by omega), u (261 + i) (by omega)]; exact c_A38_pl hA i hi
    · intro i hi; rw [u (241 + i) (by omega), u (271 + i) (by omega)]; exact c_A38_pd hA i hi
    · intro i hi
      by_cases c1 : i = e
      · subst c1; rw [b_ss, z_or_bt]; simp [b_b]
      · rw [b_sn c1, z_or_bt, decide_eq_false (show ¬ e = i by omega), Bool.or_false]; exact c_A38_we hA i hi
    · intro i hi; rw [u _ (by omega)]; exact c_A38_so hA i hi
    · intro i hi hq k hk
      rw [u _ (by omega)] at hq
      rw [u _ (by omega)]
      exact c_A38_sh hA i hi hq k hk
theorem c_A_price38 {m : Nat → Nat → Nat} {s : Nat → Nat} (hA : c_A m 38 s) (hS : i_S s) {e : Nat} (he : e < s 3) : c_A (b_r m 44 (b_s (m 44) e (s (251 + e) - s 4))) 38 (w_price s e) := by
  have hE := i_S_E hS
  have hM := i_S_M hS
  have hK := i_S_K hS
  have u : ∀ i, (i < 251 ∨ 261 ≤ i) → w_price s e i = s i := fun i hi => b_sn (by omega)
  unfold c_A
  simp (disch := omega) only [b_rs, b_rn]
  rw [u 1 (by omega), u 3 (by omega), u 0 (by omega), u 281 (by omega)]
  refine ⟨by rw [u _ (by omega)]; exact c_A38_da hA, ?_, ?_, ?_, ?_, ?_, ?_, ?_, ?_, ?_, ?_, ?_⟩
  · intro i hi; rw [u _ (by omega)]; exact c_A38_co hA i hi
  · intro i hi; rw [u _ (by omega)]; exact c_A38_bo hA i hi
  · intro i hi; rw [u _ (by omega)]; exact c_A38_pp hA i hi
  · intro v hv k hk; rw [u _ (by omega)]; exact c_A38_op hA v hv k hk
  · intro i hi; rw [u _ (by omega)]; exact c_A38_ha hA i hi
  · intro i hi
    by_cases c1 : i = e
    · subst c1; unfold w_price; rw [b_ss, b_ss]
    · unfold w_price; rw [b_sn c1, b_sn (by omega)]; exact c_A38_pr hA i hi
  · intro i hi; rw [u (241 + i) (by omega), u (261 + i) (by omega)]; exact c_A38_pl hA i hi
  · intro i hi; rw [u (241 + i) (by omega), u (271 + i) (by omega)]; exact c_A38_pd hA i hi
  · intro i hi; exact c_A38_we hA i hi
  · intro i hi; rw [u _ (by omega)]; exact c_A38_so hA i hi
  · intro i hi hq k hk
    rw [u _ (by omega)] at hq
    rw [u _ (by omega)]
    exact c_A38_sh hA i hi hq k hk
theorem c_A_day38 {m : Nat → Nat → Nat} {s : Nat → Nat} (hA : c_A m 38 s) (hS : i_S s) : c_A (b_r m 38 (b_s (m 38) 1 (s 157 + 1))) 38 (b_s s 157 (s 157 + 1)) := by
  have hE := i_S_E hS
  have hM := i_S_M hS
  have hK := i_S_K hS
  have u : ∀ i, i ≠ 157 → b_s s 157 (s 157 + 1) i = s i := fun i hi => b_sn hi
  unfold c_A
  simp (disch := omega) only [b_rs, b_rn, b_ss]
  rw [u 1 (by omega), u 3 (by omega), u 0 (by omega), u 281 (by omega)]
  refine ⟨trivial, ?_, ?_, ?_, ?_, ?_, ?_, ?_, ?_, ?_, ?_, ?_⟩
  · intro i hi; rw [u _ (by omega)]; exact c_A38_co hA i hi
  · intro i hi; rw [u _ (by omega)]; exact c_A38_bo hA i hi
  · intro i hi; rw [u _ (by omega)]; exact c_A38_pp hA i hi
  · intro v hv k hk; rw [u _ (by omega)]; exact c_A38_op hA v hv k hk
  · intro i hi; rw [u _ (by omega)]; exact c_A38_ha hA i hi
  · intro i hi; rw [u _ (by omega)]; exact c_A38_pr hA i hi
  · intro i hi; rw [u (241 + i) (by omega), u (261 + i) (by omega)]; exact c_A38_pl hA i hi
  · intro i hi; rw [u (241 + i) (by omega), u (271 + i) (by omega)]; exact c_A38_pd hA i hi
  · intro i hi; exact c_A38_we hA i hi
  · intro i hi; rw [u _ (by omega)]; exact c_A38_so hA i hi
  · intro i hi hq k hk
    rw [u _ (by omega)] at hq
    rw [u _ (by omega)]
    exact c_A38_sh hA i hi hq k hk
theorem s_Af_passDayB38 {X : Nat × (Nat → Int32)} {tx : List Int32} {d : Nat} {j : Nat → Nat → Nat} {w : (Nat × Nat) × Bool} {m : Nat → Nat → Nat} {s : Nat → Nat} (hF : c_F m 4 s) (hA : c_A m 38 s) (hS : i_S s) (hI : i_D s) (hd : 1 ≤ d) (f : Nat) (hf : 20 ≤ f) :
    ∃ m2, a_rn X tx (a_ex X tx a_T d) (a_go X tx (a_ex X tx a_T d) k_Af_passDay_0 f) k_Af_passDay_24 0 [.ref 38, .int (nI 0)] [] (b_h m j w) = some (b_h m2 j w, none) ∧ z_fr 38 49 m m2 ∧ c_A m2 38 (b_s (w_loopB s (s 3)) 157 (s 157 + 1)) := by
  have hE := i_S_E hS
  rw [← l_Af_passDay_24]
  refine z_run (Q := fun r => ∃ m2, r = some (b_h m2 j w, none) ∧ z_fr 38 49 m m2 ∧ c_A m2 38 (b_s (w_loopB s (s 3)) 157 (s 157 + 1))) (fun k L h => ∃ n m3, k + n = s 3 ∧ L = [.ref 38, .int (nI n)] ∧ h = b_h m3 j w ∧ z_fr 38 49 m m3 ∧ c_A m3 38 (w_loopB s n)) 0 ?_ (s 3) _ _ ⟨0, m, by omega, rfl, rfl, z_fr_rf, hA⟩ _ (by omega)
  rintro k L h ⟨n, m3, hk, rfl, rfl, hfr, hA3⟩ f _
  obtain ⟨h1, h2, h3⟩ := w_loopB_ok hS hI n (by omega)
  have hF3 : c_F m3 4 (w_loopB s n) := c_F_fr (by decide) hfr (fun i hi => h3 i (by omega)) hS hF
  have g1 := c_F4_E hF3
  have g2 := c_A38_da hA3
  have g3 := h3 3 (by omega)
  have g4 := h3 157 (by omega)
  have g5 := i_D_da hI
  rw [l_Af_passDay_24, q_Af_passDay_24]
  by_cases hn : n = s 3
  · left
    subst hn
    refine ⟨_, ?_, ?_, c_A_day38 hA3 h1 |> (fun h => by rw [g4] at h; exact h)⟩
    · simp (disch := omega) only [g1, g2, g3, g4, ↓bc_38, ↓br_38_0, ↓bc_4, ↓br_38_11, ↓bc_48, ↓bx_48, bl_48, ↓br_38_7, ↓bc_44, ↓bx_44, bl_44, ↓b_t0, ↓b_t1, ↓b_t2, ↓b_t3, ↓b_t4, ↓b_t5, ↓b_t6, Nat.zero_add, Nat.le_refl, b_rs, b_rn, b_r2, b_ss, b_sn, b_bt, b_bf, b_b0, b_b1, b_bw, b_shl, b_or, b_iv, b_jv, b_sI, b_sJ, ↓z_hl, z_b0, z_b1, z_b2, b_and1c, b_and1z, if_true, if_false, nI_add, pk_mul, b_cl, b_lt, b_le, b_eq, b_eq0, b_le0, b_0lt, b_0le, b_lt0]
    · exact z_fr_r hfr (by decide)
  · right
    have hn2 : n < w_loopB s n 3 := by omega
    have k1 := c_A38_so hA3 n hn2
    have k2 := c_A38_pr hA3 n hn2
    have k3 := c_F4_U hF3
    have k4 := i_D_pr h2 n (by omega)
    have k5 := i_S_U h1
    by_cases c1 : w_loopB s n (241 + n) = 4294967295
    · refine ⟨k - 1, _, _, by omega, ⟨n + 1, m3, by omega, rfl, rfl, hfr, ?_⟩, ?_⟩
      · show c_A m3 38 (w_stepB (w_loopB s n) n)
        unfold w_stepB
        rw [if_neg (fun h => h.1 c1)]
        exact hA3
      · simp (disch := omega) only [g1, g3, s_Af_isPut38 hA3 h1 h2, decide_eq_false_iff_not, ↓bc_38, ↓br_38_0, ↓bc_4, ↓br_38_11, ↓bc_48, ↓bx_48, bl_48, ↓br_38_7, ↓bc_44, ↓bx_44, bl_44, ↓b_t0, ↓b_t1, ↓b_t2, ↓b_t3, ↓b_t4, ↓b_t5, ↓b_t6, Nat.zero_add, Nat.le_refl, b_rs, b_rn, b_r2, b_ss, b_sn, b_bt, b_bf, b_b0, b_b1, b_bw, b_shl, b_or, b_iv, b_jv, b_sI, b_sJ, ↓z_hl, z_b0, z_b1, z_b2, b_and1c, b_and1z, if_true, if_false, nI_add, pk_mul, b_cl, b_lt, b_le, b_eq, b_eq0, b_le0, b_0lt, b_0le, b_lt0]
        rw [if_neg (by omega), if_neg (fun h => h c1)]
    · by_cases c2 : nI (w_loopB s n (282 + n)) = 0
      · refine ⟨k - 1, _, _, by omega, ⟨n + 1, b_r m3 44 (b_s (m3 44) n (w_loopB s n (251 + n) - w_loopB s n 4)), by omega, rfl, rfl, z_fr_r hfr (by decide), ?_⟩, ?_⟩
        · show c_A _ 38 (w_stepB (w_loopB s n) n)
          unfold w_stepB
          rw [if_pos ⟨c1, c2⟩]
          exact c_A_price38 hA3 h1 hn2
        · by_cases c5 : w_loopB s n 4 ≤ w_loopB s n (251 + n)
          · simp (disch := omega) only [g1, g3, s_Af_isPut38 hA3 h1 h2, decide_eq_false_iff_not, k1, k2, k3, c2, b_sub, b_max, ↓bc_38, ↓br_38_0, ↓bc_4, ↓br_38_11, ↓bc_48, ↓bx_48, bl_48, ↓br_38_7, ↓bc_44, ↓bx_44, bl_44, ↓b_t0, ↓b_t1, ↓b_t2, ↓b_t3, ↓b_t4, ↓b_t5, ↓b_t6, Nat.zero_add, Nat.le_refl, b_rs, b_rn, b_r2, b_ss, b_sn, b_bt, b_bf, b_b0, b_b1, b_bw, b_shl, b_or, b_iv, b_jv, b_sI, b_sJ, ↓z_hl, z_b0, z_b1, z_b2, b_and1c, b_and1z, if_true, if_false, nI_add, pk_mul, b_cl, b_lt, b_le, b_eq, b_eq0, b_le0, b_0lt, b_0le, b_lt0]
            rw [if_neg (by omega), if_pos c1, Nat.zero_max]
          · have c6 : a_max (nI 0) (nI (w_loopB s n (251 + n) + 4294967296 - w_loopB s n 4)) = nI (w_loopB s n (251 + n) - w_loopB s n 4) := by
              unfold a_max
              rw [if_neg (by rw [b_ltm (by omega) (by omega) (by omega)]; exact id), show w_loopB s n (251 + n) - w_loopB s n 4 = 0 by omega]
            simp (disch := omega) only [g1, g3, s_Af_isPut38 hA3 h1 h2, decide_eq_false_iff_not, k1, k2, k3, c2, b_subn, c6, ↓bc_38, ↓br_38_0, ↓bc_4, ↓br_38_11, ↓bc_48, ↓bx_48, bl_48, ↓br_38_7, ↓bc_44, ↓bx_44, bl_44, ↓b_t0, ↓b_t1, ↓b_t2, ↓b_t3, ↓b_t4, ↓b_t5, ↓b_t6, Nat.zero_add, Nat.le_refl, b_rs, b_rn, b_r2, b_ss, b_sn, b_bt, b_bf, b_b0, b_b1, b_bw, b_shl, b_or, b_iv, b_jv, b_sI, b_sJ, ↓z_hl, z_b0, z_b1, z_b2, b_and1c, b_and1z, if_true, if_false, nI_add, pk_mul, b_cl, b_lt, b_le, b_eq, b_eq0, b_le0, b_0lt, b_0le, b_lt0]
            rw [if_neg (by omega), if_pos c1]
      · refine ⟨k - 1, _, _, by omega, ⟨n + 1, m3, by omega, rfl, rfl, hfr, ?_⟩, ?_⟩
        · show c_A m3 38 (w_stepB (w_loopB s n) n)
          unfold w_stepB
          rw [if_neg (fun h => c2 h.2)]
          exact hA3
        · simp (disch := omega) only [g1, g3, s_Af_isPut38 hA3 h1 h2, decide_eq_false_iff_not, k1, c2, ↓bc_38, ↓br_38_0, ↓bc_4, ↓br_38_11, ↓bc_48, ↓bx_48, bl_48, ↓br_38_7, ↓bc_44, ↓bx_44, bl_44, ↓b_t0, ↓b_t1, ↓b_t2, ↓b_t3, ↓b_t4, ↓b_t5, ↓b_t6, Nat.zero_add, Nat.le_refl, b_rs, b_rn, b_r2, b_ss, b_sn, b_bt, b_bf, b_b0, b_b1, b_bw, b_shl, b_or, b_iv, b_jv, b_sI, b_sJ, ↓z_hl, z_b0, z_b1, z_b2, b_and1c, b_and1z, if_true, if_false, nI_add, pk_mul, b_cl, b_lt, b_le, b_eq, b_eq0, b_le0, b_0lt, b_0le, b_lt0]
          rw [if_neg (by omega), if_pos c1]
theorem s_Af_passDay38 {X : Nat × (Nat → Int32)} {tx : List Int32} {D : Nat} {m j : Nat → Nat → Nat} {w : (Nat × Nat) × Bool} {s : Nat → Nat} (hF : c_F m 4 s) (hA : c_A m 38 s) (hS : i_S s) (hI : i_D s) (hD : 4 ≤ D) :
    ∃ m2, a_ex X tx a_T D 74 [.ref 38] (b_h m j w) = some (b_h m2 j w, none) ∧ z_fr 38 49 m m2 ∧ c_A m2 38 (w_day s) := by
  have hE := i_S_E hS
  obtain ⟨d, rfl⟩ : ∃ d, D = d + 1 := ⟨D - 1, by omega⟩
  rw [e_Af_passDay, q_Af_passDay_0]
  rw [← l_Af_passDay_2]
  refine z_run (Q := fun r => ∃ m2, r = some (b_h m2 j w, none) ∧ z_fr 38 49 m m2 ∧ c_A m2 38 (w_day s)) (fun k L h => ∃ n m3, k + n = s 3 ∧ L = [.ref 38, .int (nI n)] ∧ h = b_h m3 j w ∧ z_fr 38 49 m m3 ∧ c_A m3 38 (w_loopA s n)) 30 ?_ (s 3) _ _ ⟨0, m, by omega, rfl, rfl, z_fr_rf, hA⟩ _ (z_fu (by omega))
  rintro k L h ⟨n, m3, hk, rfl, rfl, hfr, hA3⟩ f hf
  obtain ⟨h1, h2, h3⟩ := w_loopA_ok hS hI n (by omega)
  have hF3 : c_F m3 4 (w_loopA s n) := c_F_fr (by decide) hfr (fun i hi => h3 i (by omega)) hS hF
  have g1 := c_F4_E hF3
  have g2 := c_A38_da hA3
  have g3 := h3 3 (by omega)
  have g4 := h3 157 (by omega)
  have g5 := i_D_da hI
  rw [l_Af_passDay_2, q_Af_passDay_2]
  by_cases hn : n = s 3
  · left
    subst hn
    obtain ⟨m4, k1, k2, k3⟩ := s_Af_passDayB38 (X := X) (tx := tx) (d := d) (j := j) (w := w) hF3 hA3 h1 h2 (by omega) f (by omega)
    refine ⟨m4, ?_, z_fr_tr hfr k2, ?_⟩
    · simp (disch := omega) only [g1, g3, ↓bc_38, ↓br_38_0, ↓bc_4, ↓br_38_11, ↓bc_48, ↓bx_48, bl_48, ↓br_38_7, ↓bc_44, ↓bx_44, bl_44, ↓b_t0, ↓b_t1, ↓b_t2, ↓b_t3, ↓b_t4, ↓b_t5, ↓b_t6, Nat.zero_add, Nat.le_refl, b_rs, b_rn, b_r2, b_ss, b_sn, b_bt, b_bf, b_b0, b_b1, b_bw, b_shl, b_or, b_iv, b_jv, b_sI, b_sJ, ↓z_hl, z_b0, z_b1, z_b2, b_and1c, b_and1z, if_true, if_false, nI_add, pk_mul, b_cl, b_lt, b_le, b_eq, b_eq0, b_le0, b_0lt, b_0le, b_lt0]
      exact k1
    · rw [g3, w_dloop_AB hS hI _ (Nat.le_refl _), g4] at k3
      exact k3
  · right
    have hn2 : n < w_loopA s n 3 := by omega
    have q1 := h3 (241 + n) (by omega)
    have q2 := h3 (147 + n) (by omega)
    have q3 := h3 (271 + n) (by omega)
    by_cases c1 : w_wait (w_loopA s n) n = true
    · have c1' := c1
      unfold w_wait at c1'
      simp only [Bool.and_eq_true, decide_eq_true_eq, Bool.not_eq_true'] at c1'
      obtain ⟨⟨p1, p2⟩, p3⟩ := c1'
      have p4 := i_D_po h2 n hn2 p2
      have p5 := i_S_fd h1 n (by omega)
      have p6 := i_D_da h2
      by_cases c2 : w_loopA s n 157 + 1 = w_loopA s n (271 + n) + w_loopA s n (147 + n)
      · obtain ⟨m4, k1, k2, k3⟩ := s_Af_goOn38 (X := X) (tx := tx) (D := d) (j := j) (w := w) hF3 hA3 h1 h2 (by omega) hn2 p2
        refine ⟨k - 1, _, _, by omega, ⟨n + 1, m4, by omega, rfl, rfl, z_fr_tr hfr k2, ?_⟩, ?_⟩
        · show c_A m4 38 (w_stepA (w_loopA s n) n)
          unfold w_stepA
          rw [if_pos ⟨p2, p1, p3, c2⟩]
          exact k3
        · have c3 : w_loopA s n (271 + n) + w_loopA s n (147 + n) - 1 = w_loopA s n 157 := by omega
          simp (disch := omega) only [g1, g2, g3, s_Af_isWaiting38 hF3 hA3 h1 h2, s_Af_lastQuietDay38 hF3 hA3 h1 h2 _ _ p2, c1, k1, ↓bc_38, ↓br_38_0, ↓bc_4, ↓br_38_11, ↓bc_48, ↓bx_48, bl_48, ↓br_38_7, ↓bc_44, ↓bx_44, bl_44, ↓b_t0, ↓b_t1, ↓b_t2, ↓b_t3, ↓b_t4, ↓b_t5, ↓b_t6, Nat.zero_add, Nat.le_refl, b_rs, b_rn, b_r2, b_ss, b_sn, b_bt, b_bf, b_b0, b_b1, b_bw, b_shl, b_or, b_iv, b_jv, b_sI, b_sJ, ↓z_hl, z_b0, z_b1, z_b2, b_and1c, b_and1z, if_true, if_false, nI_add, pk_mul, b_cl, b_lt, b_le, b_eq, b_eq0, b_le0, b_0lt, b_0le, b_lt0]
          rw [if_neg (by omega), if_neg (by decide), if_pos c3]
      · refine ⟨k - 1, _, _, by omega, ⟨n + 1, m3, by omega, rfl, rfl, hfr, ?_⟩, ?_⟩
        · show c_A m3 38 (w_stepA (w_loopA s n) n)
          unfold w_stepA
          rw [if_neg (fun h => c2 h.2.2.2)]
          exact hA3
        · have c3 : ¬ w_loopA s n (271 + n) + w_loopA s n (147 + n) - 1 = w_loopA s n 157 := by omega
          simp (disch := omega) only [g1, g2, g3, s_Af_isWaiting38 hF3 hA3 h1 h2, s_Af_lastQuietDay38 hF3 hA3 h1 h2 _ _ p2, c1, ↓bc_38, ↓br_38_0, ↓bc_4, ↓br_38_11, ↓bc_48, ↓bx_48, bl_48, ↓br_38_7, ↓bc_44, ↓bx_44, bl_44, ↓b_t0, ↓b_t1, ↓b_t2, ↓b_t3, ↓b_t4, ↓b_t5, ↓b_t6, Nat.zero_add, Nat.le_refl, b_rs, b_rn, b_r2, b_ss, b_sn, b_bt, b_bf, b_b0, b_b1, b_bw, b_shl, b_or, b_iv, b_jv, b_sI, b_sJ, ↓z_hl, z_b0, z_b1, z_b2, b_and1c, b_and1z, if_true, if_false, nI_add, pk_mul, b_cl, b_lt, b_le, b_eq, b_eq0, b_le0, b_0lt, b_0le, b_lt0]
          rw [if_neg (by omega), if_neg (by decide), if_neg c3]
    · refine ⟨k - 1, _, _, by omega, ⟨n + 1, m3, by omega, rfl, rfl, hfr, ?_⟩, ?_⟩
      · show c_A m3 38 (w_stepA (w_loopA s n) n)
        unfold w_stepA
        rw [if_neg (fun h => c1 (by unfold w_wait; simp [h.1, h.2.1, h.2.2.1]))]
        exact hA3
      · simp (disch := omega) only [g1, g3, s_Af_isWaiting38 hF3 hA3 h1 h2, Bool.eq_false_iff.mpr c1, ↓bc_38, ↓br_38_0, ↓bc_4, ↓br_38_11, ↓bc_48, ↓bx_48, bl_48, ↓br_38_7, ↓bc_44, ↓bx_44, bl_44, ↓b_t0, ↓b_t1, ↓b_t2, ↓b_t3, ↓b_t4, ↓b_t5, ↓b_t6, Nat.zero_add, Nat.le_refl, b_rs, b_rn, b_r2, b_ss, b_sn, b_bt, b_bf, b_b0, b_b1, b_bw, b_shl, b_or, b_iv, b_jv, b_sI, b_sJ, ↓z_hl, z_b0, z_b1, z_b2, b_and1c, b_and1z, if_true, if_false, nI_add, pk_mul, b_cl, b_lt, b_le, b_eq, b_eq0, b_le0, b_0lt, b_0le, b_lt0]
        rw [if_neg (by omega)]
theorem s_Af_passDays38 {X : Nat × (Nat → Int32)} {tx : List Int32} {D : Nat} {m j : Nat → Nat → Nat} {w : (Nat × Nat) × Bool} {s : Nat → Nat} (hF : c_F m 4 s) (hA : c_A m 38 s) (hS : i_S s) (hI : i_D s) (hD : 5 ≤ D) {q : Nat} (hq : s 157 + q ≤ 400) :
    ∃ m2, a_ex X tx a_T D 73 [.ref 38, .int (nI q)] (b_h m j w) = some (b_h m2 j w, none) ∧ z_fr 38 49 m m2 ∧ c_A m2 38 (w_days s q) := by
  obtain ⟨d, rfl⟩ : ∃ d, D = d + 1 := ⟨D - 1, by omega⟩
  rw [e_Af_passDays, q_Af_passDays_0]
  rw [← l_Af_passDays_2]
  refine z_run (Q := fun r => ∃ m2, r = some (b_h m2 j w, none) ∧ z_fr 38 49 m m2 ∧ c_A m2 38 (w_days s q)) (fun k L h => ∃ n m3, k + n = q ∧ L = [.ref 38, .int (nI q), .int (nI n)] ∧ h = b_h m3 j w ∧ z_fr 38 49 m m3 ∧ c_A m3 38 (w_days s n)) 0 ?_ q _ _ ⟨0, m, by omega, rfl, rfl, z_fr_rf, hA⟩ _ (z_fu (by omega))
  rintro k L h ⟨n, m3, hk, rfl, rfl, hfr, hA3⟩ f hf
  obtain ⟨h1, h2, h3, h4⟩ := w_days_ok hS hI n (by omega)
  have hF3 : c_F m3 4 (w_days s n) := c_F_fr (by decide) hfr (fun i hi => h4 i (by omega)) hS hF
  rw [l_Af_passDays_2, q_Af_passDays_2]
  by_cases hn : n = q
  · left
    subst hn
    exact ⟨m3, by simp (disch := omega) only [↓bc_38, ↓b_t0, ↓b_t1, ↓b_t2, ↓b_t3, ↓b_t4, ↓b_t5, ↓b_t6, Nat.zero_add, Nat.le_refl, b_rs, b_rn, b_r2, b_ss, b_sn, b_bt, b_bf, b_b0, b_b1, b_bw, b_shl, b_or, b_iv, b_jv, b_sI, b_sJ, ↓z_hl, z_b0, z_b1, z_b2, b_and1c, b_and1z, if_true, if_false, nI_add, pk_mul, b_cl, b_lt, b_le, b_eq, b_eq0, b_le0, b_0lt, b_0le, b_lt0], hfr, hA3⟩
  · right
    obtain ⟨m4, k1, k2, k3⟩ := s_Af_passDay38 (X := X) (tx := tx) (D := d) (j := j) (w := w) hF3 hA3 h1 h2 (by omega)
    refine ⟨k - 1, _, _, by omega, ⟨n + 1, m4, by omega, rfl, rfl, z_fr_tr hfr k2, k3⟩, ?_⟩
    simp (disch := omega) only [k1, ↓bc_38, ↓b_t0, ↓b_t1, ↓b_t2, ↓b_t3, ↓b_t4, ↓b_t5, ↓b_t6, Nat.zero_add, Nat.le_refl, b_rs, b_rn, b_r2, b_ss, b_sn, b_bt, b_bf, b_b0, b_b1, b_bw, b_shl, b_or, b_iv, b_jv, b_sI, b_sJ, ↓z_hl, z_b0, z_b1, z_b2, b_and1c, b_and1z, if_true, if_false, nI_add, pk_mul, b_cl, b_lt, b_le, b_eq, b_eq0, b_le0, b_0lt, b_0le, b_lt0]
    rw [if_neg (by omega)]
