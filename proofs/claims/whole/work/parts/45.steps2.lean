/-! CALL BY CALL: deeds -/
/-- behind thrown = 0 and keep() -/
def w_km (m : Nat → Nat → Nat) : Nat → Nat → Nat := b_r (b_r m 234 (b_s (b_s (m 234) 0 0) 23 (w_keepN (m 234 23)))) 241 (w_keepU (m 241) (m 236) (m 234 23))
theorem w_keepU_last {u s : Nat → Nat} {n : Nat} (hn : n ≤ 8) {q : Nat} (hq : q < 195) : w_keepU u s n (195 * (w_keepN n - 1) + q) = s (157 + q) := by
  unfold w_keepU w_keepN
  rw [Nat.add_sub_cancel, b_rgk hq]
theorem w_keepU_old {u s : Nat → Nat} {n r : Nat} (hn : n ≤ 8) (hr : r < w_keepN n - 1) {q : Nat} (hq : q < 195) : w_keepU u s n (195 * r + q) = u (195 * (if n = 8 then r + 1 else r) + q) := by
  unfold w_keepN at hr
  unfold w_keepU
  by_cases c : n = 8
  · rw [if_pos c, if_pos c, if_pos c]
    rw [if_pos c] at hr
    rw [b_rgo (by omega), b_rgi (by omega) (by omega)]
    congr 1
    omega
  · rw [if_neg c, if_neg c, if_neg c]
    rw [if_neg c] at hr
    rw [b_rgo]
    have : 195 * (r + 1) ≤ 195 * n := Nat.mul_le_mul_left _ (by omega)
    omega
theorem w_rowS_self {s u : Nat → Nat} {r : Nat} (h : ∀ q, q < 195 → u (195 * r + q) = s (157 + q)) : w_rowS s u r = s := w_restore (fun _ _ => rfl) h
theorem w_rowS_eq {s u v : Nat → Nat} {r k : Nat} (h : ∀ q, q < 195 → u (195 * r + q) = v (195 * k + q)) : w_rowS s u r = w_rowS s v k := b_rg_congr h
theorem r_P_keep {m : Nat → Nat → Nat} {s u : Nat → Nat} {n : Nat} (hS : i_S s) (hI : i_D s) (hA : c_A m 26 s) (h : r_P m s u n) : r_P (w_pk m) s (w_keepU u s n) (w_keepN n) := by
  obtain ⟨h1, h2, h3, h4⟩ := h
  have e50 : w_pk m 50 = b_s (b_s (m 50) 2 (if m 50 2 = 7 then 0 else m 50 2 + 1)) 1 (min (m 50 1 + 1) 8) := by unfold w_pk; rw [b_rs]
  have eo : ∀ c, (c < 52 + 12 * m 50 2 ∨ 52 + 12 * m 50 2 + 11 < c) → c ≠ 50 → w_pk m c = m c := fun c hc hn => by
    unfold w_pk
    rw [b_rn hn]
    exact w_cpA_fr c hc
  have kN : w_keepN n ≤ 8 := by unfold w_keepN; split <;> omega
  refine ⟨kN, by rw [e50, b_ss, h2]; unfold w_keepN; split <;> omega, by rw [e50, b_sn (by decide), b_ss]; split <;> omega, fun r hr => ?_⟩
  have e2 : w_pk m 50 2 = if m 50 2 = 7 then 0 else m 50 2 + 1 := by rw [e50, b_sn (by decide), b_ss]
  rw [e2]
  by_cases c : r = w_keepN n - 1
  · subst c
    rw [w_rowS_self (fun q hq => w_keepU_last h1 hq)]
    have e3 : ((if m 50 2 = 7 then 0 else m 50 2 + 1) + 8 - w_keepN n + (w_keepN n - 1)) % 8 = m 50 2 := by
      have : 1 ≤ w_keepN n := by unfold w_keepN; omega
      split <;> omega
    rw [e3]
    refine ⟨c_A_ext (m := w_cpA m (52 + 12 * m 50 2) 26) (fun c p1 p2 => ?_) (c_A_cp (by omega) hS hA), hI⟩
    unfold w_pk
    exact b_rn (by omega)
  · have hr2 : r < w_keepN n - 1 := by omega
    rw [w_rowS_eq (fun q hq => w_keepU_old h1 hr2 hq)]
    have hr3 : (if n = 8 then r + 1 else r) < n := by unfold w_keepN at hr2; split <;> rename_i c8 <;> simp only [c8, if_true, if_false] at hr2 <;> omega
    obtain ⟨g1, g2⟩ := h4 _ hr3
    have e3 : ((if m 50 2 = 7 then 0 else m 50 2 + 1) + 8 - w_keepN n + r) % 8 = (m 50 2 + 8 - n + (if n = 8 then r + 1 else r)) % 8 := by
      unfold w_keepN
      split <;> split <;> omega
    rw [e3]
    refine ⟨c_A_ext (fun c p1 p2 => eo c ?_ (by omega)) g1, g2⟩
    have e4 : (m 50 2 + 8 - n + (if n = 8 then r + 1 else r)) % 8 ≠ m 50 2 := by
      split at hr3 <;> rename_i c8 <;> simp only [c8, if_true, if_false] <;> omega
    omega
theorem w_pk_same {m : Nat → Nat → Nat} (hx : m 50 2 < 8) {c : Nat} (hc : c < 50 ∨ 147 < c) : w_pk m c = m c := by
  unfold w_pk
  rw [b_rn (by omega)]
  exact w_cpA_fr c (by omega)
/-- a deed that was kept first -/
theorem r_R_deed {m m2 j : Nat → Nat → Nat} {s f : Nat → Nat} (h : r_R m j) (hm : ∀ c, c < 26 ∨ 49 < c → c ≠ 176 → m2 c = w_pk m c) (hA : c_A m2 26 s) (hI : i_D s) (hs : ∀ i, i < 157 ∨ 352 ≤ i → s i = m 236 i) (hf : f 23 = w_keepN (m 234 23)) (hg : ∀ k, k = 2 ∨ k = 15 ∨ k = 26 ∨ (30 ≤ k ∧ k ≤ 36) ∨ k = 43 → f k = m 234 k) : r_R (b_r (b_r (b_r m2 234 f) 236 s) 241 (w_keepU (m 241) (m 236) (m 234 23))) j := by
  have hx := (r_R_pa h).2.2.1
  have hm2 : ∀ c, c < 26 ∨ 147 < c → c ≠ 176 → m2 c = m c := fun c h1 h2 => by rw [hm c (by omega) h2, w_pk_same hx (by omega)]
  have k236 : (b_r (b_r (b_r m2 234 f) 236 s) 241 (w_keepU (m 241) (m 236) (m 234 23))) 236 = s := by rw [b_rn (by decide), b_rs]
  refine r_R_upd h ⟨?_, ?_, ?_, ?_, ?_, ?_, ?_⟩ (by rw [k236]; exact hI) ?_ (by rw [k236]; exact hs) ?_
  · intro c hc; rw [b_rn (by omega), b_rn (by omega), b_rn (by omega)]; exact hm2 c (by omega) (by omega)
  · intro k _; rw [b_rn (by omega), b_rn (by omega), b_rn (by omega), hm2 0 (by omega) (by omega)]
  · rw [b_rn (by omega), b_rn (by omega), b_rn (by omega), hm2 1 (by omega) (by omega)]
  · intro k _; rw [b_rn (by omega), b_rn (by omega), b_rn (by omega), hm2 156 (by omega) (by omega)]
  · rw [b_rn (by omega), b_rn (by omega), b_rn (by omega), hm2 162 (by omega) (by omega)]
  · rw [b_rn (by omega), b_rn (by omega), b_rn (by omega), hm2 167 (by omega) (by omega)]
  · intro k hk; rw [b_rn (by omega), b_rn (by omega), b_rs]; exact hg k hk
  · rw [k236]
    exact c_A_ext (fun c p1 p2 => by rw [b_rn (by omega), b_rn (by omega), b_rn (by omega)]) hA
  · rw [k236, b_rs, b_rn (by decide), b_rn (by decide), b_rs, hf]
    exact r_P_ext (fun c p1 p2 => by rw [b_rn (by omega), b_rn (by omega), b_rn (by omega)]; exact hm c (by omega) (by omega)) hs (r_P_keep (r_R_st h) (r_R_dy h) (r_R_af h) (r_R_pa h))
section DD
variable {X : Nat × (Nat → Int32)} {tx : List Int32} {D : Nat} {m j : Nat → Nat → Nat} {w : (Nat × Nat) × Bool}
theorem s_Mo_keepT (hk : m 234 23 ≤ 8) (hD : 1 ≤ D) : a_ex X tx a_T D 255 [.ref 234] (b_h (b_r m 234 (b_s (m 234) 0 0)) j w) = some (b_h (w_km m) j w, none) := by
  rw [s_Mo_keep (by rw [b_rs, b_sn (by decide)]; exact hk) hD]
  unfold w_km
  simp (disch := omega) only [b_rs, b_rn, b_r2, b_sn]
theorem w_km_s : w_km m 236 = m 236 := by unfold w_km; rw [b_rn (by decide), b_rn (by decide)]
theorem w_km_x : w_km m 234 40 = m 234 40 := by unfold w_km; rw [b_rn (by decide), b_rs, b_sn (by decide), b_sn (by decide)]
theorem s_Mo_buy0 (hS : i_S (m 236)) (hI : i_D (m 236)) (hk : m 234 23 ≤ 8) (hD : 4 ≤ D) {q e : Nat} (hq : q < m 236 1) (he : e < m 236 3) (hw : w_whyBuy (m 236) q e = 0) : a_ex X tx a_T D 252 [.ref 234, .int (nI q), .int (nI e)] (b_h m j w) = some ((b_h (b_r (w_km m) 236 (w_buys (m 236) q e)) j w), some (.int (nI (0)))) := by
  obtain ⟨d, rfl⟩ : ∃ d, D = d + 1 := ⟨D - 1, by omega⟩
  rw [e_Mo_buy, q_Mo_buy_0]
  have hS2 : i_S ((b_r m 234 (b_s (m 234) 0 0)) 236) := by rw [b_rn (by decide)]; exact hS
  have hI2 : i_D ((b_r m 234 (b_s (m 234) 0 0)) 236) := by rw [b_rn (by decide)]; exact hI
  have qq : (b_r m 234 (b_s (m 234) 0 0)) 236 = m 236 := b_rn (by decide)
  have q0 : (b_r m 234 (b_s (m 234) 0 0)) 236 0 = m 236 0 := by rw [qq]
  have q1 : (b_r m 234 (b_s (m 234) 0 0)) 236 1 = m 236 1 := by rw [qq]
  have q2 : (b_r m 234 (b_s (m 234) 0 0)) 236 2 = m 236 2 := by rw [qq]
  have q3 : (b_r m 234 (b_s (m 234) 0 0)) 236 3 = m 236 3 := by rw [qq]
  have hK := i_S_K hS
  have hM := i_S_M hS
  have hT := i_S_T hS
  have hE := i_S_E hS
  have s1 := s_Mo_buys (X := X) (tx := tx) (D := d) (m := w_km m) (j := j) (w := w) (by rw [w_km_s]; exact hS) (by rw [w_km_s]; exact hI) (by omega) (q := q) (e := e) (by rw [w_km_s]; exact hq) (by rw [w_km_s]; exact he) (by rw [w_km_s]; exact hw)
  rw [w_km_s] at s1
  simp (disch := omega) only [s_Mo_isMan hS2, s_Mo_isEnding hS2, s_Mo_whyBuy hS2 hI2, hw, s_Mo_keepT hk, s1, decide_eq_false_iff_not, ↓bc_234, ↓b_t0, ↓b_t1, ↓b_t2, ↓b_t3, ↓b_t4, ↓b_t5, ↓b_t6, Nat.zero_add, Nat.le_refl, b_rs, b_rn, b_r2, b_ss, b_sn, b_bt, b_bf, b_b0, b_b1, b_bw, b_shl, b_or, b_iv, b_jv, b_sI, b_sJ, ↓z_hl, z_b0, z_b1, z_b2, b_and1c, b_and1z, if_true, if_false, nI_add, pk_mul, b_cl, b_lt, b_le, b_eq, b_eq0, b_le0, b_0lt, b_0le, b_lt0]
  rw [if_neg (fun h => h hq), if_neg (fun h => h he)]
theorem s_Mo_buyN (hS : i_S (m 236)) (hI : i_D (m 236)) (hD : 4 ≤ D) {q e : Nat} (hq : q < 4294967296) (he : e < 4294967296) (hw : ¬ (q < m 236 1 ∧ e < m 236 3 ∧ w_whyBuy (m 236) q e = 0)) : a_ex X tx a_T D 252 [.ref 234, .int (nI q), .int (nI e)] (b_h m j w) = some ((b_h (b_r m 234 (b_s (m 234) 0 0)) j w), some (.int (nI (if q < m 236 1 ∧ e < m 236 3 then w_whyBuy (m 236) q e else 4294967295)))) := by
  obtain ⟨d, rfl⟩ : ∃ d, D = d + 1 := ⟨D - 1, by omega⟩
  rw [e_Mo_buy, q_Mo_buy_0]
  have hS2 : i_S ((b_r m 234 (b_s (m 234) 0 0)) 236) := by rw [b_rn (by decide)]; exact hS
  have hI2 : i_D ((b_r m 234 (b_s (m 234) 0 0)) 236) := by rw [b_rn (by decide)]; exact hI
  have qq : (b_r m 234 (b_s (m 234) 0 0)) 236 = m 236 := b_rn (by decide)
  have q0 : (b_r m 234 (b_s (m 234) 0 0)) 236 0 = m 236 0 := by rw [qq]
  have q1 : (b_r m 234 (b_s (m 234) 0 0)) 236 1 = m 236 1 := by rw [qq]
  have q2 : (b_r m 234 (b_s (m 234) 0 0)) 236 2 = m 236 2 := by rw [qq]
  have q3 : (b_r m 234 (b_s (m 234) 0 0)) 236 3 = m 236 3 := by rw [qq]
  have hK := i_S_K hS
  have hM := i_S_M hS
  have hT := i_S_T hS
  have hE := i_S_E hS
  by_cases c1 : q < m 236 1
  · by_cases c2 : e < m 236 3
    · rw [if_pos ⟨c1, c2⟩]
      have h1 : w_whyBuy (m 236) q e < 2147483648 := by
        unfold w_whyBuy; split; · decide
        split; · decide
        split <;> decide
      simp (disch := omega) only [s_Mo_isMan hS2, s_Mo_isEnding hS2, s_Mo_whyBuy hS2 hI2, decide_eq_false_iff_not, ↓bc_234, ↓b_t0, ↓b_t1, ↓b_t2, ↓b_t3, ↓b_t4, ↓b_t5, ↓b_t6, Nat.zero_add, Nat.le_refl, b_rs, b_rn, b_r2, b_ss, b_sn, b_bt, b_bf, b_b0, b_b1, b_bw, b_shl, b_or, b_iv, b_jv, b_sI, b_sJ, ↓z_hl, z_b0, z_b1, z_b2, b_and1c, b_and1z, if_true, if_false, nI_add, pk_mul, b_cl, b_lt, b_le, b_eq, b_eq0, b_le0, b_0lt, b_0le, b_lt0]
      rw [if_neg (fun h => h c1), if_neg (fun h => h c2), if_neg (fun h => hw ⟨c1, c2, h⟩)]
    · rw [if_neg (fun h => c2 h.2)]
      simp (disch := omega) only [s_Mo_isMan hS2, s_Mo_isEnding hS2, decide_eq_false_iff_not, ↓bc_234, ↓b_t0, ↓b_t1, ↓b_t2, ↓b_t3, ↓b_t4, ↓b_t5, ↓b_t6, Nat.zero_add, Nat.le_refl, b_rs, b_rn, b_r2, b_ss, b_sn, b_bt, b_bf, b_b0, b_b1, b_bw, b_shl, b_or, b_iv, b_jv, b_sI, b_sJ, ↓z_hl, z_b0, z_b1, z_b2, b_and1c, b_and1z, if_true, if_false, nI_add, pk_mul, b_cl, b_lt, b_le, b_eq, b_eq0, b_le0, b_0lt, b_0le, b_lt0]
      rw [if_neg (fun h => h c1), if_pos c2]
  · rw [if_neg (fun h => c1 h.1)]
    simp (disch := omega) only [s_Mo_isMan hS2, decide_eq_false_iff_not, ↓bc_234, ↓b_t0, ↓b_t1, ↓b_t2, ↓b_t3, ↓b_t4, ↓b_t5, ↓b_t6, Nat.zero_add, Nat.le_refl, b_rs, b_rn, b_r2, b_ss, b_sn, b_bt, b_bf, b_b0, b_b1, b_bw, b_shl, b_or, b_iv, b_jv, b_sI, b_sJ, ↓z_hl, z_b0, z_b1, z_b2, b_and1c, b_and1z, if_true, if_false, nI_add, pk_mul, b_cl, b_lt, b_le, b_eq, b_eq0, b_le0, b_0lt, b_0le, b_lt0]
    rw [if_pos c1]
theorem s_Mo_put0 (hS : i_S (m 236)) (hI : i_D (m 236)) (hk : m 234 23 ≤ 8) (hD : 6 ≤ D) {q e t : Nat} (hq : q < m 236 1) (he : e < m 236 3) (ht : t < m 236 2) (hw : w_whyPut (m 236) q e t = 0) : a_ex X tx a_T D 253 [.ref 234, .int (nI q), .int (nI e), .int (nI t)] (b_h m j w) = some ((b_h (b_r (w_km m) 236 (w_puts (m 236) q e t)) j w), some (.int (nI (0)))) := by
  obtain ⟨d, rfl⟩ : ∃ d, D = d + 1 := ⟨D - 1, by omega⟩
  rw [e_Mo_put, q_Mo_put_0]
  have hS2 : i_S ((b_r m 234 (b_s (m 234) 0 0)) 236) := by rw [b_rn (by decide)]; exact hS
  have hI2 : i_D ((b_r m 234 (b_s (m 234) 0 0)) 236) := by rw [b_rn (by decide)]; exact hI
  have qq : (b_r m 234 (b_s (m 234) 0 0)) 236 = m 236 := b_rn (by decide)
  have q0 : (b_r m 234 (b_s (m 234) 0 0)) 236 0 = m 236 0 := by rw [qq]
  have q1 : (b_r m 234 (b_s (m 234) 0 0)) 236 1 = m 236 1 := by rw [qq]
  have q2 : (b_r m 234 (b_s (m 234) 0 0)) 236 2 = m 236 2 := by rw [qq]
  have q3 : (b_r m 234 (b_s (m 234) 0 0)) 236 3 = m 236 3 := by rw [qq]
  have hK := i_S_K hS
  have hM := i_S_M hS
  have hT := i_S_T hS
  have hE := i_S_E hS
  have s1 := s_Mo_putsTo (X := X) (tx := tx) (D := d) (m := w_km m) (j := j) (w := w) (by rw [w_km_s]; exact hS) (by rw [w_km_s]; exact hI) (by omega) (q := q) (e := e) (t := t) (by rw [w_km_s]; exact hq) (by rw [w_km_s]; exact he) (by rw [w_km_s]; exact ht)
  rw [w_km_s] at s1
  simp (disch := omega) only [s_Mo_isMan hS2, s_Mo_isEnding hS2, s_Mo_isThing hS2, s_Mo_whyPut hS2 hI2, hw, s_Mo_keepT hk, s1, decide_eq_false_iff_not, ↓bc_234, ↓b_t0, ↓b_t1, ↓b_t2, ↓b_t3, ↓b_t4, ↓b_t5, ↓b_t6, Nat.zero_add, Nat.le_refl, b_rs, b_rn, b_r2, b_ss, b_sn, b_bt, b_bf, b_b0, b_b1, b_bw, b_shl, b_or, b_iv, b_jv, b_sI, b_sJ, ↓z_hl, z_b0, z_b1, z_b2, b_and1c, b_and1z, if_true, if_false, nI_add, pk_mul, b_cl, b_lt, b_le, b_eq, b_eq0, b_le0, b_0lt, b_0le, b_lt0]
  rw [if_neg (fun h => h hq), if_neg (fun h => h he), if_neg (fun h => h ht)]
theorem s_Mo_putN (hS : i_S (m 236)) (hI : i_D (m 236)) (hD : 6 ≤ D) {q e t : Nat} (hq : q < 4294967296) (he : e < 4294967296) (ht : t < 4294967296) (hw : ¬ (q < m 236 1 ∧ e < m 236 3 ∧ t < m 236 2 ∧ w_whyPut (m 236) q e t = 0)) : a_ex X tx a_T D 253 [.ref 234, .int (nI q), .int (nI e), .int (nI t)] (b_h m j w) = some ((b_h (b_r m 234 (b_s (m 234) 0 0)) j w), some (.int (nI (if q < m 236 1 ∧ e < m 236 3 ∧ t < m 236 2 then w_whyPut (m 236) q e t else 4294967295)))) := by
  obtain ⟨d, rfl⟩ : ∃ d, D = d + 1 := ⟨D - 1, by omega⟩
  rw [e_Mo_put, q_Mo_put_0]
  have hS2 : i_S ((b_r m 234 (b_s (m 234) 0 0)) 236) := by rw [b_rn (by decide)]; exact hS
  have hI2 : i_D ((b_r m 234 (b_s (m 234) 0 0)) 236) := by rw [b_rn (by decide)]; exact hI
  have qq : (b_r m 234 (b_s (m 234) 0 0)) 236 = m 236 := b_rn (by decide)
  have q0 : (b_r m 234 (b_s (m 234) 0 0)) 236 0 = m 236 0 := by rw [qq]
  have q1 : (b_r m 234 (b_s (m 234) 0 0)) 236 1 = m 236 1 := by rw [qq]
  have q2 : (b_r m 234 (b_s (m 234) 0 0)) 236 2 = m 236 2 := by rw [qq]
  have q3 : (b_r m 234 (b_s (m 234) 0 0)) 236 3 = m 236 3 := by rw [qq]
  have hK := i_S_K hS
  have hM := i_S_M hS
  have hT := i_S_T hS
  have hE := i_S_E hS
  by_cases c1 : q < m 236 1
  · by_cases c2 : e < m 236 3
    · by_cases c3 : t < m 236 2
      · rw [if_pos ⟨c1, c2, c3⟩]
        have h1 : w_whyPut (m 236) q e t < 2147483648 := by
          unfold w_whyPut; split; · decide
          split
          · split <;> decide
          · decide
        simp (disch := omega) only [s_Mo_isMan hS2, s_Mo_isEnding hS2, s_Mo_isThing hS2, s_Mo_whyPut hS2 hI2, decide_eq_false_iff_not, ↓bc_234, ↓b_t0, ↓b_t1, ↓b_t2, ↓b_t3, ↓b_t4, ↓b_t5, ↓b_t6, Nat.zero_add, Nat.le_refl, b_rs, b_rn, b_r2, b_ss, b_sn, b_bt, b_bf, b_b0, b_b1, b_bw, b_shl, b_or, b_iv, b_jv, b_sI, b_sJ, ↓z_hl, z_b0, z_b1, z_b2, b_and1c, b_and1z, if_true, if_false, nI_add, pk_mul, b_cl, b_lt, b_le, b_eq, b_eq0, b_le0, b_0lt, b_0le, b_lt0]
        rw [if_neg (fun h => h c1), if_neg (fun h => h c2), if_neg (fun h => h c3), if_neg (fun h => hw ⟨c1, c2, c3, h⟩)]
      · rw [if_neg (fun h => c3 h.2.2)]
        simp (disch := omega) only [s_Mo_isMan hS2, s_Mo_isEnding hS2, s_Mo_isThing hS2, decide_eq_false_iff_not, ↓bc_234, ↓b_t0, ↓b_t1, ↓b_t2, ↓b_t3, ↓b_t4, ↓b_t5, ↓b_t6, Nat.zero_add, Nat.le_refl, b_rs, b_rn, b_r2, b_ss, b_sn, b_bt, b_bf, b_b0, b_b1, b_bw, b_shl, b_or, b_iv, b_jv, b_sI, b_sJ, ↓z_hl, z_b0, z_b1, z_b2, b_and1c, b_and1z, if_true, if_false, nI_add, pk_mul, b_cl, b_lt, b_le, b_eq, b_eq0, b_le0, b_0lt, b_0le, b_lt0]
        rw [if_neg (fun h => h c1), if_neg (fun h => h c2), if_pos c3]
    · rw [if_neg (fun h => c2 h.2.1)]
      simp (disch := omega) only [s_Mo_isMan hS2, s_Mo_isEnding hS2, decide_eq_false_iff_not, ↓bc_234, ↓b_t0, ↓b_t1, ↓b_t2, ↓b_t3, ↓b_t4, ↓b_t5, ↓b_t6, Nat.zero_add, Nat.le_refl, b_rs, b_rn, b_r2, b_ss, b_sn, b_bt, b_bf, b_b0, b_b1, b_bw, b_shl, b_or, b_iv, b_jv, b_sI, b_sJ, ↓z_hl, z_b0, z_b1, z_b2, b_and1c, b_and1z, if_true, if_false, nI_add, pk_mul, b_cl, b_lt, b_le, b_eq, b_eq0, b_le0, b_0lt, b_0le, b_lt0]
      rw [if_neg (fun h => h c1), if_pos c2]
  · rw [if_neg (fun h => c1 h.1)]
    simp (disch := omega) only [s_Mo_isMan hS2, decide_eq_false_iff_not, ↓bc_234, ↓b_t0, ↓b_t1, ↓b_t2, ↓b_t3, ↓b_t4, ↓b_t5, ↓b_t6, Nat.zero_add, Nat.le_refl, b_rs, b_rn, b_r2, b_ss, b_sn, b_bt, b_bf, b_b0, b_b1, b_bw, b_shl, b_or, b_iv, b_jv, b_sI, b_sJ, ↓z_hl, z_b0, z_b1, z_b2, b_and1c, b_and1z, if_true, if_false, nI_add, pk_mul, b_cl, b_lt, b_le, b_eq, b_eq0, b_le0, b_0lt, b_0le, b_lt0]
    rw [if_pos c1]
/-- the form in which r_R_deed has it -/
theorem w_km_form {s : Nat → Nat} : b_r (w_km m) 236 s = b_r (b_r (b_r m 234 (b_s (b_s (m 234) 0 0) 23 (w_keepN (m 234 23)))) 236 s) 241 (w_keepU (m 241) (m 236) (m 234 23)) := by
  unfold w_km
  rw [b_rx (c2 := 236) (c := 241) (by decide)]
theorem r_R_deed2 {m2 : Nat → Nat → Nat} {s : Nat → Nat} (h : r_R m j) (hm : ∀ c, c < 26 ∨ 49 < c → c ≠ 176 → m2 c = w_pk m c) (hA : c_A m2 26 s) (hI : i_D s) (hs : ∀ i, i < 157 ∨ 352 ≤ i → s i = m 236 i) : r_R (b_r (w_km m2) 236 s) j := by
  have hx := (r_R_pa h).2.2.1
  have hm2 : ∀ c, c < 26 ∨ 147 < c → c ≠ 176 → m2 c = m c := fun c h1 h2 => by rw [hm c (by omega) h2, w_pk_same hx (by omega)]
  rw [w_km_form, hm2 234 (by omega) (by omega), hm2 241 (by omega) (by omega), hm2 236 (by omega) (by omega)]
  exact r_R_deed h hm hA hI hs (by rw [b_ss]) (fun k hk => by rw [b_sn (by omega), b_sn (by omega)])
theorem t_buy (h : r_R m j) (hD : 10 ≤ D) {q e : Nat} (hq : q < 4294967296) (he : e < 4294967296) : w_step X tx D 162 252 [.int (nI q), .int (nI e)] m j w := by
  have hS := r_R_st h
  have hI := r_R_dy h
  have hF := r_R_fa h
  have hA := r_R_af h
  have hM := i_S_M hS
  have hE := i_S_E hS
  obtain ⟨p1, p2, p3, p4⟩ := r_R_pa h
  have s0 : ∀ d, 2 ≤ d → _ := fun d hd => s_Af_whyNotBuy26 (X := X) (tx := tx) (D := d) (m := m) (j := j) (w := w) hF hA hS hI hd (q := q) (e := e) hq he
  by_cases c : q < m 236 1 ∧ e < m 236 3 ∧ w_whyBuy (m 236) q e = 0
  · obtain ⟨c1, c2, c3⟩ := c
    have hF1 : c_F (w_pk m) 4 (m 236) := c_F_ext (fun c p1 p2 => w_pk_same p3 (by omega)) (fun _ _ => rfl) hS hF
    have hA1 : c_A (w_pk m) 26 (m 236) := c_A_ext (fun c p1 p2 => w_pk_same p3 (by omega)) hA
    obtain ⟨d, rfl⟩ : ∃ d, D = d + 1 := ⟨D - 1, by omega⟩
    obtain ⟨m2, k1, k2, k3⟩ := s_Af_sell26 (X := X) (tx := tx) (D := d) (j := j) (w := w) hF1 hA1 hS hI (by omega) c1 c2 c3
    have e236 : m2 236 = m 236 := by rw [k2 236 (by omega), w_pk_same p3 (by omega)]
    have e234 : m2 234 = m 234 := by rw [k2 234 (by omega), w_pk_same p3 (by omega)]
    refine ⟨m2, j, _, j, _, ?_, s_Mo_buy0 (by rw [e236]; exact hS) (by rw [e236]; exact hI) (by rw [e234]; exact p1) (by omega) (by rw [e236]; exact c1) (by rw [e236]; exact c2) (by rw [e236]; exact c3), ?_⟩
    · rw [e_EM_buy, q_EM_buy_0]
      have s1 := s0 d (by omega)
      rw [if_pos ⟨c1, c2⟩, c3] at s1
      simp (disch := omega) only [s1, s_Pa_keep p3 (by omega), k1, ↓bc_0, ↓br_0_3, ↓bc_26, ↓br_0_5, ↓bc_50, ↓b_t0, ↓b_t1, ↓b_t2, ↓b_t3, ↓b_t4, ↓b_t5, ↓b_t6, Nat.zero_add, Nat.le_refl, b_rs, b_rn, b_r2, b_ss, b_sn, b_bt, b_bf, b_b0, b_b1, b_bw, b_shl, b_or, b_iv, b_jv, b_sI, b_sJ, ↓z_hl, z_b0, z_b1, z_b2, b_and1c, b_and1z, if_true, if_false, nI_add, pk_mul, b_cl, b_lt, b_le, b_eq, b_eq0, b_le0, b_0lt, b_0le, b_lt0]
    · rw [e236]
      exact r_R_deed2 h (fun c p1 p2 => k2 c (by omega)) k3 (i_D_buys hS hI c1 c2 c3) (fun i hi => w_buys_lo (by omega) (by omega) (by omega) (by have := (w_whyBuy0 hI c1 c2 c3).1; omega))
  · refine ⟨m, j, _, j, _, ?_, s_Mo_buyN hS hI (by omega) hq he c, r_R_thr h⟩
    obtain ⟨d, rfl⟩ : ∃ d, D = d + 1 := ⟨D - 1, by omega⟩
    rw [e_EM_buy, q_EM_buy_0]
    have hne : (if q < m 236 1 ∧ e < m 236 3 then w_whyBuy (m 236) q e else 4294967295) ≠ 0 ∧ (if q < m 236 1 ∧ e < m 236 3 then w_whyBuy (m 236) q e else 4294967295) < 4294967296 := by
      split
      · rename_i h2
        refine ⟨fun h3 => c ⟨h2.1, h2.2, h3⟩, ?_⟩
        unfold w_whyBuy; split; · decide
        split; · decide
        split <;> decide
      · exact ⟨by decide, by decide⟩
    obtain ⟨hn1, hn2⟩ := hne
    simp (disch := omega) only [s0 d (by omega), ↓bc_0, ↓br_0_3, ↓bc_26, ↓br_0_5, ↓bc_50, ↓b_t0, ↓b_t1, ↓b_t2, ↓b_t3, ↓b_t4, ↓b_t5, ↓b_t6, Nat.zero_add, Nat.le_refl, b_rs, b_rn, b_r2, b_ss, b_sn, b_bt, b_bf, b_b0, b_b1, b_bw, b_shl, b_or, b_iv, b_jv, b_sI, b_sJ, ↓z_hl, z_b0, z_b1, z_b2, b_and1c, b_and1z, if_true, if_false, nI_add, pk_mul, b_cl, b_lt, b_le, b_eq, b_eq0, b_le0, b_0lt, b_0le, b_lt0]
    rw [if_neg hn1]
theorem t_put (h : r_R m j) (hD : 10 ≤ D) {q e t : Nat} (hq : q < 4294967296) (he : e < 4294967296) (ht : t < 4294967296) : w_step X tx D 163 253 [.int (nI q), .int (nI e), .int (nI t)] m j w := by
  have hS := r_R_st h
  have hI := r_R_dy h
  have hF := r_R_fa h
  have hA := r_R_af h
  have hM := i_S_M hS
  have hE := i_S_E hS
  have hT := i_S_T hS
  obtain ⟨p1, p2, p3, p4⟩ := r_R_pa h
  have s0 : ∀ d, 3 ≤ d → _ := fun d hd => s_Af_whyNotPut26 (X := X) (tx := tx) (D := d) (m := m) (j := j) (w := w) hF hA hS hI hd (q := q) (e := e) (t := t) hq he ht
  by_cases c : q < m 236 1 ∧ e < m 236 3 ∧ t < m 236 2 ∧ w_whyPut (m 236) q e t = 0
  · obtain ⟨c1, c2, c4, c3⟩ := c
    have hF1 : c_F (w_pk m) 4 (m 236) := c_F_ext (fun c p1 p2 => w_pk_same p3 (by omega)) (fun _ _ => rfl) hS hF
    have hA1 : c_A (w_pk m) 26 (m 236) := c_A_ext (fun c p1 p2 => w_pk_same p3 (by omega)) hA
    obtain ⟨d, rfl⟩ : ∃ d, D = d + 1 := ⟨D - 1, by omega⟩
    obtain ⟨m2, k1, k2, k3⟩ := s_Af_lay26 (X := X) (tx := tx) (D := d) (j := j) (w := w) hF1 hA1 hS hI (by omega) c1 c2 c4 c3
    have e236 : m2 236 = m 236 := by rw [k2 236 (by omega), w_pk_same p3 (by omega)]
    have e234 : m2 234 = m 234 := by rw [k2 234 (by omega), w_pk_same p3 (by omega)]
    refine ⟨m2, j, _, j, _, ?_, s_Mo_put0 (by rw [e236]; exact hS) (by rw [e236]; exact hI) (by rw [e234]; exact p1) (by omega) (by rw [e236]; exact c1) (by rw [e236]; exact c2) (by rw [e236]; exact c4) (by rw [e236]; exact c3), ?_⟩
    · rw [e_EM_put, q_EM_put_0]
      have s1 := s0 d (by omega)
      rw [if_pos ⟨c1, c2, c4⟩, c3] at s1
      simp (disch := omega) only [s1, s_Pa_keep p3 (by omega), k1, ↓bc_0, ↓br_0_3, ↓bc_26, ↓br_0_5, ↓bc_50, ↓b_t0, ↓b_t1, ↓b_t2, ↓b_t3, ↓b_t4, ↓b_t5, ↓b_t6, Nat.zero_add, Nat.le_refl, b_rs, b_rn, b_r2, b_ss, b_sn, b_bt, b_bf, b_b0, b_b1, b_bw, b_shl, b_or, b_iv, b_jv, b_sI, b_sJ, ↓z_hl, z_b0, z_b1, z_b2, b_and1c, b_and1z, if_true, if_false, nI_add, pk_mul, b_cl, b_lt, b_le, b_eq, b_eq0, b_le0, b_0lt, b_0le, b_lt0]
    · rw [e236]
      exact r_R_deed2 h (fun c p1 p2 => k2 c (by omega)) k3 (i_D_puts hS hI c1 c2 c4 (w_whyPut0 c3).2.2.2) (fun i hi => w_puts_lo (by omega) (by omega) (by omega) (by omega))
  · refine ⟨m, j, _, j, _, ?_, s_Mo_putN hS hI (by omega) hq he ht c, r_R_thr h⟩
    obtain ⟨d, rfl⟩ : ∃ d, D = d + 1 := ⟨D - 1, by omega⟩
    rw [e_EM_put, q_EM_put_0]
    have hne : (if q < m 236 1 ∧ e < m 236 3 ∧ t < m 236 2 then w_whyPut (m 236) q e t else 4294967295) ≠ 0 ∧ (if q < m 236 1 ∧ e < m 236 3 ∧ t < m 236 2 then w_whyPut (m 236) q e t else 4294967295) < 4294967296 := by
      split
      · rename_i h2
        refine ⟨fun h3 => c ⟨h2.1, h2.2.1, h2.2.2, h3⟩, ?_⟩
        unfold w_whyPut; split; · decide
        split
        · split <;> decide
        · decide
      · exact ⟨by decide, by decide⟩
    obtain ⟨hn1, hn2⟩ := hne
    simp (disch := omega) only [s0 d (by omega), ↓bc_0, ↓br_0_3, ↓bc_26, ↓br_0_5, ↓bc_50, ↓b_t0, ↓b_t1, ↓b_t2, ↓b_t3, ↓b_t4, ↓b_t5, ↓b_t6, Nat.zero_add, Nat.le_refl, b_rs, b_rn, b_r2, b_ss, b_sn, b_bt, b_bf, b_b0, b_b1, b_bw, b_shl, b_or, b_iv, b_jv, b_sI, b_sJ, ↓z_hl, z_b0, z_b1, z_b2, b_and1c, b_and1z, if_true, if_false, nI_add, pk_mul, b_cl, b_lt, b_le, b_eq, b_eq0, b_le0, b_0lt, b_0le, b_lt0]
    rw [if_neg hn1]
end DD
