/-! THE REFERENCE: sets, deeds, days -/
def w_endsOf (s : Nat → Nat) (q : Nat) : Nat := z_set (fun e => decide (s (241 + e) = q)) (s 3)
theorem i_hlt {s : Nat → Nat} (hS : i_S s) (hI : i_D s) {e : Nat} (he : e < s 3) : s (241 + e) < 4294967296 := by
  have := i_has hS hI he
  omega
theorem s_Mo_endingsOf {X : Nat × (Nat → Int32)} {tx : List Int32} {D : Nat} {m j : Nat → Nat → Nat} {w : (Nat × Nat) × Bool} (hS : i_S (m 236)) (hI : i_D (m 236)) (hD : 1 ≤ D) {q : Nat} (hq : q < 4294967296) : a_ex X tx a_T D 236 [.ref 234, .int (nI q)] (b_h m j w) = some ((b_h m j w), some (.int (nI (w_endsOf (m 236) q)))) := by
  obtain ⟨d, rfl⟩ : ∃ d, D = d + 1 := ⟨D - 1, by omega⟩
  rw [e_Mo_endingsOf, q_Mo_endingsOf_0]
  have hE := i_S_E hS
  rw [← l_Mo_endingsOf_4]
  refine z_loop (fun n => [.ref 234, .int (nI q), .int (nI (z_set (fun e => decide (m 236 (241 + e) = q)) n)), .int (nI n)]) (fun n => (b_h m j w)) (m 236 3) (0) ?_ ?_ _ (z_fu (by omega))
  · intro n hn f _
    rw [l_Mo_endingsOf_4, q_Mo_endingsOf_4]
    have h1 := i_hlt hS hI hn
    simp (disch := omega) only [↓bc_234, ↓br_234_6, ↓bc_236, ↓bx_236, bl_236, ↓b_t0, ↓b_t1, ↓b_t2, ↓b_t3, ↓b_t4, ↓b_t5, ↓b_t6, Nat.zero_add, Nat.le_refl, b_rs, b_rn, b_r2, b_ss, b_sn, b_bt, b_bf, b_b0, b_b1, b_bw, b_shl, b_or, b_iv, b_jv, b_sI, b_sJ, ↓z_hl, z_b0, z_b1, z_b2, b_and1c, b_and1z, if_true, if_false, nI_add, pk_mul, b_cl, b_lt, b_le, b_eq, b_eq0, b_le0, b_0lt, b_0le, b_lt0]
    rw [if_neg (by omega)]
    by_cases h : m 236 (241 + n) = q
    · rw [if_pos h, z_set_t (by simpa using h)]
    · rw [if_neg h, z_set_f (by simpa using h), Nat.or_zero]
  · intro f _
    rw [l_Mo_endingsOf_4, q_Mo_endingsOf_4]
    simp (disch := omega) only [↓bc_234, ↓br_234_6, ↓bc_236, ↓bx_236, bl_236, ↓b_t0, ↓b_t1, ↓b_t2, ↓b_t3, ↓b_t4, ↓b_t5, ↓b_t6, Nat.zero_add, Nat.le_refl, b_rs, b_rn, b_r2, b_ss, b_sn, b_bt, b_bf, b_b0, b_b1, b_bw, b_shl, b_or, b_iv, b_jv, b_sI, b_sJ, ↓z_hl, z_b0, z_b1, z_b2, b_and1c, b_and1z, if_true, if_false, nI_add, pk_mul, b_cl, b_lt, b_le, b_eq, b_eq0, b_le0, b_0lt, b_0le, b_lt0]
    try rfl
theorem s_Mo_putSet {X : Nat × (Nat → Int32)} {tx : List Int32} {D : Nat} {m j : Nat → Nat → Nat} {w : (Nat × Nat) × Bool} (hS : i_S (m 236)) (hI : i_D (m 236)) (hD : 2 ≤ D) : a_ex X tx a_T D 237 [.ref 234] (b_h m j w) = some ((b_h m j w), some (.int (nI (w_endsOf (m 236) 4294967295)))) := by
  obtain ⟨d, rfl⟩ : ∃ d, D = d + 1 := ⟨D - 1, by omega⟩
  rw [e_Mo_putSet, q_Mo_putSet_0]
  simp (disch := omega) only [s_Mo_endingsOf hS hI, ↓bc_234, ↓b_t0, ↓b_t1, ↓b_t2, ↓b_t3, ↓b_t4, ↓b_t5, ↓b_t6, Nat.zero_add, Nat.le_refl, b_rs, b_rn, b_r2, b_ss, b_sn, b_bt, b_bf, b_b0, b_b1, b_bw, b_shl, b_or, b_iv, b_jv, b_sI, b_sJ, ↓z_hl, z_b0, z_b1, z_b2, b_and1c, b_and1z, if_true, if_false, nI_add, pk_mul, b_cl, b_lt, b_le, b_eq, b_eq0, b_le0, b_0lt, b_0le, b_lt0]
def w_ended (s : Nat → Nat) : Nat := z_set (fun t => decide (w_open s t = 0)) (s 2)
theorem s_Mo_endedSet {X : Nat × (Nat → Int32)} {tx : List Int32} {D : Nat} {m j : Nat → Nat → Nat} {w : (Nat × Nat) × Bool} (hS : i_S (m 236)) (hI : i_D (m 236)) (hD : 2 ≤ D) : a_ex X tx a_T D 238 [.ref 234] (b_h m j w) = some ((b_h m j w), some (.int (nI (w_ended (m 236))))) := by
  obtain ⟨d, rfl⟩ : ∃ d, D = d + 1 := ⟨D - 1, by omega⟩
  rw [e_Mo_endedSet, q_Mo_endedSet_0]
  have hT := i_S_T hS
  rw [← l_Mo_endedSet_4]
  refine z_loop (fun n => [.ref 234, .int (nI (z_set (fun t => decide (w_open (m 236) t = 0)) n)), .int (nI n)]) (fun n => (b_h m j w)) (m 236 2) (0) ?_ ?_ _ (z_fu (by omega))
  · intro n hn f _
    rw [l_Mo_endedSet_4, q_Mo_endedSet_4]
    have h1 := w_open_le hI (t := n) (by omega)
    simp (disch := omega) only [s_Mo_openOf, ↓bc_234, ↓br_234_6, ↓bc_236, ↓bx_236, bl_236, ↓b_t0, ↓b_t1, ↓b_t2, ↓b_t3, ↓b_t4, ↓b_t5, ↓b_t6, Nat.zero_add, Nat.le_refl, b_rs, b_rn, b_r2, b_ss, b_sn, b_bt, b_bf, b_b0, b_b1, b_bw, b_shl, b_or, b_iv, b_jv, b_sI, b_sJ, ↓z_hl, z_b0, z_b1, z_b2, b_and1c, b_and1z, if_true, if_false, nI_add, pk_mul, b_cl, b_lt, b_le, b_eq, b_eq0, b_le0, b_0lt, b_0le, b_lt0]
    rw [if_neg (by omega)]
    by_cases h : w_open (m 236) n = 0
    · rw [if_pos h, z_set_t (by simpa using h)]
    · rw [if_neg h, z_set_f (by simpa using h), Nat.or_zero]
  · intro f _
    rw [l_Mo_endedSet_4, q_Mo_endedSet_4]
    simp (disch := omega) only [↓bc_234, ↓br_234_6, ↓bc_236, ↓bx_236, bl_236, ↓b_t0, ↓b_t1, ↓b_t2, ↓b_t3, ↓b_t4, ↓b_t5, ↓b_t6, Nat.zero_add, Nat.le_refl, b_rs, b_rn, b_r2, b_ss, b_sn, b_bt, b_bf, b_b0, b_b1, b_bw, b_shl, b_or, b_iv, b_jv, b_sI, b_sJ, ↓z_hl, z_b0, z_b1, z_b2, b_and1c, b_and1z, if_true, if_false, nI_add, pk_mul, b_cl, b_lt, b_le, b_eq, b_eq0, b_le0, b_0lt, b_0le, b_lt0]
    try rfl
theorem z_sum_one {g : Nat → Nat} {n k : Nat} (h : k < n) : g k ≤ z_sum g n := by
  induction n with
  | zero => omega
  | succ n ih =>
    unfold z_sum
    by_cases e : k = n
    · subst e; omega
    · have := ih (by omega); omega
theorem i_coin {s : Nat → Nat} (hI : i_D s) {i : Nat} (hi : i < 6) : s (159 + i) ≤ 5994 := by
  have h1 := i_D_co hI
  have h2 := z_sum_one (g := fun i => s (159 + i)) hi
  exact Nat.le_trans h2 h1
def w_whyBuy (s : Nat → Nat) (q e : Nat) : Nat := if s (241 + e) = 4294967295 then 1 else if s (241 + e) = q then 2 else if s (159 + q) < s (251 + e) then 3 else 0
theorem s_Mo_whyBuy {X : Nat × (Nat → Int32)} {tx : List Int32} {D : Nat} {m j : Nat → Nat → Nat} {w : (Nat × Nat) × Bool} (hS : i_S (m 236)) (hI : i_D (m 236)) (hD : 2 ≤ D) {q e : Nat} (hq : q < m 236 1) (he : e < m 236 3) : a_ex X tx a_T D 245 [.ref 234, .int (nI q), .int (nI e)] (b_h m j w) = some ((b_h m j w), some (.int (nI (w_whyBuy (m 236) q e)))) := by
  obtain ⟨d, rfl⟩ : ∃ d, D = d + 1 := ⟨D - 1, by omega⟩
  rw [e_Mo_whyBuy, q_Mo_whyBuy_0]
  have hE := i_S_E hS
  have hM := i_S_M hS
  have h1 := i_coin hI (i := q) (by omega)
  have h2 := i_D_pr hI e (by omega)
  have h3 := i_hlt hS hI he
  simp (disch := omega) only [s_Mo_isPut hS hI, decide_eq_false_iff_not, ↓bc_234, ↓br_234_6, ↓bc_236, ↓bx_236, bl_236, ↓b_t0, ↓b_t1, ↓b_t2, ↓b_t3, ↓b_t4, ↓b_t5, ↓b_t6, Nat.zero_add, Nat.le_refl, b_rs, b_rn, b_r2, b_ss, b_sn, b_bt, b_bf, b_b0, b_b1, b_bw, b_shl, b_or, b_iv, b_jv, b_sI, b_sJ, ↓z_hl, z_b0, z_b1, z_b2, b_and1c, b_and1z, if_true, if_false, nI_add, pk_mul, b_cl, b_lt, b_le, b_eq, b_eq0, b_le0, b_0lt, b_0le, b_lt0]
  unfold w_whyBuy
  by_cases c1 : m 236 (241 + e) = 4294967295
  · simp [c1]
  · by_cases c2 : m 236 (241 + e) = q
    · simp [c2, show ¬ q = 4294967295 by omega]
    · by_cases c3 : m 236 (159 + q) < m 236 (251 + e)
      · simp [c1, c2, c3, Nat.not_le.mpr c3]
      · simp [c1, c2, c3, Nat.not_lt.mp c3]
theorem w_whyBuy0 {s : Nat → Nat} (hI : i_D s) {q e : Nat} (hq : q < s 1) (he : e < s 3) (hw : w_whyBuy s q e = 0) : s (241 + e) < s 1 ∧ s (241 + e) ≠ q ∧ s (251 + e) ≤ s (159 + q) := by
  have h3 := i_D_ha hI e he
  unfold w_whyBuy at hw
  by_cases c1 : s (241 + e) = 4294967295
  · rw [if_pos c1] at hw; cases hw
  · rw [if_neg c1] at hw
    by_cases c2 : s (241 + e) = q
    · rw [if_pos c2] at hw; cases hw
    · rw [if_neg c2] at hw
      by_cases c3 : s (159 + q) < s (251 + e)
      · rw [if_pos c3] at hw; cases hw
      · exact ⟨h3.resolve_left c1, c2, Nat.not_lt.mp c3⟩
def w_buys (s : Nat → Nat) (q e : Nat) : Nat → Nat :=
  b_s (b_s (b_s (b_s (b_s s (159 + q) (s (159 + q) - s (251 + e))) (159 + s (241 + e)) (s (159 + s (241 + e)) + s (251 + e))) (241 + e) q) (282 + e) (s (282 + e) + 1)) (165 + q) (s (165 + q) + 1)
theorem s_Mo_buys {X : Nat × (Nat → Int32)} {tx : List Int32} {D : Nat} {m j : Nat → Nat → Nat} {w : (Nat × Nat) × Bool} (hS : i_S (m 236)) (hI : i_D (m 236)) (hD : 1 ≤ D) {q e : Nat} (hq : q < m 236 1) (he : e < m 236 3) (hw : w_whyBuy (m 236) q e = 0) : a_ex X tx a_T D 246 [.ref 234, .int (nI q), .int (nI e)] (b_h m j w) = some ((b_h (b_r m 236 (w_buys (m 236) q e)) j w), none) := by
  obtain ⟨d, rfl⟩ : ∃ d, D = d + 1 := ⟨D - 1, by omega⟩
  rw [e_Mo_buys, q_Mo_buys_0]
  have hE := i_S_E hS
  have hM := i_S_M hS
  have h1 := i_coin hI (i := q) (by omega)
  have h2 := i_D_pr hI e (by omega)
  have h3 := i_D_ha hI e he
  obtain ⟨h4, c2, c3⟩ := w_whyBuy0 hI hq he hw
  clear h3 hw
  unfold w_buys
  simp (disch := omega) only [b_sub, ↓bc_234, ↓br_234_6, ↓bc_236, ↓bx_236, bl_236, ↓b_t0, ↓b_t1, ↓b_t2, ↓b_t3, ↓b_t4, ↓b_t5, ↓b_t6, Nat.zero_add, Nat.le_refl, b_rs, b_rn, b_r2, b_ss, b_sn, b_bt, b_bf, b_b0, b_b1, b_bw, b_shl, b_or, b_iv, b_jv, b_sI, b_sJ, ↓z_hl, z_b0, z_b1, z_b2, b_and1c, b_and1z, if_true, if_false, nI_add, pk_mul, b_cl, b_lt, b_le, b_eq, b_eq0, b_le0, b_0lt, b_0le, b_lt0]
def w_whyPut (s : Nat → Nat) (q e t : Nat) : Nat := if s (241 + e) = 4294967295 then 1 else if s (241 + e) = q ∧ s (11 + t) = q then (if w_fitsRow s e (177 + 6 * t) = true then 0 else 3) else 2
theorem s_Mo_whyPut {X : Nat × (Nat → Int32)} {tx : List Int32} {D : Nat} {m j : Nat → Nat → Nat} {w : (Nat × Nat) × Bool} (hS : i_S (m 236)) (hI : i_D (m 236)) (hD : 4 ≤ D) {q e t : Nat} (hq : q < m 236 1) (he : e < m 236 3) (ht : t < m 236 2) : a_ex X tx a_T D 247 [.ref 234, .int (nI q), .int (nI e), .int (nI t)] (b_h m j w) = some ((b_h m j w), some (.int (nI (w_whyPut (m 236) q e t)))) := by
  obtain ⟨d, rfl⟩ : ∃ d, D = d + 1 := ⟨D - 1, by omega⟩
  rw [e_Mo_whyPut, q_Mo_whyPut_0]
  have hE := i_S_E hS
  have hM := i_S_M hS
  have hT := i_S_T hS
  have h1 := i_hlt hS hI he
  have h2 := i_S_wh hS t ht
  simp (disch := omega) only [s_Mo_isPut hS hI, s_Mo_doesFit hS hI, decide_eq_false_iff_not, ↓bc_234, ↓br_234_6, ↓bc_236, ↓bx_236, bl_236, ↓b_t0, ↓b_t1, ↓b_t2, ↓b_t3, ↓b_t4, ↓b_t5, ↓b_t6, Nat.zero_add, Nat.le_refl, b_rs, b_rn, b_r2, b_ss, b_sn, b_bt, b_bf, b_b0, b_b1, b_bw, b_shl, b_or, b_iv, b_jv, b_sI, b_sJ, ↓z_hl, z_b0, z_b1, z_b2, b_and1c, b_and1z, if_true, if_false, nI_add, pk_mul, b_cl, b_lt, b_le, b_eq, b_eq0, b_le0, b_0lt, b_0le, b_lt0]
  unfold w_whyPut
  by_cases c1 : m 236 (241 + e) = 4294967295
  · simp [c1]
  · by_cases c2 : m 236 (241 + e) = q
    · by_cases c3 : m 236 (11 + t) = q
      · by_cases c4 : w_fitsRow (m 236) e (177 + 6 * t) = true
        · simp [c2, c3, c4, w_fit, show ¬ q = 4294967295 by omega]
        · simp [c2, c3, c4, w_fit, show ¬ q = 4294967295 by omega]
      · simp [c2, c3, show ¬ q = 4294967295 by omega]
    · simp [c1, c2]
def w_putn (s : Nat → Nat) (e t n : Nat) : Nat → Nat := b_rg (b_rg s (177 + 6 * t) n fun k => s (177 + 6 * t + k) - min (s (177 + 6 * t + k)) (s (87 + 6 * e + k))) (292 + 6 * e) n fun k => min (s (177 + 6 * t + k)) (s (87 + 6 * e + k))
def w_puts (s : Nat → Nat) (q e t : Nat) : Nat → Nat :=
  b_s (b_s (b_s (b_s (b_s (w_putn s e t 6) (241 + e) 4294967295) (261 + e) (t + 1)) (271 + e) (s 157)) (225 + t) (s (225 + t) + 1)) (171 + q) (s (171 + q) + 1)
theorem s_Mo_putsTo {X : Nat × (Nat → Int32)} {tx : List Int32} {D : Nat} {m j : Nat → Nat → Nat} {w : (Nat × Nat) × Bool} (hS : i_S (m 236)) (hI : i_D (m 236)) (hD : 2 ≤ D) {q e t : Nat} (hq : q < m 236 1) (he : e < m 236 3) (ht : t < m 236 2) : a_ex X tx a_T D 248 [.ref 234, .int (nI q), .int (nI e), .int (nI t)] (b_h m j w) = some ((b_h (b_r m 236 (w_puts (m 236) q e t)) j w), none) := by
  obtain ⟨d, rfl⟩ : ∃ d, D = d + 1 := ⟨D - 1, by omega⟩
  rw [e_Mo_putsTo, q_Mo_putsTo_0]
  have hE := i_S_E hS
  have hM := i_S_M hS
  have hT := i_S_T hS
  rw [← l_Mo_putsTo_2]
  refine z_run (Q := fun r => r = some (b_h (b_r m 236 (w_puts (m 236) q e t)) j w, none)) (fun k L h => ∃ n u, k + n = 6 ∧ L = [.ref 234, .int (nI q), .int (nI e), .int (nI t), .int (nI n), u] ∧ h = b_h (b_r m 236 (w_putn (m 236) e t n)) j w) 0 ?_ 6 _ _ ⟨0, _, rfl, rfl, ?_⟩ _ (z_fu (by omega))
  · rintro k L h ⟨n, u, hk, rfl, rfl⟩ f _
    rw [l_Mo_putsTo_2, q_Mo_putsTo_2]
    by_cases hn : n = 6
    · left
      subst hn
      simp (disch := omega) only [↓bc_234, ↓br_234_6, ↓bc_236, ↓bx_236, bl_236, ↓b_t0, ↓b_t1, ↓b_t2, ↓b_t3, ↓b_t4, ↓b_t5, ↓b_t6, Nat.zero_add, Nat.le_refl, b_rs, b_rn, b_r2, b_ss, b_sn, b_bt, b_bf, b_b0, b_b1, b_bw, b_shl, b_or, b_iv, b_jv, b_sI, b_sJ, ↓z_hl, z_b0, z_b1, z_b2, b_and1c, b_and1z, if_true, if_false, nI_add, pk_mul, b_cl, b_lt, b_le, b_eq, b_eq0, b_le0, b_0lt, b_0le, b_lt0]
      unfold w_puts w_putn
      simp (disch := omega) only [b_rgo]
    · right
      refine ⟨k - 1, _, _, by omega, ⟨n + 1, .int (nI (min (m 236 (177 + 6 * t + n)) (m 236 (87 + 6 * e + n)))), by omega, rfl, rfl⟩, ?_⟩
      have h1 := i_D_op hI t (by omega) n (by omega)
      have h2 := i_S_cl hS e (by omega) n (by omega)
      have h4 : w_putn (m 236) e t n (177 + 6 * t + n) = m 236 (177 + 6 * t + n) := by unfold w_putn; rw [b_rgo (by omega), b_rgo (by omega)]
      have h5 : w_putn (m 236) e t n (87 + 6 * e + n) = m 236 (87 + 6 * e + n) := by unfold w_putn; rw [b_rgo (by omega), b_rgo (by omega)]
      have h6 : min (m 236 (177 + 6 * t + n)) (m 236 (87 + 6 * e + n)) ≤ m 236 (177 + 6 * t + n) := Nat.min_le_left _ _
      simp (disch := omega) only [h4, h5, s_Mo_closed, s_Mo_lesser, b_sub, ↓bc_234, ↓br_234_6, ↓bc_236, ↓bx_236, bl_236, ↓b_t0, ↓b_t1, ↓b_t2, ↓b_t3, ↓b_t4, ↓b_t5, ↓b_t6, Nat.zero_add, Nat.le_refl, b_rs, b_rn, b_r2, b_ss, b_sn, b_bt, b_bf, b_b0, b_b1, b_bw, b_shl, b_or, b_iv, b_jv, b_sI, b_sJ, ↓z_hl, z_b0, z_b1, z_b2, b_and1c, b_and1z, if_true, if_false, nI_add, pk_mul, b_cl, b_lt, b_le, b_eq, b_eq0, b_le0, b_0lt, b_0le, b_lt0]
      rw [if_neg (by omega)]
      unfold w_putn
      rw [b_rgs (by omega), b_rg1, b_rg1]
  · unfold w_putn
    rw [b_rg0, b_rg0, b_ri rfl]
def w_dark (s : Nat → Nat) (e : Nat) : Nat → Nat :=
  b_s (b_s (b_s (b_rg s (177 + 6 * (s (261 + e) - 1)) 6 fun k => min 99 (s (177 + 6 * (s (261 + e) - 1) + k) + s (292 + 6 * e + k))) 281 (s 281 ||| 2 ^ e)) (233 + (s (261 + e) - 1)) (s (233 + (s (261 + e) - 1)) + 1)) 158 (s 158 + 1)
theorem s_Mo_goesOnInDark {X : Nat × (Nat → Int32)} {tx : List Int32} {D : Nat} {m j : Nat → Nat → Nat} {w : (Nat × Nat) × Bool} (hS : i_S (m 236)) (hI : i_D (m 236)) (hD : 2 ≤ D) {e : Nat} (he : e < m 236 3) (hp : m 236 (241 + e) = 4294967295) : a_ex X tx a_T D 249 [.ref 234, .int (nI e)] (b_h m j w) = some ((b_h (b_r m 236 (w_dark (m 236) e)) j w), none) := by
  obtain ⟨d, rfl⟩ : ∃ d, D = d + 1 := ⟨D - 1, by omega⟩
  rw [e_Mo_goesOnInDark, q_Mo_goesOnInDark_0]
  have hE := i_S_E hS
  have hT := i_S_T hS
  have h1 := i_D_pu hI e he
  have h2 : m 236 (261 + e) ≠ 0 := fun h => ((i_D_pz hI e he).mp h) hp
  obtain ⟨t, ht⟩ : ∃ t, m 236 (261 + e) = t + 1 := ⟨m 236 (261 + e) - 1, by omega⟩
  unfold w_dark
  rw [ht, Nat.add_sub_cancel]
  simp (disch := omega) only [ht, b_sub, Nat.add_sub_cancel, ↓bc_234, ↓br_234_6, ↓bc_236, ↓bx_236, bl_236, ↓b_t0, ↓b_t1, ↓b_t2, ↓b_t3, ↓b_t4, ↓b_t5, ↓b_t6, Nat.zero_add, Nat.le_refl, b_rs, b_rn, b_r2, b_ss, b_sn, b_bt, b_bf, b_b0, b_b1, b_bw, b_shl, b_or, b_iv, b_jv, b_sI, b_sJ, ↓z_hl, z_b0, z_b1, z_b2, b_and1c, b_and1z, if_true, if_false, nI_add, pk_mul, b_cl, b_lt, b_le, b_eq, b_eq0, b_le0, b_0lt, b_0le, b_lt0]
  rw [← l_Mo_goesOnInDark_11]
  refine z_lp (fun n => [.ref 234, .int (nI e), .int (nI t), .int (nI n)]) (fun n => (b_h (b_r m 236 (b_rg (m 236) (177 + 6 * t) n fun k => min 99 (m 236 (177 + 6 * t + k) + m 236 (292 + 6 * e + k)))) j w)) (6) (0) (by first | rfl | simp [b_rg0]) (by first | rfl | simp [b_rg0, b_ri]) ?_ ?_ _ (z_fu (by omega))
  · intro n hn f _
    rw [l_Mo_goesOnInDark_11, q_Mo_goesOnInDark_11]
    have h3 := i_D_op hI t (by omega) n (by omega)
    have h4 := i_D_sh hI e (by omega) n (by omega)
    simp (disch := omega) only [b_rgo, s_Mo_lesser, ↓bc_234, ↓br_234_6, ↓bc_236, ↓bx_236, bl_236, ↓b_t0, ↓b_t1, ↓b_t2, ↓b_t3, ↓b_t4, ↓b_t5, ↓b_t6, Nat.zero_add, Nat.le_refl, b_rs, b_rn, b_r2, b_ss, b_sn, b_bt, b_bf, b_b0, b_b1, b_bw, b_shl, b_or, b_iv, b_jv, b_sI, b_sJ, ↓z_hl, z_b0, z_b1, z_b2, b_and1c, b_and1z, if_true, if_false, nI_add, pk_mul, b_cl, b_lt, b_le, b_eq, b_eq0, b_le0, b_0lt, b_0le, b_lt0]
    rw [if_neg (by omega), b_rg1]
  · intro f _
    rw [l_Mo_goesOnInDark_11, q_Mo_goesOnInDark_11]
    simp (disch := omega) only [b_rgo, ↓bc_234, ↓br_234_6, ↓bc_236, ↓bx_236, bl_236, ↓b_t0, ↓b_t1, ↓b_t2, ↓b_t3, ↓b_t4, ↓b_t5, ↓b_t6, Nat.zero_add, Nat.le_refl, b_rs, b_rn, b_r2, b_ss, b_sn, b_bt, b_bf, b_b0, b_b1, b_bw, b_shl, b_or, b_iv, b_jv, b_sI, b_sJ, ↓z_hl, z_b0, z_b1, z_b2, b_and1c, b_and1z, if_true, if_false, nI_add, pk_mul, b_cl, b_lt, b_le, b_eq, b_eq0, b_le0, b_0lt, b_0le, b_lt0]
