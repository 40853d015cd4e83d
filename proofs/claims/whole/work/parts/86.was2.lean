/-! WAS: both sides -/
/-- what is told of t comes to the last page -/
def w_lvs (s b : Nat → Nat) (t P : Nat) : Nat → Bool := z_all (fun k => decide (s (19 + 6 * t + k) - w_cs s P k = b k))
def w_cmq (s b : Nat → Nat) (P t : Nat) : Bool := w_lvs s b t P (s 0) && w_cn (w_fbh s (19 + 6 * t)) P
def w_cmo (s b : Nat → Nat) (P : Nat) : Nat → Nat := z_set (w_cmq s b P)
def w_wok (s b : Nat → Nat) (n : Nat) : Bool := decide (s 0 ≤ n) && w_wo s b (n - s 0)
def w_qwas (s b : Nat → Nat) (n : Nat) : Nat := if w_wok s b n = true then w_cmo s b (w_wp b (s 0) (n - s 0)) (s 2) else 4294967295
theorem w_cmo_lt {s b : Nat → Nat} {P n : Nat} (hn : n ≤ 8) : w_cmo s b P n < 256 := Nat.lt_of_lt_of_le (z_set_lt _ n) (Nat.le_trans (Nat.pow_le_pow_right (by decide) hn) (by decide))
theorem w_wp_congr {b c : Nat → Nat} {K : Nat} : ∀ n, (∀ i, i < K + n → b i = c i) → w_wp b K n = w_wp c K n
  | 0, _ => rfl
  | n + 1, h => by
    show w_wp b K n ||| 2 ^ b (K + n) = w_wp c K n ||| 2 ^ c (K + n)
    rw [w_wp_congr n (fun i hi => h i (by omega)), h (K + n) (by omega)]
theorem w_wo_congr {s b c : Nat → Nat} {n : Nat} (h : ∀ i, i < s 0 + n → b i = c i) : w_wo s b n = w_wo s c n := by
  unfold w_wo
  refine z_all_congr fun k hk => ?_
  rw [w_wp_congr k (fun i hi => h i (by omega)), h (s 0 + k) (by omega)]
theorem w_qwas_congr {s b c : Nat → Nat} {n : Nat} (h : ∀ i, i < n → b i = c i) : w_qwas s b n = w_qwas s c n := by
  unfold w_qwas w_wok
  by_cases c0 : s 0 ≤ n
  · rw [w_wo_congr (s := s) (b := b) (c := c) (fun i hi => h i (by omega)), w_wp_congr (b := b) (c := c) (n - s 0) (fun i hi => h i (by omega))]
    congr 1
    unfold w_cmo
    refine z_set_congr _ fun t _ => ?_
    unfold w_cmq w_lvs
    congr 1
    refine z_all_congr fun k hk => ?_
    rw [h k (by omega)]
  · rw [decide_eq_false c0, Bool.false_and, Bool.false_and, if_neg (by decide), if_neg (by decide)]
section WB
variable {X : Nat × (Nat → Int32)} {tx : List Int32} {D : Nat} {m j : Nat → Nat → Nat} {w : (Nat × Nat) × Bool} {s b : Nat → Nat}
theorem s_Or_leavesLastPage (hF : c_F m 4 s) (hS : i_S s) (hD : 3 ≤ D) {t P : Nat} (ht : t < 8) (hP : P < 1024) (hb : ∀ k, k < s 0 → b k < 256) (h65 : ∀ k, k < 6 → m 165 k = s (19 + 6 * t + k)) (h66 : ∀ k, k < 6 → m 166 k = if k < s 0 then b k else 0) (h7 : m 162 7 = P) : a_ex X tx a_T D 122 [.ref 162] (b_h m j w) = some ((b_h m j w), some (.int (nI (b_b (w_lvs s b t P (s 0)))))) := by
  obtain ⟨d, rfl⟩ : ∃ d, D = d + 1 := ⟨D - 1, by omega⟩
  rw [e_Or_leavesLastPage, q_Or_leavesLastPage_0]
  have hK := i_S_K hS
  have hpad : z_all (fun k => decide (s (19 + 6 * t + k) - w_cs s P k = if k < s 0 then b k else 0)) 6 = w_lvs s b t P (s 0) := by
    have h1 := z_all_pad (c := fun k => decide (s (19 + 6 * t + k) - w_cs s P k = if k < s 0 then b k else 0)) (n := s 0) (p := 6) hK (fun k h1 h2 => by
      show decide (s (19 + 6 * t + k) - w_cs s P k = if k < s 0 then b k else 0) = true
      rw [i_S_otk hS t ht k h1 h2, if_neg (by omega)]
      exact decide_eq_true (Nat.zero_sub _))
    rw [h1]
    unfold w_lvs
    refine z_all_congr fun k hk => ?_
    rw [if_pos hk]
  rw [← hpad, ← l_Or_leavesLastPage_2]
  refine z_run (Q := fun q => q = some (b_h m j w, some (.int (nI (b_b (z_all (fun k => decide (s (19 + 6 * t + k) - w_cs s P k = if k < s 0 then b k else 0)) 6)))))) (fun q L h => ∃ k, q + k = 6 ∧ z_all (fun k => decide (s (19 + 6 * t + k) - w_cs s P k = if k < s 0 then b k else 0)) k = true ∧ L = [.ref 162, .int (nI k)] ∧ h = b_h m j w) 0 ?_ 6 _ _ ⟨0, by omega, rfl, rfl, rfl⟩ _ (z_fu (by omega))
  rintro q L h ⟨k, hq, ha, rfl, rfl⟩ f _
  rw [l_Or_leavesLastPage_2, q_Or_leavesLastPage_2]
  by_cases c : k = 6
  · left
    subst c
    rw [ha]
    simp (disch := omega) only [↓bc_162, ↓br_162_5, ↓bc_165, ↓bx_165, bl_165, ↓br_162_6, ↓bc_166, ↓bx_166, bl_166, ↓b_t0, ↓b_t1, ↓b_t2, ↓b_t3, ↓b_t4, ↓b_t5, ↓b_t6, Nat.zero_add, Nat.le_refl, b_rs, b_rn, b_r2, b_ss, b_sn, b_bt, b_bf, b_b0, b_b1, b_bw, b_shl, b_or, b_iv, b_jv, b_sI, b_sJ, ↓z_hl, z_b0, z_b1, z_b2, b_and1c, b_and1z, if_true, if_false, nI_add, pk_mul, b_cl, b_lt, b_le, b_eq, b_eq0, b_le0, b_0lt, b_0le, b_lt0]
  · have s1 := s_Or_closedBy (X := X) (tx := tx) (D := d) (m := m) (j := j) (w := w) hF hS (by omega) (S := P) (k := k) hP (by omega)
    have h1 := h65 k (by omega)
    have h2 := h66 k (by omega)
    have h3 := i_S_ot hS t ht k (by omega)
    have h4 := w_cs_le hS (S := P) (k := k) (by omega)
    have h5 : (if k < s 0 then b k else 0) < 256 := by
      by_cases c5 : k < s 0
      · rw [if_pos c5]; exact hb k c5
      · rw [if_neg c5]; decide
    generalize hV : (if k < s 0 then b k else 0) = V at h2 h5
    by_cases c2 : s (19 + 6 * t + k) - w_cs s P k = V
    · right
      refine ⟨q - 1, [.ref 162, .int (nI (k + 1))], _, by omega, ⟨k + 1, by omega, by show (z_all (fun k => decide (s (19 + 6 * t + k) - w_cs s P k = if k < s 0 then b k else 0)) k && decide (s (19 + 6 * t + k) - w_cs s P k = if k < s 0 then b k else 0)) = true; rw [ha, hV, decide_eq_true c2]; rfl, rfl, rfl⟩, ?_⟩
      simp (disch := omega) only [h7, s1, h1, h2, b_mxlf, ↓bc_162, ↓br_162_5, ↓bc_165, ↓bx_165, bl_165, ↓br_162_6, ↓bc_166, ↓bx_166, bl_166, ↓b_t0, ↓b_t1, ↓b_t2, ↓b_t3, ↓b_t4, ↓b_t5, ↓b_t6, Nat.zero_add, Nat.le_refl, b_rs, b_rn, b_r2, b_ss, b_sn, b_bt, b_bf, b_b0, b_b1, b_bw, b_shl, b_or, b_iv, b_jv, b_sI, b_sJ, ↓z_hl, z_b0, z_b1, z_b2, b_and1c, b_and1z, if_true, if_false, nI_add, pk_mul, b_cl, b_lt, b_le, b_eq, b_eq0, b_le0, b_0lt, b_0le, b_lt0]
      rw [if_neg (by omega), if_pos c2]
    · left
      have e1 : z_all (fun k => decide (s (19 + 6 * t + k) - w_cs s P k = if k < s 0 then b k else 0)) 6 = false := Bool.eq_false_iff.mpr fun g => c2 (by
        have := of_decide_eq_true ((z_all_iff _ _).mp g k (by omega))
        rw [hV] at this
        exact this)
      rw [e1]
      simp (disch := omega) only [h7, s1, h1, h2, b_mxlf, ↓bc_162, ↓br_162_5, ↓bc_165, ↓bx_165, bl_165, ↓br_162_6, ↓bc_166, ↓bx_166, bl_166, ↓b_t0, ↓b_t1, ↓b_t2, ↓b_t3, ↓b_t4, ↓b_t5, ↓b_t6, Nat.zero_add, Nat.le_refl, b_rs, b_rn, b_r2, b_ss, b_sn, b_bt, b_bf, b_b0, b_b1, b_bw, b_shl, b_or, b_iv, b_jv, b_sI, b_sJ, ↓z_hl, z_b0, z_b1, z_b2, b_and1c, b_and1z, if_true, if_false, nI_add, pk_mul, b_cl, b_lt, b_le, b_eq, b_eq0, b_le0, b_0lt, b_0le, b_lt0]
      rw [if_neg (by omega), if_neg c2]
theorem s_Or_cameSo (hF : c_F m 4 s) (hA : c_A m 26 s) (hS : i_S s) (hD : 6 ≤ D) {P : Nat} (hP : P < 2 ^ s 3) (hb : ∀ k, k < s 0 → b k < 256) (h66 : ∀ k, k < 6 → m 166 k = if k < s 0 then b k else 0) (h7 : m 162 7 = P) : ∃ m2, a_ex X tx a_T D 121 [.ref 162] (b_h m j w) = some (b_h m2 j w, some (.int (nI (w_cmo s b P (s 2))))) ∧ z_fr 164 165 m m2 := by
  obtain ⟨d, rfl⟩ : ∃ d, D = d + 1 := ⟨D - 1, by omega⟩
  have hE := i_S_E hS
  have hT := i_S_T hS
  have e2 := c_F4_T hF
  have hPw : 2 ^ s 3 ≤ 1024 := Nat.pow_le_pow_right (n := 2) (by decide) hE
  rw [e_Or_cameSo, q_Or_cameSo_0, ← l_Or_cameSo_4]
  refine z_run (Q := fun q => ∃ m2, q = some (b_h m2 j w, some (.int (nI (w_cmo s b P (s 2))))) ∧ z_fr 164 165 m m2) (fun q L h => ∃ t m3, q + t = s 2 ∧ L = [.ref 162, .int (nI (w_cmo s b P t)), .int (nI t)] ∧ h = b_h m3 j w ∧ z_fr 164 165 m m3) 0 ?_ (s 2) _ _ ⟨0, m, by omega, rfl, rfl, z_fr_rf⟩ _ (z_fu (by omega))
  rintro q L h ⟨t, m3, hq, rfl, rfl, hm⟩ f _
  rw [l_Or_cameSo_4, q_Or_cameSo_4]
  have g2 : m3 4 2 = s 2 := by rw [hm 4 (by omega)]; exact e2
  have hcl := w_cmo_lt (s := s) (b := b) (P := P) (n := t) (by omega)
  by_cases c : t = s 2
  · left
    subst c
    refine ⟨m3, ?_, hm⟩
    simp (disch := omega) only [g2, ↓bc_162, ↓br_162_0, ↓bc_4, ↓b_t0, ↓b_t1, ↓b_t2, ↓b_t3, ↓b_t4, ↓b_t5, ↓b_t6, Nat.zero_add, Nat.le_refl, b_rs, b_rn, b_r2, b_ss, b_sn, b_bt, b_bf, b_b0, b_b1, b_bw, b_shl, b_or, b_iv, b_jv, b_sI, b_sJ, ↓z_hl, z_b0, z_b1, z_b2, b_and1c, b_and1z, if_true, if_false, nI_add, pk_mul, b_cl, b_lt, b_le, b_eq, b_eq0, b_le0, b_0lt, b_0le, b_lt0]
  · right
    have hF3 : c_F m3 4 s := c_F_ext (fun c p1 p2 => hm c (by omega)) (fun _ _ => rfl) hS hF
    have hA3 : c_A m3 26 s := c_A_ext (fun c p1 p2 => hm c (by omega)) hA
    obtain ⟨m4, s1, k1, k2⟩ := s_Or_leaveAsTold (X := X) (tx := tx) (D := d) (m := m3) (j := j) (w := w) hF3 hA3 hS (by omega) (t := t) (by omega)
    have hm4 : z_fr 164 165 m m4 := fun c hc => by rw [k1 c (by omega), hm c hc]
    have hF4 : c_F m4 4 s := c_F_ext (fun c p1 p2 => hm4 c (by omega)) (fun _ _ => rfl) hS hF
    have g7 : m4 162 7 = P := by rw [hm4 162 (by omega)]; exact h7
    have s2 := s_Or_leavesLastPage (X := X) (tx := tx) (D := d) (m := m4) (j := j) (w := w) (b := b) hF4 hS (by omega) (t := t) (P := P) (by omega) (by omega) hb k2 (fun k hk => by rw [hm4 166 (by omega)]; exact h66 k hk) g7
    obtain ⟨m5, s3, k3⟩ := s_Or_mayFollow (X := X) (tx := tx) (D := d) (m := m4) (j := j) (w := w) hF4 hS (by omega) (S := P) (P := 0) (r := 19 + 6 * t) hP (by decide) (fun i _ g => by rw [Nat.zero_testBit] at g; exact absurd g (by decide)) (fun k hk => by have := i_S_ot hS t (by omega) k hk; omega) (fun k hk => by rw [w_cs_0, w_lf0]; exact k2 k hk)
    rw [w_fp0] at s3
    have hQ : w_cmq s b P t = (w_lvs s b t P (s 0) && w_cn (w_fbh s (19 + 6 * t)) P) := rfl
    cases hl : w_lvs s b t P (s 0) with
    | false =>
      rw [hl] at s2 hQ
      rw [Bool.false_and] at hQ
      refine ⟨q - 1, [.ref 162, .int (nI (w_cmo s b P t)), .int (nI (t + 1))], b_h m4 j w, by omega, ⟨t + 1, m4, by omega, by rw [show w_cmo s b P (t + 1) = w_cmo s b P t from z_set_f hQ], rfl, hm4⟩, ?_⟩
      simp (disch := omega) only [g2, s1, s2, ↓bc_162, ↓br_162_0, ↓bc_4, ↓b_t0, ↓b_t1, ↓b_t2, ↓b_t3, ↓b_t4, ↓b_t5, ↓b_t6, Nat.zero_add, Nat.le_refl, b_rs, b_rn, b_r2, b_ss, b_sn, b_bt, b_bf, b_b0, b_b1, b_bw, b_shl, b_or, b_iv, b_jv, b_sI, b_sJ, ↓z_hl, z_b0, z_b1, z_b2, b_and1c, b_and1z, if_true, if_false, nI_add, pk_mul, b_cl, b_lt, b_le, b_eq, b_eq0, b_le0, b_0lt, b_0le, b_lt0]
      rw [if_neg (by omega)]
    | true =>
      rw [hl] at s2 hQ
      rw [Bool.true_and] at hQ
      have hm5 : z_fr 164 165 m m5 := fun c hc => by rw [k3 c (by omega), hm4 c hc]
      cases hc : w_cn (w_fbh s (19 + 6 * t)) P with
      | false =>
        rw [hc] at s3 hQ
        refine ⟨q - 1, [.ref 162, .int (nI (w_cmo s b P t)), .int (nI (t + 1))], b_h m5 j w, by omega, ⟨t + 1, m5, by omega, by rw [show w_cmo s b P (t + 1) = w_cmo s b P t from z_set_f hQ], rfl, hm5⟩, ?_⟩
        simp (disch := omega) only [g2, s1, s2, g7, s3, Nat.one_ne_zero, ↓bc_162, ↓br_162_0, ↓bc_4, ↓b_t0, ↓b_t1, ↓b_t2, ↓b_t3, ↓b_t4, ↓b_t5, ↓b_t6, Nat.zero_add, Nat.le_refl, b_rs, b_rn, b_r2, b_ss, b_sn, b_bt, b_bf, b_b0, b_b1, b_bw, b_shl, b_or, b_iv, b_jv, b_sI, b_sJ, ↓z_hl, z_b0, z_b1, z_b2, b_and1c, b_and1z, if_true, if_false, nI_add, pk_mul, b_cl, b_lt, b_le, b_eq, b_eq0, b_le0, b_0lt, b_0le, b_lt0]
        rw [if_neg (by omega)]
      | true =>
        rw [hc] at s3 hQ
        refine ⟨q - 1, [.ref 162, .int (nI (w_cmo s b P t ||| 2 ^ t)), .int (nI (t + 1))], b_h m5 j w, by omega, ⟨t + 1, m5, by omega, by rw [show w_cmo s b P (t + 1) = w_cmo s b P t ||| 2 ^ t from z_set_t hQ], rfl, hm5⟩, ?_⟩
        simp (disch := omega) only [g2, s1, s2, g7, s3, Nat.one_ne_zero, ↓bc_162, ↓br_162_0, ↓bc_4, ↓b_t0, ↓b_t1, ↓b_t2, ↓b_t3, ↓b_t4, ↓b_t5, ↓b_t6, Nat.zero_add, Nat.le_refl, b_rs, b_rn, b_r2, b_ss, b_sn, b_bt, b_bf, b_b0, b_b1, b_bw, b_shl, b_or, b_iv, b_jv, b_sI, b_sJ, ↓z_hl, z_b0, z_b1, z_b2, b_and1c, b_and1z, if_true, if_false, nI_add, pk_mul, b_cl, b_lt, b_le, b_eq, b_eq0, b_le0, b_0lt, b_0le, b_lt0]
        rw [if_neg (by omega)]
theorem s_EM_was (hF : c_F m 4 s) (hA : c_A m 26 s) (hS : i_S s) (hn : m 1 2 ≤ 940) (hb : ∀ i, i < m 1 2 → m 2 i < 256) (hD : 8 ≤ D) : ∃ m2, a_ex X tx a_T D 173 [.ref 0] (b_h m j w) = some (b_h m2 j w, some (.int (nI (w_qwas s (m 2) (m 1 2))))) ∧ (∀ c, c ≠ 0 → c ≠ 1 → (c < 162 ∨ 166 < c) → m2 c = m c) ∧ (∀ k, k ≠ 15 → m2 0 k = m 0 k) ∧ m2 1 2 = 0 ∧ m2 162 3 = m 162 3 ∧ m2 163 = m 163 ∧ m2 0 15 = if w_qwas s (m 2) (m 1 2) = 4294967295 ∨ w_qwas s (m 2) (m 1 2) = 0 then m 0 15 else (w_mst s (w_qwas s (m 2) (m 1 2)) (s 0)).1 := by
  obtain ⟨d, rfl⟩ : ∃ d, D = d + 1 := ⟨D - 1, by omega⟩
  have hE := i_S_E hS
  have hT := i_S_T hS
  have hK := i_S_K hS
  have n1 : (nI 4294967295 ≤ 0) = True := by
    have h : (0 : Int32) = nI 0 := rfl
    rw [h, b_lem (by decide) (by decide) (by decide)]
  obtain ⟨m1, e1, g1, g2, g3, g4⟩ := s_Or_readLastPage (X := X) (tx := tx) (D := d) (m := m) (j := j) (w := w) hF hS hn hb (by omega)
  have hok : (decide (s 0 ≤ m 1 2) && w_wo s (m 2) (m 1 2 - s 0)) = w_wok s (m 2) (m 1 2) := rfl
  rw [hok] at e1 g4
  have hF1 : c_F m1 4 s := c_F_ext (fun c p1 p2 => g1 c (by omega)) (fun _ _ => rfl) hS hF
  have hA1 : c_A m1 26 s := c_A_ext (fun c p1 p2 => g1 c (by omega)) hA
  rw [e_EM_was, q_EM_was_0]
  cases hc : w_wok s (m 2) (m 1 2) with
  | false =>
    rw [hc] at e1
    have eq : w_qwas s (m 2) (m 1 2) = 4294967295 := by unfold w_qwas; rw [hc, if_neg (by decide)]
    rw [eq]
    refine ⟨b_r m1 1 (b_s (m1 1) 2 0), ?_, fun c p1 p2 p3 => by rw [b_rn p2, g1 c (by omega)], fun k hk => by rw [b_rn (by decide), g1 0 (by omega)], by rw [b_rs, b_ss], by rw [b_rn (by decide)]; exact g2, by rw [b_rn (by decide)]; exact g3, by rw [if_pos (Or.inl rfl), b_rn (by decide), g1 0 (by omega)]⟩
    simp (disch := omega) only [e1, q_EM_was_11, n1, ↓bc_0, ↓br_0_9, ↓bc_162, ↓br_0_0, ↓bc_1, ↓br_0_1, ↓bc_4, ↓b_t0, ↓b_t1, ↓b_t2, ↓b_t3, ↓b_t4, ↓b_t5, ↓b_t6, Nat.zero_add, Nat.le_refl, b_rs, b_rn, b_r2, b_ss, b_sn, b_bt, b_bf, b_b0, b_b1, b_bw, b_shl, b_or, b_iv, b_jv, b_sI, b_sJ, ↓z_hl, z_b0, z_b1, z_b2, b_and1c, b_and1z, if_true, if_false, nI_add, pk_mul, b_cl, b_lt, b_le, b_eq, b_eq0, b_le0, b_0lt, b_0le, b_lt0]
  | true =>
    rw [hc] at e1
    obtain ⟨z1, z2⟩ := g4 hc
    unfold w_wok at hc
    rw [Bool.and_eq_true, decide_eq_true_eq] at hc
    obtain ⟨o1, o2⟩ := w_wo_ok hE _ hc.2
    have eq : w_qwas s (m 2) (m 1 2) = w_cmo s (m 2) (w_wp (m 2) (s 0) (m 1 2 - s 0)) (s 2) := by
      unfold w_qwas w_wok
      rw [decide_eq_true hc.1, hc.2]
      rfl
    rw [eq]
    obtain ⟨m2, e2, k1⟩ := s_Or_cameSo (X := X) (tx := tx) (D := d) (m := m1) (j := j) (w := w) (b := m 2) hF1 hA1 hS (by omega) o1 (fun k hk => hb k (by omega)) z1 z2
    have hcl := w_cmo_lt (s := s) (b := m 2) (P := w_wp (m 2) (s 0) (m 1 2 - s 0)) (n := s 2) hT
    generalize w_cmo s (m 2) (w_wp (m 2) (s 0) (m 1 2 - s 0)) (s 2) = S at e2 hcl
    have fr : ∀ c, c < 162 ∨ 166 < c → m2 c = m c := fun c hc => by rw [k1 c (by omega), g1 c (by omega)]
    have hF2 : c_F (b_r m2 1 (b_s (m2 1) 2 0)) 4 s := c_F_ext (fun c p1 p2 => by rw [b_rn (by omega)]; exact fr c (by omega)) (fun _ _ => rfl) hS hF
    have s3 := s_Fa_mostUnlike (X := X) (tx := tx) (D := d) (m := b_r m2 1 (b_s (m2 1) 2 0)) (j := j) (w := w) hF2 hS (by omega) (S := S) hcl
    by_cases c0 : S = 0
    · subst c0
      refine ⟨b_r m2 1 (b_s (m2 1) 2 0), ?_, fun c p1 p2 p3 => by rw [b_rn p2, fr c (by omega)], fun k hk => by rw [b_rn (by decide), fr 0 (by omega)], by rw [b_rs, b_ss], by rw [b_rn (by decide), k1 162 (by omega)]; exact g2, by rw [b_rn (by decide), k1 163 (by omega)]; exact g3, by rw [if_pos (Or.inr rfl), b_rn (by decide), fr 0 (by omega)]⟩
      simp (disch := omega) only [e1, e2, q_EM_was_11, Nat.one_ne_zero, ↓bc_0, ↓br_0_9, ↓bc_162, ↓br_0_0, ↓bc_1, ↓br_0_1, ↓bc_4, ↓b_t0, ↓b_t1, ↓b_t2, ↓b_t3, ↓b_t4, ↓b_t5, ↓b_t6, Nat.zero_add, Nat.le_refl, b_rs, b_rn, b_r2, b_ss, b_sn, b_bt, b_bf, b_b0, b_b1, b_bw, b_shl, b_or, b_iv, b_jv, b_sI, b_sJ, ↓z_hl, z_b0, z_b1, z_b2, b_and1c, b_and1z, if_true, if_false, nI_add, pk_mul, b_cl, b_lt, b_le, b_eq, b_eq0, b_le0, b_0lt, b_0le, b_lt0]
    · refine ⟨b_r (b_r m2 1 (b_s (m2 1) 2 0)) 0 (b_s (m2 0) 15 (w_mst s S (s 0)).1), ?_, fun c p1 p2 p3 => by rw [b_rn p1, b_rn p2, fr c (by omega)], fun k hk => by rw [b_rs, b_sn hk, fr 0 (by omega)], by rw [b_rn (by decide), b_rs, b_ss], by rw [b_rn (by decide), b_rn (by decide), k1 162 (by omega)]; exact g2, by rw [b_rn (by decide), b_rn (by decide), k1 163 (by omega)]; exact g3, by rw [if_neg (by omega), b_rs, b_ss]⟩
      simp (disch := omega) only [e1, e2, q_EM_was_11, s3, Nat.one_ne_zero, ↓bc_0, ↓br_0_9, ↓bc_162, ↓br_0_0, ↓bc_1, ↓br_0_1, ↓bc_4, ↓b_t0, ↓b_t1, ↓b_t2, ↓b_t3, ↓b_t4, ↓b_t5, ↓b_t6, Nat.zero_add, Nat.le_refl, b_rs, b_rn, b_r2, b_ss, b_sn, b_bt, b_bf, b_b0, b_b1, b_bw, b_shl, b_or, b_iv, b_jv, b_sI, b_sJ, ↓z_hl, z_b0, z_b1, z_b2, b_and1c, b_and1z, if_true, if_false, nI_add, pk_mul, b_cl, b_lt, b_le, b_eq, b_eq0, b_le0, b_0lt, b_0le, b_lt0]
      rw [if_neg c0]
end WB
