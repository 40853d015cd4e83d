/-! LEDGERS: lines are lived -/
def w_lv (s : Nat → Nat) (y : Nat × Nat × Nat) : Nat × (Nat → Nat) := if y.2.2 = 4294967294 then (if s 157 + y.1 ≤ 400 then (0, w_days s y.1) else (21, s)) else if y.2.2 = 4294967295 then (if w_whyBuy s y.1 y.2.1 = 0 then (0, w_buys s y.1 y.2.1) else (w_whyBuy s y.1 y.2.1, s)) else if w_whyPut s y.1 y.2.1 y.2.2 = 0 then (0, w_puts s y.1 y.2.1 y.2.2) else (10 + w_whyPut s y.1 y.2.1 y.2.2, s)
/-- why, how many were lived, what is so then -/
def w_jg (L : Nat → Nat × Nat × Nat) : Nat → Nat → (Nat → Nat) → Nat × Nat × (Nat → Nat)
  | 0, i, s => (0, i, s)
  | k + 1, i, s => if (w_lv s (L i)).1 = 0 then w_jg L k (i + 1) (w_lv s (L i)).2 else ((w_lv s (L i)).1, i, s)
theorem w_jg_o {L : Nat → Nat × Nat × Nat} {k i : Nat} {s : Nat → Nat} (h : (w_lv s (L i)).1 = 0) : w_jg L (k + 1) i s = w_jg L k (i + 1) (w_lv s (L i)).2 := if_pos h
theorem w_jg_x {L : Nat → Nat × Nat × Nat} {k i : Nat} {s : Nat → Nat} (h : (w_lv s (L i)).1 ≠ 0) : w_jg L (k + 1) i s = ((w_lv s (L i)).1, i, s) := if_neg h
theorem w_whyBuy_lt {s : Nat → Nat} {q e : Nat} : w_whyBuy s q e ≤ 3 := by
  unfold w_whyBuy; split; · decide
  split; · decide
  split <;> decide
theorem w_whyPut_lt {s : Nat → Nat} {q e t : Nat} : w_whyPut s q e t ≤ 3 := by
  unfold w_whyPut; split; · decide
  split
  · split <;> decide
  · decide
theorem w_lv_ok {s : Nat → Nat} {y : Nat × Nat × Nat} (hS : i_S s) (hI : i_D s) (hv : z_lv s y) : i_S (w_lv s y).2 ∧ i_D (w_lv s y).2 ∧ (∀ i, i < 157 ∨ 352 ≤ i → (w_lv s y).2 i = s i) ∧ (w_lv s y).1 < 100 ∧ ((w_lv s y).1 ≠ 0 → (w_lv s y).2 = s) := by
  have hT := i_S_T hS
  have hM := i_S_M hS
  have hE := i_S_E hS
  unfold w_lv
  rcases hv with ⟨v1, v2, v3⟩ | ⟨v1, v2, v3⟩ | ⟨v1, v2, v3⟩
  · rw [if_pos v1]
    by_cases c : s 157 + y.1 ≤ 400
    · rw [if_pos c]
      obtain ⟨g1, g2, g3, g4⟩ := w_days_ok hS hI y.1 c
      exact ⟨g1, g2, fun i hi => g4 i (by omega), by show 0 < 100; decide, fun x => absurd (show (0 : Nat) = 0 from rfl) x⟩
    · rw [if_neg c]
      exact ⟨hS, hI, fun _ _ => rfl, by show 21 < 100; decide, fun _ => rfl⟩
  · rw [if_neg (by omega), if_pos v1]
    by_cases c : w_whyBuy s y.1 y.2.1 = 0
    · rw [if_pos c]
      have lo : ∀ i, i < 157 ∨ 352 ≤ i → w_buys s y.1 y.2.1 i = s i := fun i hi => w_buys_lo (by omega) (by omega) (by omega) (by have := (w_whyBuy0 hI v2 v3 c).1; omega)
      exact ⟨i_S_ext (fun i hi => lo i (by omega)) hS, i_D_buys hS hI v2 v3 c, lo, by show 0 < 100; decide, fun x => absurd (show (0 : Nat) = 0 from rfl) x⟩
    · rw [if_neg c]
      have := w_whyBuy_lt (s := s) (q := y.1) (e := y.2.1)
      exact ⟨hS, hI, fun _ _ => rfl, by show w_whyBuy s y.1 y.2.1 < 100; omega, fun _ => rfl⟩
  · rw [if_neg (by omega), if_neg (by omega)]
    by_cases c : w_whyPut s y.1 y.2.1 y.2.2 = 0
    · rw [if_pos c]
      have lo : ∀ i, i < 157 ∨ 352 ≤ i → w_puts s y.1 y.2.1 y.2.2 i = s i := fun i hi => w_puts_lo (by omega) (by omega) (by omega) (by omega)
      exact ⟨i_S_ext (fun i hi => lo i (by omega)) hS, i_D_puts hS hI v2 v3 v1 (w_whyPut0 c).2.2.2, lo, by show 0 < 100; decide, fun x => absurd (show (0 : Nat) = 0 from rfl) x⟩
    · rw [if_neg c]
      have := w_whyPut_lt (s := s) (q := y.1) (e := y.2.1) (t := y.2.2)
      exact ⟨hS, hI, fun _ _ => rfl, by show 10 + w_whyPut s y.1 y.2.1 y.2.2 < 100; omega, fun _ => rfl⟩
theorem z_lv_s {s r : Nat → Nat} {y : Nat × Nat × Nat} (h : ∀ i, i < 157 ∨ 352 ≤ i → r i = s i) (hv : z_lv s y) : z_lv r y := by
  unfold z_lv at hv ⊢
  rw [h 1 (by omega), h 2 (by omega), h 3 (by omega)]
  exact hv
theorem w_jg_ok {L : Nat → Nat × Nat × Nat} : ∀ k i s, i_S s → i_D s → (∀ x, i ≤ x → x < i + k → z_lv s (L x)) → i_S (w_jg L k i s).2.2 ∧ i_D (w_jg L k i s).2.2 ∧ (∀ x, x < 157 ∨ 352 ≤ x → (w_jg L k i s).2.2 x = s x) ∧ (w_jg L k i s).1 < 100 ∧ i ≤ (w_jg L k i s).2.1 ∧ (w_jg L k i s).2.1 ≤ i + k ∧ ((w_jg L k i s).2.1 = i → (w_jg L k i s).2.2 = s)
  | 0, i, s, hS, hI, _ => ⟨hS, hI, fun _ _ => rfl, by show 0 < 100; decide, Nat.le_refl _, Nat.le_refl _, fun _ => rfl⟩
  | k + 1, i, s, hS, hI, hv => by
    obtain ⟨g1, g2, g3, g4, g5⟩ := w_lv_ok hS hI (hv i (by omega) (by omega))
    by_cases c : (w_lv s (L i)).1 = 0
    · rw [w_jg_o c]
      obtain ⟨a1, a2, a3, a4, a5, a6, a7⟩ := w_jg_ok k (i + 1) (w_lv s (L i)).2 g1 g2 (fun x h1 h2 => z_lv_s g3 (hv x (by omega) (by omega)))
      exact ⟨a1, a2, fun x hx => (a3 x hx).trans (g3 x hx), a4, by omega, by omega, fun x => by omega⟩
    · rw [w_jg_x c]
      exact ⟨hS, hI, fun _ _ => rfl, g4, Nat.le_refl _, by show i ≤ i + (k + 1); omega, fun _ => rfl⟩
section LI
variable {X : Nat × (Nat → Int32)} {tx : List Int32} {D d : Nat} {m j : Nat → Nat → Nat} {w : (Nat × Nat) × Bool} {s : Nat → Nat} {y : Nat × Nat × Nat} {i : Nat}
theorem s_Le_live (hF : c_F m 4 s) (hA : c_A m 38 s) (hS : i_S s) (hI : i_D s) (hv : z_lv s y) (hx : x_ln m i y) (hi : i < 40) (hD : 8 ≤ D) : ∃ m2, a_ex X tx a_T D 101 [.ref 156, .ref 38, .int (nI i)] (b_h m j w) = some (b_h m2 j w, some (.int (nI (w_lv s y).1))) ∧ z_fr 38 49 m m2 ∧ c_A m2 38 (w_lv s y).2 := by
  obtain ⟨d, rfl⟩ : ∃ d, D = d + 1 := ⟨D - 1, by omega⟩
  have hT := i_S_T hS
  have hM := i_S_M hS
  have hE := i_S_E hS
  have hda := i_D_da hI
  obtain ⟨x1, x2, x3⟩ := hx
  unfold w_lv
  rcases hv with ⟨v1, v2, v3⟩ | ⟨v1, v2, v3⟩ | ⟨v1, v2, v3⟩
  · obtain ⟨a1, a2⟩ := x1 v1
    rw [if_pos v1]
    have s1 := s_Af_daysLeft38 (X := X) (tx := tx) (D := d) (m := m) (j := j) (w := w) hA hI (by omega)
    by_cases c : s 157 + y.1 ≤ 400
    · rw [if_pos c]
      obtain ⟨m2, k1, k2, k3⟩ := s_Af_passDays38 (X := X) (tx := tx) (D := d) (m := m) (j := j) (w := w) hF hA hS hI (by omega) c
      refine ⟨m2, ?_, k2, k3⟩
      rw [e_Le_live, q_Le_live_0]
      simp (disch := omega) only [a1, a2, s1, k1, ↓bc_156, ↓br_156_1, ↓bc_157, ↓bx_157, bl_157, ↓br_156_5, ↓bc_161, ↓bx_161, bl_161, ↓bc_38, ↓br_156_2, ↓bc_158, ↓bx_158, bl_158, ↓br_156_3, ↓bc_159, ↓bx_159, bl_159, ↓br_156_4, ↓bc_160, ↓bx_160, bl_160, ↓b_t0, ↓b_t1, ↓b_t2, ↓b_t3, ↓b_t4, ↓b_t5, ↓b_t6, Nat.zero_add, Nat.le_refl, b_rs, b_rn, b_r2, b_ss, b_sn, b_bt, b_bf, b_b0, b_b1, b_bw, b_shl, b_or, b_iv, b_jv, b_sI, b_sJ, ↓z_hl, z_b0, z_b1, z_b2, b_and1c, b_and1z, if_true, if_false, nI_add, pk_mul, b_cl, b_lt, b_le, b_eq, b_eq0, b_le0, b_0lt, b_0le, b_lt0]
      rw [if_pos (by omega)]
    · rw [if_neg c]
      refine ⟨m, ?_, fun _ _ => rfl, hA⟩
      rw [e_Le_live, q_Le_live_0]
      simp (disch := omega) only [a1, a2, s1, ↓bc_156, ↓br_156_1, ↓bc_157, ↓bx_157, bl_157, ↓br_156_5, ↓bc_161, ↓bx_161, bl_161, ↓bc_38, ↓br_156_2, ↓bc_158, ↓bx_158, bl_158, ↓br_156_3, ↓bc_159, ↓bx_159, bl_159, ↓br_156_4, ↓bc_160, ↓bx_160, bl_160, ↓b_t0, ↓b_t1, ↓b_t2, ↓b_t3, ↓b_t4, ↓b_t5, ↓b_t6, Nat.zero_add, Nat.le_refl, b_rs, b_rn, b_r2, b_ss, b_sn, b_bt, b_bf, b_b0, b_b1, b_bw, b_shl, b_or, b_iv, b_jv, b_sI, b_sJ, ↓z_hl, z_b0, z_b1, z_b2, b_and1c, b_and1z, if_true, if_false, nI_add, pk_mul, b_cl, b_lt, b_le, b_eq, b_eq0, b_le0, b_0lt, b_0le, b_lt0]
      rw [if_neg (by omega)]
  · obtain ⟨a1, a2, a3⟩ := x2 v1
    rw [if_neg (by omega), if_pos v1]
    have hlt := w_whyBuy_lt (s := s) (q := y.1) (e := y.2.1)
    by_cases c : w_whyBuy s y.1 y.2.1 = 0
    · rw [if_pos c]
      obtain ⟨m2, k1, k2, k3⟩ := s_Af_sell38 (X := X) (tx := tx) (D := d) (m := m) (j := j) (w := w) hF hA hS hI (by omega) v2 v3 c
      refine ⟨m2, ?_, k2, k3⟩
      rw [e_Le_live, q_Le_live_0]
      simp (disch := omega) only [a1, a2, a3, k1, ↓bc_156, ↓br_156_1, ↓bc_157, ↓bx_157, bl_157, ↓br_156_5, ↓bc_161, ↓bx_161, bl_161, ↓bc_38, ↓br_156_2, ↓bc_158, ↓bx_158, bl_158, ↓br_156_3, ↓bc_159, ↓bx_159, bl_159, ↓br_156_4, ↓bc_160, ↓bx_160, bl_160, ↓b_t0, ↓b_t1, ↓b_t2, ↓b_t3, ↓b_t4, ↓b_t5, ↓b_t6, Nat.zero_add, Nat.le_refl, b_rs, b_rn, b_r2, b_ss, b_sn, b_bt, b_bf, b_b0, b_b1, b_bw, b_shl, b_or, b_iv, b_jv, b_sI, b_sJ, ↓z_hl, z_b0, z_b1, z_b2, b_and1c, b_and1z, if_true, if_false, nI_add, pk_mul, b_cl, b_lt, b_le, b_eq, b_eq0, b_le0, b_0lt, b_0le, b_lt0]
      rw [if_neg (by decide)]
    · rw [if_neg c]
      have k1 := s_Af_sellN38 (X := X) (tx := tx) (D := d) (m := m) (j := j) (w := w) hF hA hS hI (by omega) v2 v3 c
      refine ⟨m, ?_, fun _ _ => rfl, hA⟩
      rw [e_Le_live, q_Le_live_0]
      simp (disch := omega) only [a1, a2, a3, k1, ↓bc_156, ↓br_156_1, ↓bc_157, ↓bx_157, bl_157, ↓br_156_5, ↓bc_161, ↓bx_161, bl_161, ↓bc_38, ↓br_156_2, ↓bc_158, ↓bx_158, bl_158, ↓br_156_3, ↓bc_159, ↓bx_159, bl_159, ↓br_156_4, ↓bc_160, ↓bx_160, bl_160, ↓b_t0, ↓b_t1, ↓b_t2, ↓b_t3, ↓b_t4, ↓b_t5, ↓b_t6, Nat.zero_add, Nat.le_refl, b_rs, b_rn, b_r2, b_ss, b_sn, b_bt, b_bf, b_b0, b_b1, b_bw, b_shl, b_or, b_iv, b_jv, b_sI, b_sJ, ↓z_hl, z_b0, z_b1, z_b2, b_and1c, b_and1z, if_true, if_false, nI_add, pk_mul, b_cl, b_lt, b_le, b_eq, b_eq0, b_le0, b_0lt, b_0le, b_lt0]
      rw [if_neg (by decide)]
  · obtain ⟨a1, a2, a3, a4⟩ := x3 (by omega)
    rw [if_neg (by omega), if_neg (by omega)]
    have hlt := w_whyPut_lt (s := s) (q := y.1) (e := y.2.1) (t := y.2.2)
    by_cases c : w_whyPut s y.1 y.2.1 y.2.2 = 0
    · rw [if_pos c]
      obtain ⟨m2, k1, k2, k3⟩ := s_Af_lay38 (X := X) (tx := tx) (D := d) (m := m) (j := j) (w := w) hF hA hS hI (by omega) v2 v3 v1 c
      refine ⟨m2, ?_, k2, k3⟩
      rw [e_Le_live, q_Le_live_0]
      simp (disch := omega) only [a1, a2, a3, a4, k1, ↓bc_156, ↓br_156_1, ↓bc_157, ↓bx_157, bl_157, ↓br_156_5, ↓bc_161, ↓bx_161, bl_161, ↓bc_38, ↓br_156_2, ↓bc_158, ↓bx_158, bl_158, ↓br_156_3, ↓bc_159, ↓bx_159, bl_159, ↓br_156_4, ↓bc_160, ↓bx_160, bl_160, ↓b_t0, ↓b_t1, ↓b_t2, ↓b_t3, ↓b_t4, ↓b_t5, ↓b_t6, Nat.zero_add, Nat.le_refl, b_rs, b_rn, b_r2, b_ss, b_sn, b_bt, b_bf, b_b0, b_b1, b_bw, b_shl, b_or, b_iv, b_jv, b_sI, b_sJ, ↓z_hl, z_b0, z_b1, z_b2, b_and1c, b_and1z, if_true, if_false, nI_add, pk_mul, b_cl, b_lt, b_le, b_eq, b_eq0, b_le0, b_0lt, b_0le, b_lt0]
      rw [if_neg (by decide), if_neg (by decide)]
    · rw [if_neg c]
      have k1 := s_Af_layN38 (X := X) (tx := tx) (D := d) (m := m) (j := j) (w := w) hF hA hS hI (by omega) v2 v3 v1 c
      refine ⟨m, ?_, fun _ _ => rfl, hA⟩
      rw [e_Le_live, q_Le_live_0]
      simp (disch := omega) only [a1, a2, a3, a4, k1, ↓bc_156, ↓br_156_1, ↓bc_157, ↓bx_157, bl_157, ↓br_156_5, ↓bc_161, ↓bx_161, bl_161, ↓bc_38, ↓br_156_2, ↓bc_158, ↓bx_158, bl_158, ↓br_156_3, ↓bc_159, ↓bx_159, bl_159, ↓br_156_4, ↓bc_160, ↓bx_160, bl_160, ↓b_t0, ↓b_t1, ↓b_t2, ↓b_t3, ↓b_t4, ↓b_t5, ↓b_t6, Nat.zero_add, Nat.le_refl, b_rs, b_rn, b_r2, b_ss, b_sn, b_bt, b_bf, b_b0, b_b1, b_bw, b_shl, b_or, b_iv, b_jv, b_sI, b_sJ, ↓z_hl, z_b0, z_b1, z_b2, b_and1c, b_and1z, if_true, if_false, nI_add, pk_mul, b_cl, b_lt, b_le, b_eq, b_eq0, b_le0, b_0lt, b_0le, b_lt0]
      rw [if_neg (by decide), if_neg (by decide), if_neg c]
theorem s_Mo_lives (hS : i_S (m 236)) (hI : i_D (m 236)) (hv : z_lv (m 236) y) {e : Nat} (he : y.2.2 ≠ 4294967294 → e = y.2.1) (hD : 6 ≤ D) : a_ex X tx a_T D 299 [.ref 234, .int (nI y.1), .int (nI e), .int (nI y.2.2)] (b_h m j w) = some (b_h (b_r m 236 (w_lv (m 236) y).2) j w, some (.int (nI (w_lv (m 236) y).1))) := by
  obtain ⟨d, rfl⟩ : ∃ d, D = d + 1 := ⟨D - 1, by omega⟩
  have hT := i_S_T hS
  have hM := i_S_M hS
  have hE := i_S_E hS
  have hda := i_D_da hI
  unfold w_lv
  rcases hv with ⟨v1, v2, v3⟩ | ⟨v1, v2, v3⟩ | ⟨v1, v2, v3⟩
  · rw [if_pos v1, v1]
    by_cases c : m 236 157 + y.1 ≤ 400
    · rw [if_pos c]
      have s1 := s_Mo_goesOn (X := X) (tx := tx) (D := d) (m := m) (j := j) (w := w) hS hI (by omega) (q := y.1) (by omega)
      rw [show min y.1 (400 - m 236 157) = y.1 by omega] at s1
      rw [e_Mo_lives, q_Mo_lives_0]
      simp (disch := omega) only [s1, ↓bc_234, ↓br_234_6, ↓bc_236, ↓bx_236, bl_236, ↓b_t0, ↓b_t1, ↓b_t2, ↓b_t3, ↓b_t4, ↓b_t5, ↓b_t6, Nat.zero_add, Nat.le_refl, b_rs, b_rn, b_r2, b_ss, b_sn, b_bt, b_bf, b_b0, b_b1, b_bw, b_shl, b_or, b_iv, b_jv, b_sI, b_sJ, ↓z_hl, z_b0, z_b1, z_b2, b_and1c, b_and1z, if_true, if_false, nI_add, pk_mul, b_cl, b_lt, b_le, b_eq, b_eq0, b_le0, b_0lt, b_0le, b_lt0]
      rw [if_pos c]
    · rw [if_neg c]
      rw [e_Mo_lives, q_Mo_lives_0]
      simp (disch := omega) only [↓bc_234, ↓br_234_6, ↓bc_236, ↓bx_236, bl_236, ↓b_t0, ↓b_t1, ↓b_t2, ↓b_t3, ↓b_t4, ↓b_t5, ↓b_t6, Nat.zero_add, Nat.le_refl, b_rs, b_rn, b_r2, b_ss, b_sn, b_bt, b_bf, b_b0, b_b1, b_bw, b_shl, b_or, b_iv, b_jv, b_sI, b_sJ, ↓z_hl, z_b0, z_b1, z_b2, b_and1c, b_and1z, if_true, if_false, nI_add, pk_mul, b_cl, b_lt, b_le, b_eq, b_eq0, b_le0, b_0lt, b_0le, b_lt0]
      rw [if_neg c, b_ri rfl]
  · rw [if_neg (by omega), if_pos v1, v1]
    have he2 := he (by omega)
    subst he2
    have s1 := s_Mo_whyBuy (X := X) (tx := tx) (D := d) (m := m) (j := j) (w := w) hS hI (by omega) v2 v3
    have hlt := w_whyBuy_lt (s := m 236) (q := y.1) (e := y.2.1)
    by_cases c : w_whyBuy (m 236) y.1 y.2.1 = 0
    · rw [if_pos c]
      rw [c] at s1
      have s2 := s_Mo_buys (X := X) (tx := tx) (D := d) (m := m) (j := j) (w := w) hS hI (by omega) v2 v3 c
      rw [e_Mo_lives, q_Mo_lives_0]
      simp (disch := omega) only [s1, b_0leM, ↓bc_234, ↓br_234_6, ↓bc_236, ↓bx_236, bl_236, ↓b_t0, ↓b_t1, ↓b_t2, ↓b_t3, ↓b_t4, ↓b_t5, ↓b_t6, Nat.zero_add, Nat.le_refl, b_rs, b_rn, b_r2, b_ss, b_sn, b_bt, b_bf, b_b0, b_b1, b_bw, b_shl, b_or, b_iv, b_jv, b_sI, b_sJ, ↓z_hl, z_b0, z_b1, z_b2, b_and1c, b_and1z, if_true, if_false, nI_add, pk_mul, b_cl, b_lt, b_le, b_eq, b_eq0, b_le0, b_0lt, b_0le, b_lt0]
      rw [if_neg (by decide), q_Mo_lives_31]
      simp (disch := omega) only [s2, b_0leM, ↓bc_234, ↓br_234_6, ↓bc_236, ↓bx_236, bl_236, ↓b_t0, ↓b_t1, ↓b_t2, ↓b_t3, ↓b_t4, ↓b_t5, ↓b_t6, Nat.zero_add, Nat.le_refl, b_rs, b_rn, b_r2, b_ss, b_sn, b_bt, b_bf, b_b0, b_b1, b_bw, b_shl, b_or, b_iv, b_jv, b_sI, b_sJ, ↓z_hl, z_b0, z_b1, z_b2, b_and1c, b_and1z, if_true, if_false, nI_add, pk_mul, b_cl, b_lt, b_le, b_eq, b_eq0, b_le0, b_0lt, b_0le, b_lt0]
    · rw [if_neg c]
      rw [e_Mo_lives, q_Mo_lives_0]
      simp (disch := omega) only [s1, b_0leM, ↓bc_234, ↓br_234_6, ↓bc_236, ↓bx_236, bl_236, ↓b_t0, ↓b_t1, ↓b_t2, ↓b_t3, ↓b_t4, ↓b_t5, ↓b_t6, Nat.zero_add, Nat.le_refl, b_rs, b_rn, b_r2, b_ss, b_sn, b_bt, b_bf, b_b0, b_b1, b_bw, b_shl, b_or, b_iv, b_jv, b_sI, b_sJ, ↓z_hl, z_b0, z_b1, z_b2, b_and1c, b_and1z, if_true, if_false, nI_add, pk_mul, b_cl, b_lt, b_le, b_eq, b_eq0, b_le0, b_0lt, b_0le, b_lt0]
      rw [if_neg (by decide), q_Mo_lives_31]
      simp (disch := omega) only [b_0leM, ↓bc_234, ↓br_234_6, ↓bc_236, ↓bx_236, bl_236, ↓b_t0, ↓b_t1, ↓b_t2, ↓b_t3, ↓b_t4, ↓b_t5, ↓b_t6, Nat.zero_add, Nat.le_refl, b_rs, b_rn, b_r2, b_ss, b_sn, b_bt, b_bf, b_b0, b_b1, b_bw, b_shl, b_or, b_iv, b_jv, b_sI, b_sJ, ↓z_hl, z_b0, z_b1, z_b2, b_and1c, b_and1z, if_true, if_false, nI_add, pk_mul, b_cl, b_lt, b_le, b_eq, b_eq0, b_le0, b_0lt, b_0le, b_lt0]
      rw [if_neg c, b_ri rfl]
  · rw [if_neg (by omega), if_neg (by omega)]
    have he2 := he (by omega)
    subst he2
    have s1 := s_Mo_whyPut (X := X) (tx := tx) (D := d) (m := m) (j := j) (w := w) hS hI (by omega) v2 v3 v1
    have hlt := w_whyPut_lt (s := m 236) (q := y.1) (e := y.2.1) (t := y.2.2)
    by_cases c : w_whyPut (m 236) y.1 y.2.1 y.2.2 = 0
    · rw [if_pos c]
      rw [c] at s1
      have s2 := s_Mo_putsTo (X := X) (tx := tx) (D := d) (m := m) (j := j) (w := w) hS hI (by omega) v2 v3 v1
      rw [e_Mo_lives, q_Mo_lives_0]
      simp (disch := omega) only [s1, ↓bc_234, ↓br_234_6, ↓bc_236, ↓bx_236, bl_236, ↓b_t0, ↓b_t1, ↓b_t2, ↓b_t3, ↓b_t4, ↓b_t5, ↓b_t6, Nat.zero_add, Nat.le_refl, b_rs, b_rn, b_r2, b_ss, b_sn, b_bt, b_bf, b_b0, b_b1, b_bw, b_shl, b_or, b_iv, b_jv, b_sI, b_sJ, ↓z_hl, z_b0, z_b1, z_b2, b_and1c, b_and1z, if_true, if_false, nI_add, pk_mul, b_cl, b_lt, b_le, b_eq, b_eq0, b_le0, b_0lt, b_0le, b_lt0]
      rw [if_neg (by omega), q_Mo_lives_31]
      simp (disch := omega) only [s2, ↓bc_234, ↓br_234_6, ↓bc_236, ↓bx_236, bl_236, ↓b_t0, ↓b_t1, ↓b_t2, ↓b_t3, ↓b_t4, ↓b_t5, ↓b_t6, Nat.zero_add, Nat.le_refl, b_rs, b_rn, b_r2, b_ss, b_sn, b_bt, b_bf, b_b0, b_b1, b_bw, b_shl, b_or, b_iv, b_jv, b_sI, b_sJ, ↓z_hl, z_b0, z_b1, z_b2, b_and1c, b_and1z, if_true, if_false, nI_add, pk_mul, b_cl, b_lt, b_le, b_eq, b_eq0, b_le0, b_0lt, b_0le, b_lt0]
    · rw [if_neg c]
      rw [e_Mo_lives, q_Mo_lives_0]
      simp (disch := omega) only [s1, ↓bc_234, ↓br_234_6, ↓bc_236, ↓bx_236, bl_236, ↓b_t0, ↓b_t1, ↓b_t2, ↓b_t3, ↓b_t4, ↓b_t5, ↓b_t6, Nat.zero_add, Nat.le_refl, b_rs, b_rn, b_r2, b_ss, b_sn, b_bt, b_bf, b_b0, b_b1, b_bw, b_shl, b_or, b_iv, b_jv, b_sI, b_sJ, ↓z_hl, z_b0, z_b1, z_b2, b_and1c, b_and1z, if_true, if_false, nI_add, pk_mul, b_cl, b_lt, b_le, b_eq, b_eq0, b_le0, b_0lt, b_0le, b_lt0]
      rw [if_neg (by omega), q_Mo_lives_31]
      simp (disch := omega) only [↓bc_234, ↓br_234_6, ↓bc_236, ↓bx_236, bl_236, ↓b_t0, ↓b_t1, ↓b_t2, ↓b_t3, ↓b_t4, ↓b_t5, ↓b_t6, Nat.zero_add, Nat.le_refl, b_rs, b_rn, b_r2, b_ss, b_sn, b_bt, b_bf, b_b0, b_b1, b_bw, b_shl, b_or, b_iv, b_jv, b_sI, b_sJ, ↓z_hl, z_b0, z_b1, z_b2, b_and1c, b_and1z, if_true, if_false, nI_add, pk_mul, b_cl, b_lt, b_le, b_eq, b_eq0, b_le0, b_0lt, b_0le, b_lt0]
      rw [if_neg c, b_ri rfl]
end LI
