/-! A new market's affairs -/
section BG
variable {X : Nat × (Nat → Int32)} {tx : List Int32} {D d : Nat} {m j : Nat → Nat → Nat} {w : (Nat × Nat) × Bool}
def x_b3 (m m2 : Nat → Nat → Nat) (n : Nat) : Prop := (∀ c, c ≠ 33 → c ≠ 34 → c ≠ 35 → c ≠ 36 → m2 c = m c) ∧ ∀ i, i < n → m2 33 i = 4294967295 ∧ m2 34 i = 4294967295 ∧ m2 35 i = 0 ∧ m2 36 i = 0
def x_b2 (m m2 : Nat → Nat → Nat) (n : Nat) : Prop := (∀ c, c ≠ 28 → c ≠ 29 → m2 c = m c) ∧ ∀ i, i < n → m2 28 i = 0 ∧ m2 29 i = 0
def w_bga (m : Nat → Nat → Nat) : Nat → Nat → Nat := b_r (b_r (b_r (b_r (b_r m 26 (b_s (m 26) 1 0)) 27 (b_rg (m 27) 0 6 fun q => m 8 (0 + q))) 30 (b_rg (m 30) 0 48 fun q => m 10 (0 + q))) 31 (b_rg (m 31) 0 10 fun q => m 11 (0 + q))) 32 (b_rg (m 32) 0 10 fun q => m 12 (0 + q))
theorem s_Af_beg3 : ∀ F, 10 < F → ∃ m2, a_go X tx (a_ex X tx a_T d) k_Af_begin_0 F 58 [.ref 26, .int (nI 0)] (b_h m j w) = some (b_h m2 j w, none) ∧ x_b3 m m2 10 := by
  intro F hF
  refine z_run (Q := fun r => ∃ m2, r = some (b_h m2 j w, none) ∧ x_b3 m m2 10) (fun c L y => ∃ m' k, c + k = 10 ∧ L = [.ref 26, .int (nI k)] ∧ y = b_h m' j w ∧ x_b3 m m' k) 0 ?_ 10 _ _ ⟨m, 0, rfl, rfl, rfl, fun _ _ _ _ _ => rfl, fun i hi => absurd hi (by omega)⟩ F (by omega)
  rintro c L y ⟨m', k, hc, rfl, rfl, h1, h2⟩ f _
  rw [l_Af_begin_58, q_Af_begin_58]
  by_cases c1 : k = 10
  · left
    subst c1
    refine ⟨m', ?_, h1, h2⟩
    rw [if_pos (by decide +kernel)]
  · right
    refine ⟨c - 1, [.ref 26, .int (nI (k + 1))], b_h (b_r (b_r (b_r (b_r m' 33 (b_s (m' 33) k 4294967295)) 34 (b_s (m' 34) k 4294967295)) 35 (b_s (m' 35) k 0)) 36 (b_s (m' 36) k 0)) j w, by omega, ⟨_, k + 1, by omega, rfl, rfl, fun x x1 x2 x3 x4 => by rw [b_rn x4, b_rn x3, b_rn x2, b_rn x1]; exact h1 x x1 x2 x3 x4, fun i hi => ?_⟩, ?_⟩
    · rw [b_rn (by decide), b_rn (by decide), b_rn (by decide), b_rs, b_rn (by decide), b_rn (by decide), b_rs, b_rn (by decide), b_rs, b_rs]
      by_cases e : i = k
      · rw [e, b_ss, b_ss, b_ss, b_ss]
        exact ⟨rfl, rfl, rfl, rfl⟩
      · rw [b_sn e, b_sn e, b_sn e, b_sn e]
        exact h2 i (by omega)
    · simp (disch := omega) only [↓bc_26, ↓br_26_0, ↓bc_4, ↓br_4_10, ↓bc_8, ↓bx_8, bl_8, ↓br_26_2, ↓bc_27, ↓bx_27, bl_27, ↓br_4_12, ↓bc_10, ↓bx_10, bl_10, ↓br_26_5, ↓bc_30, ↓bx_30, bl_30, ↓br_4_13, ↓bc_11, ↓bx_11, bl_11, ↓br_26_6, ↓bc_31, ↓bx_31, bl_31, ↓br_4_14, ↓bc_12, ↓bx_12, bl_12, ↓br_26_7, ↓bc_32, ↓bx_32, bl_32, ↓br_26_3, ↓bc_28, ↓bx_28, bl_28, ↓br_26_4, ↓bc_29, ↓bx_29, bl_29, ↓br_26_8, ↓bc_33, ↓bx_33, bl_33, ↓br_26_9, ↓bc_34, ↓bx_34, bl_34, ↓br_26_10, ↓bc_35, ↓bx_35, bl_35, ↓br_26_11, ↓bc_36, ↓bx_36, bl_36, ↓b_t0, ↓b_t1, ↓b_t2, ↓b_t3, ↓b_t4, ↓b_t5, ↓b_t6, Nat.zero_add, Nat.le_refl, b_rs, b_rn, b_r2, b_ss, b_sn, b_bt, b_bf, b_b0, b_b1, b_bw, b_shl, b_or, b_iv, b_jv, b_sI, b_sJ, ↓z_hl, z_b0, z_b1, z_b2, b_and1c, b_and1z, if_true, if_false, nI_add, pk_mul, b_cl, b_lt, b_le, b_eq, b_eq0, b_le0, b_0lt, b_0le, b_lt0]
      rw [if_neg (by omega)]
theorem s_Af_beg2 : ∀ F, 30 < F → ∃ m1 m2, a_go X tx (a_ex X tx a_T d) k_Af_begin_0 F 41 [.ref 26, .int (nI 0)] (b_h m j w) = some (b_h m2 j w, none) ∧ x_b2 m m1 6 ∧ x_b3 m1 m2 10 := by
  intro F hF
  refine z_run (Q := fun r => ∃ m1 m2, r = some (b_h m2 j w, none) ∧ x_b2 m m1 6 ∧ x_b3 m1 m2 10) (fun c L y => ∃ m' k, c + k = 6 ∧ L = [.ref 26, .int (nI k)] ∧ y = b_h m' j w ∧ x_b2 m m' k) 15 ?_ 6 _ _ ⟨m, 0, rfl, rfl, rfl, fun _ _ _ => rfl, fun i hi => absurd hi (by omega)⟩ F (by omega)
  rintro c L y ⟨m', k, hc, rfl, rfl, h1, h2⟩ f hf
  rw [l_Af_begin_41, q_Af_begin_41]
  by_cases c1 : k = 6
  · left
    subst c1
    obtain ⟨m2, g1, g2⟩ := s_Af_beg3 (X := X) (tx := tx) (d := d) (m := m') (j := j) (w := w) (f + 1) (by omega)
    rw [if_pos (by decide +kernel), ← l_Af_begin_58]
    exact ⟨m', m2, g1, ⟨h1, h2⟩, g2⟩
  · right
    refine ⟨c - 1, [.ref 26, .int (nI (k + 1))], b_h (b_r (b_r m' 28 (b_s (m' 28) k 0)) 29 (b_s (m' 29) k 0)) j w, by omega, ⟨_, k + 1, by omega, rfl, rfl, fun x x1 x2 => by rw [b_rn x2, b_rn x1]; exact h1 x x1 x2, fun i hi => ?_⟩, ?_⟩
    · rw [b_rn (by decide), b_rs, b_rs]
      by_cases e : i = k
      · rw [e, b_ss, b_ss]
        exact ⟨rfl, rfl⟩
      · rw [b_sn e, b_sn e]
        exact h2 i (by omega)
    · simp (disch := omega) only [↓bc_26, ↓br_26_0, ↓bc_4, ↓br_4_10, ↓bc_8, ↓bx_8, bl_8, ↓br_26_2, ↓bc_27, ↓bx_27, bl_27, ↓br_4_12, ↓bc_10, ↓bx_10, bl_10, ↓br_26_5, ↓bc_30, ↓bx_30, bl_30, ↓br_4_13, ↓bc_11, ↓bx_11, bl_11, ↓br_26_6, ↓bc_31, ↓bx_31, bl_31, ↓br_4_14, ↓bc_12, ↓bx_12, bl_12, ↓br_26_7, ↓bc_32, ↓bx_32, bl_32, ↓br_26_3, ↓bc_28, ↓bx_28, bl_28, ↓br_26_4, ↓bc_29, ↓bx_29, bl_29, ↓br_26_8, ↓bc_33, ↓bx_33, bl_33, ↓br_26_9, ↓bc_34, ↓bx_34, bl_34, ↓br_26_10, ↓bc_35, ↓bx_35, bl_35, ↓br_26_11, ↓bc_36, ↓bx_36, bl_36, ↓b_t0, ↓b_t1, ↓b_t2, ↓b_t3, ↓b_t4, ↓b_t5, ↓b_t6, Nat.zero_add, Nat.le_refl, b_rs, b_rn, b_r2, b_ss, b_sn, b_bt, b_bf, b_b0, b_b1, b_bw, b_shl, b_or, b_iv, b_jv, b_sI, b_sJ, ↓z_hl, z_b0, z_b1, z_b2, b_and1c, b_and1z, if_true, if_false, nI_add, pk_mul, b_cl, b_lt, b_le, b_eq, b_eq0, b_le0, b_0lt, b_0le, b_lt0]
      rw [if_neg (by omega)]
theorem s_Af_begin (hD : 1 ≤ D) : ∃ m1 m2, a_ex X tx a_T D 46 [.ref 26] (b_h m j w) = some (b_h m2 j w, none) ∧ x_b2 (w_bga m) m1 6 ∧ x_b3 m1 m2 10 := by
  obtain ⟨d, rfl⟩ : ∃ d, D = d + 1 := ⟨D - 1, by omega⟩
  obtain ⟨m1, m2, e1, e2⟩ := s_Af_beg2 (X := X) (tx := tx) (d := d) (m := w_bga m) (j := j) (w := w) (a_f1 + 1) (z_fu (by omega))
  refine ⟨m1, m2, ?_, e2⟩
  rw [l_Af_begin_41] at e1
  unfold w_bga at e1
  have cp1 : ∀ {m : Nat → Nat → Nat} {f : A_H → A_R}, a_cp (b_h m j w) 8 (nI 0) 27 (nI 0) (nI 6) f = f (b_h (b_r m 27 (b_rg (m 27) 0 6 fun q => m 8 (0 + q))) j w) := b_cp (by rw [bl_8]; decide) (by rw [bl_27]; decide) (by decide) (by decide)
  have cp2 : ∀ {m : Nat → Nat → Nat} {f : A_H → A_R}, a_cp (b_h m j w) 10 (nI 0) 30 (nI 0) (nI 48) f = f (b_h (b_r m 30 (b_rg (m 30) 0 48 fun q => m 10 (0 + q))) j w) := b_cp (by rw [bl_10]; decide) (by rw [bl_30]; decide) (by decide) (by decide)
  have cp3 : ∀ {m : Nat → Nat → Nat} {f : A_H → A_R}, a_cp (b_h m j w) 11 (nI 0) 31 (nI 0) (nI 10) f = f (b_h (b_r m 31 (b_rg (m 31) 0 10 fun q => m 11 (0 + q))) j w) := b_cp (by rw [bl_11]; decide) (by rw [bl_31]; decide) (by decide) (by decide)
  have cp4 : ∀ {m : Nat → Nat → Nat} {f : A_H → A_R}, a_cp (b_h m j w) 12 (nI 0) 32 (nI 0) (nI 10) f = f (b_h (b_r m 32 (b_rg (m 32) 0 10 fun q => m 12 (0 + q))) j w) := b_cp (by rw [bl_12]; decide) (by rw [bl_32]; decide) (by decide) (by decide)
  rw [e_Af_begin, q_Af_begin_0]
  simp (disch := omega) only [↓bc_4, ↓br_4_10, ↓br_4_12, ↓br_4_13, ↓br_4_14, ↓bc_8, ↓bc_10, ↓bc_11, ↓bc_12, cp1, cp2, cp3, cp4, ↓bc_26, ↓br_26_0, ↓bc_4, ↓br_4_10, ↓bc_8, ↓bx_8, bl_8, ↓br_26_2, ↓bc_27, ↓bx_27, bl_27, ↓br_4_12, ↓bc_10, ↓bx_10, bl_10, ↓br_26_5, ↓bc_30, ↓bx_30, bl_30, ↓br_4_13, ↓bc_11, ↓bx_11, bl_11, ↓br_26_6, ↓bc_31, ↓bx_31, bl_31, ↓br_4_14, ↓bc_12, ↓bx_12, bl_12, ↓br_26_7, ↓bc_32, ↓bx_32, bl_32, ↓br_26_3, ↓bc_28, ↓bx_28, bl_28, ↓br_26_4, ↓bc_29, ↓bx_29, bl_29, ↓br_26_8, ↓bc_33, ↓bx_33, bl_33, ↓br_26_9, ↓bc_34, ↓bx_34, bl_34, ↓br_26_10, ↓bc_35, ↓bx_35, bl_35, ↓br_26_11, ↓bc_36, ↓bx_36, bl_36, ↓b_t0, ↓b_t1, ↓b_t2, ↓b_t3, ↓b_t4, ↓b_t5, ↓b_t6, Nat.zero_add, Nat.le_refl, b_rs, b_rn, b_r2, b_ss, b_sn, b_bt, b_bf, b_b0, b_b1, b_bw, b_shl, b_or, b_iv, b_jv, b_sI, b_sJ, ↓z_hl, z_b0, z_b1, z_b2, b_and1c, b_and1z, if_true, if_false, nI_add, pk_mul, b_cl, b_lt, b_le, b_eq, b_eq0, b_le0, b_0lt, b_0le, b_lt0]
  simp (disch := omega) only [b_rs, b_rn, b_r2, b_ss, b_sn, Nat.zero_add] at e1
  exact e1
/-- a new market's affairs are its facts' -/
theorem c_A_beg {m m1 m2 : Nat → Nat → Nat} {S : Nat → Nat} (h2 : x_b2 (w_bga m) m1 6) (h3 : x_b3 m1 m2 10) (hF : c_F m 4 S) (hQ : i_S S) : m2 26 1 = 0 ∧ (∀ i, i < S 1 → m2 27 i = S (5 + i)) ∧ (∀ i, i < 6 → m2 28 i = 0 ∧ m2 29 i = 0) ∧ (∀ t, t < 8 → ∀ k, k < 6 → m2 30 (t * 6 + k) = S (19 + 6 * t + k)) ∧ (∀ e, e < S 3 → m2 31 e = S (67 + e) ∧ m2 32 e = S (77 + e)) ∧ (∀ e, e < 10 → m2 33 e = 4294967295 ∧ m2 34 e = 4294967295 ∧ m2 35 e = 0 ∧ m2 36 e = 0) ∧ (∀ c, c < 26 ∨ 36 < c → m2 c = m c) := by
  have hM := i_S_M hQ
  have hE := i_S_E hQ
  have r : ∀ c, c ≠ 33 → c ≠ 34 → c ≠ 35 → c ≠ 36 → c ≠ 28 → c ≠ 29 → m2 c = w_bga m c := fun c c1 c2 c3 c4 c5 c6 => (h3.1 c c1 c2 c3 c4).trans (h2.1 c c5 c6)
  refine ⟨?_, fun i hi => ?_, fun i hi => ?_, fun t ht k hk => ?_, fun e he => ⟨?_, ?_⟩, h3.2, fun c hc => ?_⟩
  · rw [r 26 (by decide) (by decide) (by decide) (by decide) (by decide) (by decide)]
    unfold w_bga
    rw [b_rn (by decide), b_rn (by decide), b_rn (by decide), b_rn (by decide), b_rs, b_ss]
  · rw [r 27 (by decide) (by decide) (by decide) (by decide) (by decide) (by decide)]
    unfold w_bga
    rw [b_rn (by decide), b_rn (by decide), b_rn (by decide), b_rs, b_rgi (by omega) (by omega)]
    show m 8 (0 + i) = _
    rw [Nat.zero_add]
    exact c_F4_ct hF i hi
  · rw [h3.1 28 (by decide) (by decide) (by decide) (by decide), h3.1 29 (by decide) (by decide) (by decide) (by decide)]
    exact h2.2 i hi
  · rw [r 30 (by decide) (by decide) (by decide) (by decide) (by decide) (by decide)]
    unfold w_bga
    rw [b_rn (by decide), b_rn (by decide), b_rs, b_rgi (by omega) (by omega)]
    show m 10 (0 + (t * 6 + k)) = _
    rw [Nat.zero_add]
    exact c_F4_ot hF t ht k hk
  · rw [r 31 (by decide) (by decide) (by decide) (by decide) (by decide) (by decide)]
    unfold w_bga
    rw [b_rn (by decide), b_rs, b_rgi (by omega) (by omega)]
    show m 11 (0 + e) = _
    rw [Nat.zero_add]
    exact c_F4_ht hF e he
  · rw [r 32 (by decide) (by decide) (by decide) (by decide) (by decide) (by decide)]
    unfold w_bga
    rw [b_rs, b_rgi (by omega) (by omega)]
    show m 12 (0 + e) = _
    rw [Nat.zero_add]
    exact c_F4_pt hF e he
  · rw [r c (by omega) (by omega) (by omega) (by omega) (by omega) (by omega)]
    unfold w_bga
    rw [b_rn (by omega), b_rn (by omega), b_rn (by omega), b_rn (by omega), b_rn (by omega)]
end BG
