/-! WHAT MAY BE SAID -/
def w_cmp (sg v n : Nat) : Bool := if sg = 60 then decide (v < n) else if sg = 61 then decide (v = n) else decide (n < v)
def w_leaf (s : Nat → Nat) (t p nm nb : Nat) : Bool := if p = 12 then decide (w_open s t = 0) else if p = 13 then decide (s (11 + t) = nm) else if p = 14 then decide (s (177 + 6 * t + nm) ≠ 0) else if p = 15 then w_fit s nm t else w_cmp nm (if p = 16 then w_open s t else if p = 17 then s (225 + t) else t) nb
def w_W (s : Nat → Nat) (t : Nat) (p nm nb : Nat → Nat) : Nat → Nat
  | 0 => 0
  | n + 1 => if p n = 9 then (w_W s t p nm nb n / 2) ||| (w_W s t p nm nb n &&& 1) else if p n = 10 then (w_W s t p nm nb n / 2) &&& ((w_W s t p nm nb n &&& 1) ||| 4294967294) else if p n = 11 then w_W s t p nm nb n ^^^ 1 else (w_W s t p nm nb n * 2) ||| b_b (w_leaf s t (p n) (nm n) (nb n))
theorem z_tb1 (i : Nat) : (1 : Nat).testBit i = decide (i = 0) := by
  have := Nat.testBit_two_pow (n := 0) (m := i)
  rw [Nat.pow_zero] at this
  rw [this, Bool.eq_iff_iff, decide_eq_true_eq, decide_eq_true_eq]
  exact ⟨fun h => h.symm, fun h => h.symm⟩
theorem z_tbb (c : Bool) (i : Nat) : (b_b c).testBit i = (decide (i = 0) && c) := by
  cases c with
  | true => rw [b_bt, z_tb1]; simp
  | false => rw [b_bf]; simp
theorem z_tb2 (W i : Nat) : (W * 2).testBit (i + 1) = W.testBit i := by
  rw [Nat.testBit_succ]
  congr 1
  omega
theorem z_tb20 (W : Nat) : (W * 2).testBit 0 = false := by
  rw [Nat.testBit_zero]
  exact decide_eq_false (by omega)
theorem z_tbm : ∀ i, i < 31 → (4294967294 : Nat).testBit i = decide (i ≠ 0) := by decide +kernel
section SD
variable {s : Nat → Nat} {t : Nat} {p nm nb : Nat → Nat}
theorem w_W_lt {n : Nat} (h : r_wf p n) : ∀ i, i ≤ n → w_W s t p nm nb i < 2 ^ w_dep p i
  | 0, _ => by show 0 < 2 ^ 0; decide
  | i + 1, hi => by
    have ih := w_W_lt h i (by omega)
    obtain ⟨h1, h2, h3⟩ := h
    obtain ⟨g1, g2⟩ := h1 i (by omega)
    have hw : w_dep p (i + 1) = if p i = 11 then w_dep p i else if p i = 9 ∨ p i = 10 then w_dep p i - 1 else w_dep p i + 1 := rfl
    have hW : w_W s t p nm nb (i + 1) = if p i = 9 then (w_W s t p nm nb i / 2) ||| (w_W s t p nm nb i &&& 1) else if p i = 10 then (w_W s t p nm nb i / 2) &&& ((w_W s t p nm nb i &&& 1) ||| 4294967294) else if p i = 11 then w_W s t p nm nb i ^^^ 1 else (w_W s t p nm nb i * 2) ||| b_b (w_leaf s t (p i) (nm i) (nb i)) := rfl
    rw [hw, hW]
    generalize w_W s t p nm nb i = W at ih
    generalize hd : w_dep p i = e at ih g1 g2
    have hhalf : 2 ≤ e → W / 2 < 2 ^ (e - 1) := fun he => by
      obtain ⟨q, rfl⟩ : ∃ q, e = q + 1 := ⟨e - 1, by omega⟩
      rw [Nat.pow_succ] at ih
      rw [Nat.add_sub_cancel]
      omega
    have h1lt : ∀ q, 1 ≤ q → 1 < 2 ^ q := fun q hq => Nat.one_lt_two_pow (by omega)
    by_cases c1 : p i = 9
    · have he := g2 (Or.inl c1)
      rw [if_pos c1, if_neg (by omega), if_pos (Or.inl c1)]
      refine Nat.or_lt_two_pow (hhalf he) ?_
      have := h1lt (e - 1) (by omega)
      have h4 : W &&& 1 ≤ 1 := Nat.and_le_right
      omega
    · by_cases c2 : p i = 10
      · have he := g2 (Or.inr c2)
        rw [if_neg c1, if_pos c2, if_neg (by omega), if_pos (Or.inr c2)]
        exact Nat.lt_of_le_of_lt Nat.and_le_left (hhalf he)
      · by_cases c3 : p i = 11
        · rw [if_neg c1, if_neg c2, if_pos c3, if_pos c3]
          exact Nat.xor_lt_two_pow ih (h1lt e (g1 c3))
        · rw [if_neg c1, if_neg c2, if_neg c3, if_neg c3, if_neg (by omega)]
          refine Nat.or_lt_two_pow ?_ ?_
          · rw [Nat.pow_succ]; omega
          · have := b_b_lt (w_leaf s t (p i) (nm i) (nb i))
            have h5 : 2 ^ 1 ≤ 2 ^ (e + 1) := Nat.pow_le_pow_right (by decide) (by omega)
            omega
theorem w_W_big {n : Nat} (h : r_wf p n) {i : Nat} (hi : i ≤ n) : w_W s t p nm nb i < 1048576 :=
  Nat.lt_of_lt_of_le (w_W_lt h i hi) (Nat.le_trans (Nat.pow_le_pow_right (by decide) (h.2.1 i hi)) (by decide))
/-- the truths of the reference, place by place -/
def w_tr (s : Nat → Nat) (t : Nat) (p nm nb : Nat → Nat) (i q : Nat) : Bool := (w_W s t p nm nb i).testBit (w_dep p i - 1 - q)
end SD
section SD2
variable {X : Nat × (Nat → Int32)} {tx : List Int32} {D : Nat} {m j : Nat → Nat → Nat} {w : (Nat × Nat) × Bool} {s : Nat → Nat} {r : A_R}
theorem b_u9 {lo p : Nat} {rs : List A_R} {d : A_R} (hl : lo ≤ p) (hp : p < 2147483648) : a_ts (lo : Int) (nI p) rs d = match rs[p - lo]? with
    | some r => r
    | none => d := by
  unfold a_ts
  rw [nI_toInt hp, if_neg (by omega), show ((p : Int) - lo).toNat = p - lo by omega]
  cases rs[p - lo]? <;> rfl
theorem s_Se_compares (hn : m 150 = m 150) (hD : 1 ≤ D) {v i : Nat} (hi : i < 40) (hv : v < 2147483648) (h1 : m 150 i < 4294967296) (h2 : m 151 i < 2147483648) : a_ex X tx a_T D 94 [.ref 148, .int (nI v), .int (nI i)] (b_h m j w) = some ((b_h m j w), some (.int (nI (b_b (w_cmp (m 150 i) v (m 151 i)))))) := by
  obtain ⟨d, rfl⟩ : ∃ d, D = d + 1 := ⟨D - 1, by omega⟩
  rw [e_Se_compares, q_Se_compares_0]
  simp (disch := omega) only [↓bc_148, ↓br_148_3, ↓bc_150, ↓bx_150, bl_150, ↓br_148_4, ↓bc_151, ↓bx_151, bl_151, ↓b_t0, ↓b_t1, ↓b_t2, ↓b_t3, ↓b_t4, ↓b_t5, ↓b_t6, Nat.zero_add, Nat.le_refl, b_rs, b_rn, b_r2, b_ss, b_sn, b_bt, b_bf, b_b0, b_b1, b_bw, b_shl, b_or, b_iv, b_jv, b_sI, b_sJ, ↓z_hl, z_b0, z_b1, z_b2, b_and1c, b_and1z, if_true, if_false, nI_add, pk_mul, b_cl, b_lt, b_le, b_eq, b_eq0, b_le0, b_0lt, b_0le, b_lt0]
  unfold w_cmp
  by_cases c1 : m 150 i = 60
  · rw [if_pos c1, if_pos c1]
    by_cases c : m 151 i ≤ v
    · rw [if_pos c, decide_eq_false (by omega)]; rfl
    · rw [if_neg c, decide_eq_true (by omega)]; rfl
  · rw [if_neg c1, if_neg c1]
    by_cases c2 : m 150 i = 61
    · rw [if_pos c2, if_pos c2]
      by_cases c : v = m 151 i
      · rw [if_pos c, decide_eq_true c]; rfl
      · rw [if_neg c, decide_eq_false c]; rfl
    · rw [if_neg c2, if_neg c2]
      by_cases c : v ≤ m 151 i
      · rw [if_pos c, decide_eq_false (by omega)]; rfl
      · rw [if_neg c, decide_eq_true (by omega)]; rfl
theorem i_pages (hS : i_S s) (hI : i_D s) {t : Nat} (ht : t < s 2) : s (225 + t) ≤ 10 := by
  have hE := i_S_E hS
  rw [i_D_pg hI t ht]
  have := z_sum_le (g := fun e => if s (261 + e) = t + 1 then 1 else 0) (b := 1) (s 3) (fun e _ => by split <;> omega)
  omega
theorem s_Se_holdsOne (hF : c_F m 4 s) (hA : c_A m 26 s) (hS : i_S s) (hI : i_D s) (hD : 5 ≤ D) {t i c0 c1 c2 : Nat} (ht : t < s 2) (hi : i < 40) (hc : r_c1 s (m 149 i) (m 150 i) (m 151 i) c0 c1 c2) (hl : 12 ≤ m 149 i) : a_ex X tx a_T D 93 [.ref 148, .ref 26, .int (nI t), .int (nI i)] (b_h m j w) = some ((b_h m j w), some (.int (nI (b_b (w_leaf s t (m 149 i) (m 150 i) (m 151 i)))))) := by
  obtain ⟨d, rfl⟩ : ∃ d, D = d + 1 := ⟨D - 1, by omega⟩
  rw [e_Se_holdsOne, q_Se_holdsOne_0]
  have hT := i_S_T hS
  have hE := i_S_E hS
  have hM := i_S_M hS
  have hK := i_S_K hS
  have ho := w_open_le hI (t := t) (by omega)
  have hp := i_pages hS hI ht
  unfold r_c1 at hc
  unfold w_leaf
  obtain h | h | h | h | h | h | h | h | h | h : m 149 i = 9 ∨ m 149 i = 10 ∨ m 149 i = 11 ∨ m 149 i = 12 ∨ m 149 i = 13 ∨ m 149 i = 14 ∨ m 149 i = 15 ∨ m 149 i = 16 ∨ m 149 i = 17 ∨ m 149 i = 18 := by omega
  · omega
  · omega
  · omega
  · have u : ∀ rs d, a_ts 12 (nI 12) rs d = match rs[0]? with
      | some r => r
      | none => d := fun rs d => b_u9 (lo := 12) (by decide) (by decide)
    simp (disch := omega) only [h, u, s_Af_allOpen26 hF hA hS hI, ↓bc_148, ↓br_148_2, ↓bc_149, ↓bx_149, bl_149, ↓bc_26, ↓br_26_0, ↓bc_4, ↓br_148_3, ↓bc_150, ↓bx_150, bl_150, ↓b_t0, ↓b_t1, ↓b_t2, ↓b_t3, ↓b_t4, ↓b_t5, ↓b_t6, Nat.zero_add, Nat.le_refl, b_rs, b_rn, b_r2, b_ss, b_sn, b_bt, b_bf, b_b0, b_b1, b_bw, b_shl, b_or, b_iv, b_jv, b_sI, b_sJ, ↓z_hl, z_b0, z_b1, z_b2, b_and1c, b_and1z, if_true, if_false, nI_add, pk_mul, b_cl, b_lt, b_le, b_eq, b_eq0, b_le0, b_0lt, b_0le, b_lt0]
    show (if w_open s t = 0 then _ else _) = _
    by_cases c : w_open s t = 0
    · rw [if_pos c, decide_eq_true c]; rfl
    · rw [if_neg c, decide_eq_false c]; rfl
  · have hm : m 150 i < s 1 := by omega
    have u : ∀ rs d, a_ts 12 (nI 13) rs d = match rs[1]? with
      | some r => r
      | none => d := fun rs d => b_u9 (lo := 12) (by decide) (by decide)
    have e1 : (w_thingsOf s (m 150 i)).testBit t = decide (s (11 + t) = m 150 i) := by unfold w_thingsOf; rw [z_set_bt]; simp [ht]
    have e2 : w_thingsOf s (m 150 i) < 2147483648 := Nat.lt_of_lt_of_le (z_set_lt _ _) (Nat.le_trans (Nat.pow_le_pow_right (by decide) hT) (by decide))
    simp (disch := omega) only [h, u, s_Fa_thingsOf hF hS, s_EM_isIn, e1, ↓bc_148, ↓br_148_2, ↓bc_149, ↓bx_149, bl_149, ↓bc_26, ↓br_26_0, ↓bc_4, ↓br_148_3, ↓bc_150, ↓bx_150, bl_150, ↓b_t0, ↓b_t1, ↓b_t2, ↓b_t3, ↓b_t4, ↓b_t5, ↓b_t6, Nat.zero_add, Nat.le_refl, b_rs, b_rn, b_r2, b_ss, b_sn, b_bt, b_bf, b_b0, b_b1, b_bw, b_shl, b_or, b_iv, b_jv, b_sI, b_sJ, ↓z_hl, z_b0, z_b1, z_b2, b_and1c, b_and1z, if_true, if_false, nI_add, pk_mul, b_cl, b_lt, b_le, b_eq, b_eq0, b_le0, b_0lt, b_0le, b_lt0]
    rfl
  · have hm : m 150 i < s 0 := by omega
    have u : ∀ rs d, a_ts 12 (nI 14) rs d = match rs[2]? with
      | some r => r
      | none => d := fun rs d => b_u9 (lo := 12) (by decide) (by decide)
    have h3 := i_D_op hI t (by omega) (m 150 i) (by omega)
    simp (disch := omega) only [h, u, s_Af_amount26 hA, ↓bc_148, ↓br_148_2, ↓bc_149, ↓bx_149, bl_149, ↓bc_26, ↓br_26_0, ↓bc_4, ↓br_148_3, ↓bc_150, ↓bx_150, bl_150, ↓b_t0, ↓b_t1, ↓b_t2, ↓b_t3, ↓b_t4, ↓b_t5, ↓b_t6, Nat.zero_add, Nat.le_refl, b_rs, b_rn, b_r2, b_ss, b_sn, b_bt, b_bf, b_b0, b_b1, b_bw, b_shl, b_or, b_iv, b_jv, b_sI, b_sJ, ↓z_hl, z_b0, z_b1, z_b2, b_and1c, b_and1z, if_true, if_false, nI_add, pk_mul, b_cl, b_lt, b_le, b_eq, b_eq0, b_le0, b_0lt, b_0le, b_lt0]
    show (if s (177 + 6 * t + m 150 i) = 0 then _ else _) = _
    by_cases c : s (177 + 6 * t + m 150 i) = 0
    · rw [if_pos c]; simp [c, b_b]
    · rw [if_neg c]; simp [c, b_b]
  · have hm : m 150 i < s 3 := by omega
    have u : ∀ rs d, a_ts 12 (nI 15) rs d = match rs[3]? with
      | some r => r
      | none => d := fun rs d => b_u9 (lo := 12) (by decide) (by decide)
    simp (disch := omega) only [h, u, s_Af_isPut26 hA hS hI, s_Af_suits26 hF hA hS hI, decide_eq_false_iff_not, ↓bc_148, ↓br_148_2, ↓bc_149, ↓bx_149, bl_149, ↓bc_26, ↓br_26_0, ↓bc_4, ↓br_148_3, ↓bc_150, ↓bx_150, bl_150, ↓b_t0, ↓b_t1, ↓b_t2, ↓b_t3, ↓b_t4, ↓b_t5, ↓b_t6, Nat.zero_add, Nat.le_refl, b_rs, b_rn, b_r2, b_ss, b_sn, b_bt, b_bf, b_b0, b_b1, b_bw, b_shl, b_or, b_iv, b_jv, b_sI, b_sJ, ↓z_hl, z_b0, z_b1, z_b2, b_and1c, b_and1z, if_true, if_false, nI_add, pk_mul, b_cl, b_lt, b_le, b_eq, b_eq0, b_le0, b_0lt, b_0le, b_lt0]
    show (if ¬ s (241 + m 150 i) = 4294967295 then _ else _) = _
    unfold w_fit
    by_cases c : s (241 + m 150 i) = 4294967295
    · rw [if_neg (fun g => g c)]; simp [c, b_b]
    · rw [if_pos c]
      cases w_fitsRow s (m 150 i) (177 + 6 * t) <;> simp [c, b_b]
  · have u : ∀ rs d, a_ts 12 (nI 16) rs d = match rs[4]? with
      | some r => r
      | none => d := fun rs d => b_u9 (lo := 12) (by decide) (by decide)
    have h3 : m 150 i < 4294967296 := by omega
    have h4 : m 151 i < 2147483648 := by omega
    simp (disch := omega) only [h, u, s_Af_allOpen26 hF hA hS hI, s_Se_compares rfl, ↓bc_148, ↓br_148_2, ↓bc_149, ↓bx_149, bl_149, ↓bc_26, ↓br_26_0, ↓bc_4, ↓br_148_3, ↓bc_150, ↓bx_150, bl_150, ↓b_t0, ↓b_t1, ↓b_t2, ↓b_t3, ↓b_t4, ↓b_t5, ↓b_t6, Nat.zero_add, Nat.le_refl, b_rs, b_rn, b_r2, b_ss, b_sn, b_bt, b_bf, b_b0, b_b1, b_bw, b_shl, b_or, b_iv, b_jv, b_sI, b_sJ, ↓z_hl, z_b0, z_b1, z_b2, b_and1c, b_and1z, if_true, if_false, nI_add, pk_mul, b_cl, b_lt, b_le, b_eq, b_eq0, b_le0, b_0lt, b_0le, b_lt0]
    rfl
  · have u : ∀ rs d, a_ts 12 (nI 17) rs d = match rs[5]? with
      | some r => r
      | none => d := fun rs d => b_u9 (lo := 12) (by decide) (by decide)
    have h3 : m 150 i < 4294967296 := by omega
    have h4 : m 151 i < 2147483648 := by omega
    simp (disch := omega) only [h, u, s_Af_pages hF hA hS hI, s_Se_compares rfl, ↓bc_148, ↓br_148_2, ↓bc_149, ↓bx_149, bl_149, ↓bc_26, ↓br_26_0, ↓bc_4, ↓br_148_3, ↓bc_150, ↓bx_150, bl_150, ↓b_t0, ↓b_t1, ↓b_t2, ↓b_t3, ↓b_t4, ↓b_t5, ↓b_t6, Nat.zero_add, Nat.le_refl, b_rs, b_rn, b_r2, b_ss, b_sn, b_bt, b_bf, b_b0, b_b1, b_bw, b_shl, b_or, b_iv, b_jv, b_sI, b_sJ, ↓z_hl, z_b0, z_b1, z_b2, b_and1c, b_and1z, if_true, if_false, nI_add, pk_mul, b_cl, b_lt, b_le, b_eq, b_eq0, b_le0, b_0lt, b_0le, b_lt0]
    rfl
  · have u : ∀ rs d, a_ts 12 (nI 18) rs d = match rs[6]? with
      | some r => r
      | none => d := fun rs d => b_u9 (lo := 12) (by decide) (by decide)
    have h3 : m 150 i < 4294967296 := by omega
    have h4 : m 151 i < 2147483648 := by omega
    simp (disch := omega) only [h, u, s_Se_compares rfl, ↓bc_148, ↓br_148_2, ↓bc_149, ↓bx_149, bl_149, ↓bc_26, ↓br_26_0, ↓bc_4, ↓br_148_3, ↓bc_150, ↓bx_150, bl_150, ↓b_t0, ↓b_t1, ↓b_t2, ↓b_t3, ↓b_t4, ↓b_t5, ↓b_t6, Nat.zero_add, Nat.le_refl, b_rs, b_rn, b_r2, b_ss, b_sn, b_bt, b_bf, b_b0, b_b1, b_bw, b_shl, b_or, b_iv, b_jv, b_sI, b_sJ, ↓z_hl, z_b0, z_b1, z_b2, b_and1c, b_and1z, if_true, if_false, nI_add, pk_mul, b_cl, b_lt, b_le, b_eq, b_eq0, b_le0, b_0lt, b_0le, b_lt0]
    rfl
end SD2
