/-! WHAT MAY BE SAID: sentences -/
section SE3
variable {X : Nat × (Nat → Int32)} {tx : List Int32} {D : Nat} {m j : Nat → Nat → Nat} {w : (Nat × Nat) × Bool} {s : Nat → Nat}
theorem b_and1n (W : Nat) : nI W &&& nI 1 = nI (W &&& 1) := b_and W 1
theorem b_shr1 {W : Nat} (h : W < 2147483648) : nI W >>> (nI 1 &&& 31) = nI (W / 2) := by
  have := pk_shrN h (nI 1 &&& 31) 1 (z_sh 1 (by decide))
  rw [Nat.pow_one] at this
  exact this
theorem b_shl1 {W : Nat} (h : W < 2147483648) : nI W <<< (nI 1 &&& 31) = nI (W * 2) := by
  have := pk_shlN (n := W) (nI 1 &&& 31) 1 (z_sh 1 (by decide)) (by rw [Nat.pow_one]; omega)
  rw [Nat.pow_one] at this
  exact this
/-- the sentence holds of a thing -/
def w_holds (s : Nat → Nat) (t : Nat) (p nm nb : Nat → Nat) (n : Nat) : Bool := (w_W s t p nm nb n).testBit 0
theorem s_Se_holds (hF : c_F m 4 s) (hA : c_A m 26 s) (hS : i_S s) (hI : i_D s) (hC : r_C (m 148 0) (m 148 1) (m 149) (m 150) (m 151) s) (hD : 6 ≤ D) {t : Nat} (ht : t < s 2) : a_ex X tx a_T D 92 [.ref 148, .ref 26, .int (nI t)] (b_h m j w) = some ((b_h m j w), some (.int (nI (b_b (w_holds s t (m 149) (m 150) (m 151) (m 148 1)))))) := by
  obtain ⟨d, rfl⟩ : ∃ d, D = d + 1 := ⟨D - 1, by omega⟩
  rw [e_Se_holds, q_Se_holds_0]
  obtain ⟨h1, h2, h3, h4, h5, h6⟩ := hC
  have hT := i_S_T hS
  rw [← l_Se_holds_4]
  refine z_run (Q := fun r => r = some (b_h m j w, some (.int (nI (b_b (w_holds s t (m 149) (m 150) (m 151) (m 148 1))))))) (fun k L h => ∃ n u, k + n = m 148 1 ∧ L = [.ref 148, .ref 26, .int (nI t), .int (nI (w_W s t (m 149) (m 150) (m 151) n)), .int (nI n), u] ∧ h = b_h m j w) 0 ?_ (m 148 1) _ _ ⟨0, _, by omega, rfl, rfl⟩ _ (z_fu (by omega))
  rintro k L h ⟨n, u, hk, rfl, rfl⟩ f _
  rw [l_Se_holds_4, q_Se_holds_4]
  have hW := w_W_big (s := s) (t := t) (nm := m 150) (nb := m 151) h6 (i := n) (by omega)
  by_cases hn : n = m 148 1
  · left
    subst hn
    have e0 : (w_W s t (m 149) (m 150) (m 151) (m 148 1) &&& 1) = b_b (w_holds s t (m 149) (m 150) (m 151) (m 148 1)) := by
      unfold w_holds
      rw [Nat.testBit_zero, Nat.and_one_is_mod]
      unfold b_b
      have := Nat.mod_lt (w_W s t (m 149) (m 150) (m 151) (m 148 1)) (show 0 < 2 by decide)
      split
      · rename_i g; exact of_decide_eq_true g
      · rename_i g
        have g2 : ¬ _ := fun q => g (decide_eq_true q)
        omega
    simp (disch := omega) only [b_and1n, e0, ↓bc_148, ↓br_148_2, ↓bc_149, ↓bx_149, bl_149, ↓b_t0, ↓b_t1, ↓b_t2, ↓b_t3, ↓b_t4, ↓b_t5, ↓b_t6, Nat.zero_add, Nat.le_refl, b_rs, b_rn, b_r2, b_ss, b_sn, b_bt, b_bf, b_b0, b_b1, b_bw, b_shl, b_or, b_iv, b_jv, b_sI, b_sJ, ↓z_hl, z_b0, z_b1, z_b2, b_and1c, b_and1z, if_true, if_false, nI_add, pk_mul, b_cl, b_lt, b_le, b_eq, b_eq0, b_le0, b_0lt, b_0le, b_lt0]
    cases w_holds s t (m 149) (m 150) (m 151) (m 148 1) <;> rfl
  · right
    have hc := h5 n (by omega)
    have hW2 : w_W s t (m 149) (m 150) (m 151) (n + 1) = if m 149 n = 9 then (w_W s t (m 149) (m 150) (m 151) n / 2) ||| (w_W s t (m 149) (m 150) (m 151) n &&& 1) else if m 149 n = 10 then (w_W s t (m 149) (m 150) (m 151) n / 2) &&& ((w_W s t (m 149) (m 150) (m 151) n &&& 1) ||| 4294967294) else if m 149 n = 11 then w_W s t (m 149) (m 150) (m 151) n ^^^ 1 else (w_W s t (m 149) (m 150) (m 151) n * 2) ||| b_b (w_leaf s t (m 149 n) (m 150 n) (m 151 n)) := rfl
    refine ⟨k - 1, [.ref 148, .ref 26, .int (nI t), .int (nI (w_W s t (m 149) (m 150) (m 151) (n + 1))), .int (nI (n + 1)), .int (nI (w_W s t (m 149) (m 150) (m 151) n &&& 1))], _, by omega, ⟨n + 1, _, by omega, rfl, rfl⟩, ?_⟩
    rw [hW2]
    obtain c | c | c | c : m 149 n = 9 ∨ m 149 n = 10 ∨ m 149 n = 11 ∨ 12 ≤ m 149 n := by unfold r_c1 at hc; omega
    · have u9 : ∀ rs d, a_ts 9 (nI 9) rs d = match rs[0]? with
        | some r => r
        | none => d := fun rs d => b_u9 (lo := 9) (by decide) (by decide)
      simp (disch := omega) only [c, u9, b_and1n, b_shr1, ↓bc_148, ↓br_148_2, ↓bc_149, ↓bx_149, bl_149, ↓b_t0, ↓b_t1, ↓b_t2, ↓b_t3, ↓b_t4, ↓b_t5, ↓b_t6, Nat.zero_add, Nat.le_refl, b_rs, b_rn, b_r2, b_ss, b_sn, b_bt, b_bf, b_b0, b_b1, b_bw, b_shl, b_or, b_iv, b_jv, b_sI, b_sJ, ↓z_hl, z_b0, z_b1, z_b2, b_and1c, b_and1z, if_true, if_false, nI_add, pk_mul, b_cl, b_lt, b_le, b_eq, b_eq0, b_le0, b_0lt, b_0le, b_lt0]
      rw [if_neg (by omega)]
      rfl
    · have u9 : ∀ rs d, a_ts 9 (nI 10) rs d = match rs[1]? with
        | some r => r
        | none => d := fun rs d => b_u9 (lo := 9) (by decide) (by decide)
      simp (disch := omega) only [c, u9, b_and1n, b_shr1, b_and, ↓bc_148, ↓br_148_2, ↓bc_149, ↓bx_149, bl_149, ↓b_t0, ↓b_t1, ↓b_t2, ↓b_t3, ↓b_t4, ↓b_t5, ↓b_t6, Nat.zero_add, Nat.le_refl, b_rs, b_rn, b_r2, b_ss, b_sn, b_bt, b_bf, b_b0, b_b1, b_bw, b_shl, b_or, b_iv, b_jv, b_sI, b_sJ, ↓z_hl, z_b0, z_b1, z_b2, b_and1c, b_and1z, if_true, if_false, nI_add, pk_mul, b_cl, b_lt, b_le, b_eq, b_eq0, b_le0, b_0lt, b_0le, b_lt0]
      rw [if_neg (by omega)]
      rfl
    · have u9 : ∀ rs d, a_ts 9 (nI 11) rs d = match rs[2]? with
        | some r => r
        | none => d := fun rs d => b_u9 (lo := 9) (by decide) (by decide)
      simp (disch := omega) only [c, u9, b_and1n, b_xor, ↓bc_148, ↓br_148_2, ↓bc_149, ↓bx_149, bl_149, ↓b_t0, ↓b_t1, ↓b_t2, ↓b_t3, ↓b_t4, ↓b_t5, ↓b_t6, Nat.zero_add, Nat.le_refl, b_rs, b_rn, b_r2, b_ss, b_sn, b_bt, b_bf, b_b0, b_b1, b_bw, b_shl, b_or, b_iv, b_jv, b_sI, b_sJ, ↓z_hl, z_b0, z_b1, z_b2, b_and1c, b_and1z, if_true, if_false, nI_add, pk_mul, b_cl, b_lt, b_le, b_eq, b_eq0, b_le0, b_0lt, b_0le, b_lt0]
      rw [if_neg (by omega)]
      rfl
    · have hb : m 149 n < 2147483648 := by unfold r_c1 at hc; omega
      have u9 : ∀ (r0 r1 r2 d : A_R), a_ts 9 (nI (m 149 n)) [r0, r1, r2] d = d := fun r0 r1 r2 d => by
        have := b_u9 (lo := 9) (p := m 149 n) (rs := [r0, r1, r2]) (d := d) (by omega) hb
        rw [show ((9 : Nat) : Int) = 9 from rfl] at this
        rw [this, List.getElem?_eq_none (by simp; omega)]
      simp (disch := omega) only [u9, s_Se_holdsOne hF hA hS hI _ ht _ hc c, b_and1n, b_shl1, ↓bc_148, ↓br_148_2, ↓bc_149, ↓bx_149, bl_149, ↓b_t0, ↓b_t1, ↓b_t2, ↓b_t3, ↓b_t4, ↓b_t5, ↓b_t6, Nat.zero_add, Nat.le_refl, b_rs, b_rn, b_r2, b_ss, b_sn, b_bt, b_bf, b_b0, b_b1, b_bw, b_shl, b_or, b_iv, b_jv, b_sI, b_sJ, ↓z_hl, z_b0, z_b1, z_b2, b_and1c, b_and1z, if_true, if_false, nI_add, pk_mul, b_cl, b_lt, b_le, b_eq, b_eq0, b_le0, b_0lt, b_0le, b_lt0]
      rw [if_neg (show ¬ m 148 1 ≤ n by omega), if_neg (show ¬ m 149 n = 9 by omega), if_neg (show ¬ m 149 n = 10 by omega), if_neg (show ¬ m 149 n = 11 by omega)]
      cases w_leaf s t (m 149 n) (m 150 n) (m 151 n) <;> rfl
/-! the reference -/
theorem s_Mo_isLeaf60 {d f : Nat} {u : Value} {t p sg v n : Nat} (hs : sg < 4294967296) (hv : v < 2147483648) (hn : n < 2147483648) : a_rn X tx (a_ex X tx a_T d) (a_go X tx (a_ex X tx a_T d) k_Mo_isLeaf_0 f) k_Mo_isLeaf_60 0 [.ref 234, .int (nI t), .int (nI p), .int (nI sg), .int (nI n), u] [.int (nI v)] (b_h m j w) = some (b_h m j w, some (.int (nI (b_b (w_cmp sg v n))))) := by
  rw [q_Mo_isLeaf_60]
  simp (disch := omega) only [↓b_t0, ↓b_t1, ↓b_t2, ↓b_t3, ↓b_t4, ↓b_t5, ↓b_t6, Nat.zero_add, Nat.le_refl, b_rs, b_rn, b_r2, b_ss, b_sn, b_bt, b_bf, b_b0, b_b1, b_bw, b_shl, b_or, b_iv, b_jv, b_sI, b_sJ, ↓z_hl, z_b0, z_b1, z_b2, b_and1c, b_and1z, if_true, if_false, nI_add, pk_mul, b_cl, b_lt, b_le, b_eq, b_eq0, b_le0, b_0lt, b_0le, b_lt0]
  unfold w_cmp
  by_cases c1 : sg = 60
  · rw [if_pos c1, if_pos c1]
    by_cases c : n ≤ v
    · rw [if_pos c, decide_eq_false (by omega)]; rfl
    · rw [if_neg c, decide_eq_true (by omega)]; rfl
  · rw [if_neg c1, if_neg c1]
    by_cases c2 : sg = 61
    · rw [if_pos c2, if_pos c2]
      by_cases c : v = n
      · rw [if_pos c, decide_eq_true c]; rfl
      · rw [if_neg c, decide_eq_false c]; rfl
    · rw [if_neg c2, if_neg c2]
      by_cases c : v ≤ n
      · rw [if_pos c, decide_eq_false (by omega)]; rfl
      · rw [if_neg c, decide_eq_true (by omega)]; rfl
theorem s_Mo_isLeaf (hS : i_S (m 236)) (hI : i_D (m 236)) (hD : 4 ≤ D) {t p nm nb c0 c1 c2 : Nat} (ht : t < m 236 2) (hc : r_c1 (m 236) p nm nb c0 c1 c2) (hl : 12 ≤ p) : a_ex X tx a_T D 309 [.ref 234, .int (nI t), .int (nI c0), .int (nI c1), .int (nI c2)] (b_h m j w) = some ((b_h m j w), some (.int (nI (b_b (w_leaf (m 236) t p nm nb))))) := by
  obtain ⟨d, rfl⟩ : ∃ d, D = d + 1 := ⟨D - 1, by omega⟩
  rw [e_Mo_isLeaf, q_Mo_isLeaf_0]
  have hT := i_S_T hS
  have hE := i_S_E hS
  have hM := i_S_M hS
  have hK := i_S_K hS
  have ho := w_open_le hI (t := t) (by omega)
  have hp := i_pages hS hI ht
  unfold r_c1 at hc
  unfold w_leaf
  obtain h | h | h | h | h | h | h : p = 12 ∨ p = 13 ∨ p = 14 ∨ p = 15 ∨ p = 16 ∨ p = 17 ∨ p = 18 := by omega
  · have e : c0 = 0 := by omega
    subst e; subst h
    simp (disch := omega) only [s_Mo_openOf, ↓bc_234, ↓br_234_6, ↓bc_236, ↓bx_236, bl_236, ↓b_t0, ↓b_t1, ↓b_t2, ↓b_t3, ↓b_t4, ↓b_t5, ↓b_t6, Nat.zero_add, Nat.le_refl, b_rs, b_rn, b_r2, b_ss, b_sn, b_bt, b_bf, b_b0, b_b1, b_bw, b_shl, b_or, b_iv, b_jv, b_sI, b_sJ, ↓z_hl, z_b0, z_b1, z_b2, b_and1c, b_and1z, if_true, if_false, nI_add, pk_mul, b_cl, b_lt, b_le, b_eq, b_eq0, b_le0, b_0lt, b_0le, b_lt0]
    show (if w_open (m 236) t = 0 then _ else _) = _
    by_cases c : w_open (m 236) t = 0
    · rw [if_pos c, decide_eq_true c]; rfl
    · rw [if_neg c, decide_eq_false c]; rfl
  · have e : c0 = 1 ∧ c2 = nm ∧ nm < m 236 1 := by omega
    obtain ⟨e, e2, e3⟩ := e
    subst e; subst e2; subst h
    have h5 := i_S_wh hS t ht
    simp (disch := omega) only [↓bc_234, ↓br_234_6, ↓bc_236, ↓bx_236, bl_236, ↓b_t0, ↓b_t1, ↓b_t2, ↓b_t3, ↓b_t4, ↓b_t5, ↓b_t6, Nat.zero_add, Nat.le_refl, b_rs, b_rn, b_r2, b_ss, b_sn, b_bt, b_bf, b_b0, b_b1, b_bw, b_shl, b_or, b_iv, b_jv, b_sI, b_sJ, ↓z_hl, z_b0, z_b1, z_b2, b_and1c, b_and1z, if_true, if_false, nI_add, pk_mul, b_cl, b_lt, b_le, b_eq, b_eq0, b_le0, b_0lt, b_0le, b_lt0]
    show (if m 236 (11 + t) = c2 then _ else _) = _
    by_cases c : m 236 (11 + t) = c2
    · rw [if_pos c]; simp [c, b_b]
    · rw [if_neg c]; simp [c, b_b]
  · have e : c0 = 2 ∧ c2 = nm ∧ nm < m 236 0 := by omega
    obtain ⟨e, e2, e3⟩ := e
    subst e; subst e2; subst h
    have h3 := i_D_op hI t (by omega) c2 (by omega)
    simp (disch := omega) only [↓bc_234, ↓br_234_6, ↓bc_236, ↓bx_236, bl_236, ↓b_t0, ↓b_t1, ↓b_t2, ↓b_t3, ↓b_t4, ↓b_t5, ↓b_t6, Nat.zero_add, Nat.le_refl, b_rs, b_rn, b_r2, b_ss, b_sn, b_bt, b_bf, b_b0, b_b1, b_bw, b_shl, b_or, b_iv, b_jv, b_sI, b_sJ, ↓z_hl, z_b0, z_b1, z_b2, b_and1c, b_and1z, if_true, if_false, nI_add, pk_mul, b_cl, b_lt, b_le, b_eq, b_eq0, b_le0, b_0lt, b_0le, b_lt0]
    show (if m 236 (177 + 6 * t + c2) = 0 then _ else _) = _
    by_cases c : m 236 (177 + 6 * t + c2) = 0
    · rw [if_pos c]; simp [c, b_b]
    · rw [if_neg c]; simp [c, b_b]
  · have e : c0 = 3 ∧ c2 = nm ∧ nm < m 236 3 := by omega
    obtain ⟨e, e2, e3⟩ := e
    subst e; subst e2; subst h
    simp (disch := omega) only [s_Mo_doesFit hS hI, ↓bc_234, ↓br_234_6, ↓bc_236, ↓bx_236, bl_236, ↓b_t0, ↓b_t1, ↓b_t2, ↓b_t3, ↓b_t4, ↓b_t5, ↓b_t6, Nat.zero_add, Nat.le_refl, b_rs, b_rn, b_r2, b_ss, b_sn, b_bt, b_bf, b_b0, b_b1, b_bw, b_shl, b_or, b_iv, b_jv, b_sI, b_sJ, ↓z_hl, z_b0, z_b1, z_b2, b_and1c, b_and1z, if_true, if_false, nI_add, pk_mul, b_cl, b_lt, b_le, b_eq, b_eq0, b_le0, b_0lt, b_0le, b_lt0]
    rfl
  · have e : c0 = 4 ∧ c1 = nm ∧ c2 = nb ∧ nb ≤ 999 := by omega
    obtain ⟨e, e2, e3, e4⟩ := e
    subst e; subst e2; subst e3; subst h
    rw [b_tsd (by simp) (by decide)]
    simp (disch := omega) only [s_Mo_openOf, s_Mo_isLeaf60, ↓bc_234, ↓br_234_6, ↓bc_236, ↓bx_236, bl_236, ↓b_t0, ↓b_t1, ↓b_t2, ↓b_t3, ↓b_t4, ↓b_t5, ↓b_t6, Nat.zero_add, Nat.le_refl, b_rs, b_rn, b_r2, b_ss, b_sn, b_bt, b_bf, b_b0, b_b1, b_bw, b_shl, b_or, b_iv, b_jv, b_sI, b_sJ, ↓z_hl, z_b0, z_b1, z_b2, b_and1c, b_and1z, if_true, if_false, nI_add, pk_mul, b_cl, b_lt, b_le, b_eq, b_eq0, b_le0, b_0lt, b_0le, b_lt0]
    rfl
  · have e : c0 = 5 ∧ c1 = nm ∧ c2 = nb ∧ nb ≤ 999 := by omega
    obtain ⟨e, e2, e3, e4⟩ := e
    subst e; subst e2; subst e3; subst h
    rw [b_tsd (by simp) (by decide), if_neg (by decide +kernel)]
    simp (disch := omega) only [s_Mo_isLeaf60, ↓bc_234, ↓br_234_6, ↓bc_236, ↓bx_236, bl_236, ↓b_t0, ↓b_t1, ↓b_t2, ↓b_t3, ↓b_t4, ↓b_t5, ↓b_t6, Nat.zero_add, Nat.le_refl, b_rs, b_rn, b_r2, b_ss, b_sn, b_bt, b_bf, b_b0, b_b1, b_bw, b_shl, b_or, b_iv, b_jv, b_sI, b_sJ, ↓z_hl, z_b0, z_b1, z_b2, b_and1c, b_and1z, if_true, if_false, nI_add, pk_mul, b_cl, b_lt, b_le, b_eq, b_eq0, b_le0, b_0lt, b_0le, b_lt0]
    rfl
  · have e : c0 = 6 ∧ c1 = nm ∧ c2 = nb ∧ nb ≤ 999 := by omega
    obtain ⟨e, e2, e3, e4⟩ := e
    subst e; subst e2; subst e3; subst h
    rw [b_tsd (by simp) (by decide), if_neg (by decide +kernel), if_neg (by decide +kernel)]
    simp (disch := omega) only [s_Mo_isLeaf60, ↓bc_234, ↓br_234_6, ↓bc_236, ↓bx_236, bl_236, ↓b_t0, ↓b_t1, ↓b_t2, ↓b_t3, ↓b_t4, ↓b_t5, ↓b_t6, Nat.zero_add, Nat.le_refl, b_rs, b_rn, b_r2, b_ss, b_sn, b_bt, b_bf, b_b0, b_b1, b_bw, b_shl, b_or, b_iv, b_jv, b_sI, b_sJ, ↓z_hl, z_b0, z_b1, z_b2, b_and1c, b_and1z, if_true, if_false, nI_add, pk_mul, b_cl, b_lt, b_le, b_eq, b_eq0, b_le0, b_0lt, b_0le, b_lt0]
    rfl
/-- the rows of truths -/
def w_tro (m : Nat → Nat → Nat) (t : Nat) (p nm nb f : Nat → Nat) (n : Nat) : Prop := ∀ q, q < w_dep p n → f q = b_b ((w_W (m 236) t p nm nb n).testBit (w_dep p n - 1 - q))
theorem b_bz253 {i : Nat} {c : Bool} {g : A_H → A_R} (hi : i < 45) : a_bz (b_h m j w) 253 (nI i) (nI (b_b c)) g = g (b_h (b_r m 253 (b_s (m 253) i (b_b c))) j w) := by
  unfold a_bz
  have e1 : a_kd (b_h m j w) 253 = 102 := bk_253
  have e2 : nI (b_b c) &&& 1 = nI (b_b c) := by cases c <;> decide +kernel
  rw [e1, if_pos rfl, bx_253 hi, z_hl, b_cl (by omega), e2, b_sI]
theorem b_bz253f {i : Nat} {g : A_H → A_R} (hi : i < 45) : a_bz (b_h m j w) 253 (nI i) (nI 0) g = g (b_h (b_r m 253 (b_s (m 253) i 0)) j w) := b_bz253 (c := false) hi
theorem b_bz253t {i : Nat} {g : A_H → A_R} (hi : i < 45) : a_bz (b_h m j w) 253 (nI i) (nI 1) g = g (b_h (b_r m 253 (b_s (m 253) i 1)) j w) := b_bz253 (c := true) hi
theorem s_Mo_isSaid (hS : i_S (m 236)) (hI : i_D (m 236)) {parts : Nat} {p nm nb : Nat → Nat} {ones : Nat} (hC : r_C ones parts p nm nb (m 236)) (h0 : 0 < parts) (hD : 5 ≤ D) {t : Nat} (ht : t < m 236 2) : ∃ m2, a_ex X tx a_T D 310 [.ref 234, .int (nI t)] (b_h m j w) = some (b_h m2 j w, some (.int (nI (b_b (w_holds (m 236) t p nm nb parts))))) ∧ z_fr 253 253 m m2 := by
  obtain ⟨d, rfl⟩ : ∃ d, D = d + 1 := ⟨D - 1, by omega⟩
  rw [e_Mo_isSaid, q_Mo_isSaid_0]
  obtain ⟨h1, h2, h3, h4, h5, h6⟩ := hC
  obtain ⟨g6, g7, g8⟩ := id h6
  have hT := i_S_T hS
  rw [← l_Mo_isSaid_4]
  refine z_run (Q := fun r => ∃ m2, r = some (b_h m2 j w, some (.int (nI (b_b (w_holds (m 236) t p nm nb parts))))) ∧ z_fr 253 253 m m2) (fun k L h => ∃ n u f, k + n = parts ∧ L = [.ref 234, .int (nI t), .int (nI (w_dep p n)), .int (nI n), u] ∧ h = b_h (b_r m 253 f) j w ∧ w_tro m t p nm nb f n) 0 ?_ parts _ _ ⟨0, _, m 253, by omega, rfl, by rw [b_ri rfl], fun q hq => absurd hq (Nat.not_lt_zero q)⟩ _ (z_fu (by omega))
  rintro k L h ⟨n, u, f, hk, rfl, rfl, hf⟩ fu _
  rw [l_Mo_isSaid_4, q_Mo_isSaid_4]
  by_cases hn : n = parts
  · left
    subst hn
    have e1 := hf 0 (by have := g8 h0; omega)
    rw [g8 h0, show 1 - 1 - 0 = 0 by omega] at e1
    have e2 : f 0 = b_b (w_holds (m 236) t p nm nb n) := e1
    refine ⟨b_r m 253 f, ?_, z_fr_r z_fr_rf (by omega)⟩
    simp (disch := omega) only [h2, e2, true_or, ↓bc_234, ↓br_234_6, ↓bc_236, ↓bx_236, bl_236, ↓br_234_50, ↓bc_253, ↓bx_253, bl_253, bk_253, ↓b_t0, ↓b_t1, ↓b_t2, ↓b_t3, ↓b_t4, ↓b_t5, ↓b_t6, Nat.zero_add, Nat.le_refl, b_rs, b_rn, b_r2, b_ss, b_sn, b_bt, b_bf, b_b0, b_b1, b_bw, b_shl, b_or, b_iv, b_jv, b_sI, b_sJ, ↓z_hl, z_b0, z_b1, z_b2, b_and1c, b_and1z, if_true, if_false, nI_add, pk_mul, b_cl, b_lt, b_le, b_eq, b_eq0, b_le0, b_0lt, b_0le, b_lt0]
  · right
    have hc := h5 n (by omega)
    obtain ⟨i1, i2⟩ := g6 n (by omega)
    have i3 := g7 n (by omega)
    have hd : w_dep p (n + 1) = if p n = 11 then w_dep p n else if p n = 9 ∨ p n = 10 then w_dep p n - 1 else w_dep p n + 1 := rfl
    have hW2 : w_W (m 236) t p nm nb (n + 1) = if p n = 9 then (w_W (m 236) t p nm nb n / 2) ||| (w_W (m 236) t p nm nb n &&& 1) else if p n = 10 then (w_W (m 236) t p nm nb n / 2) &&& ((w_W (m 236) t p nm nb n &&& 1) ||| 4294967294) else if p n = 11 then w_W (m 236) t p nm nb n ^^^ 1 else (w_W (m 236) t p nm nb n * 2) ||| b_b (w_leaf (m 236) t (p n) (nm n) (nb n)) := rfl
    generalize hWn : w_W (m 236) t p nm nb n = W at hW2
    generalize hen : w_dep p n = e at hd i1 i2 i3
    have hf2 : ∀ q, q < e → f q = b_b (W.testBit (e - 1 - q)) := fun q hq => by have := hf q (by rw [hen]; exact hq); rw [hen, hWn] at this; exact this
    obtain c | c | c | c : p n = 9 ∨ p n = 10 ∨ p n = 11 ∨ 12 ≤ p n := by unfold r_c1 at hc; omega
    · have ec : m 236 (353 + 3 * n) = 22 := by unfold r_c1 at hc; omega
      have e1 := i2 (Or.inl c)
      rw [if_neg (show ¬ p n = 11 by omega), if_pos (Or.inl c)] at hd
      rw [if_pos c] at hW2
      have fa := hf2 (e - 1) (by omega)
      rw [show e - 1 - (e - 1) = 0 by omega] at fa
      have fb := hf2 (e - 2) (by omega)
      rw [show e - 1 - (e - 2) = 1 by omega] at fb
      have x1 : nI e + nI 4294967295 = nI (e - 1) := by
        rw [nI_add]
        have : e + 4294967295 = (e - 1) + 4294967296 := by omega
        rw [this]
        unfold nI
        apply Int32.toBitVec_inj.mp
        apply BitVec.eq_of_toNat_eq
        rw [Int32.toBitVec_ofNat', Int32.toBitVec_ofNat', BitVec.toNat_ofNat, BitVec.toNat_ofNat]
        omega
      have x2 : nI (e - 1) - nI 1 = nI (e - 2) := by rw [b_sub (by omega)]; rfl
      refine ⟨k - 1, [.ref 234, .int (nI t), .int (nI (e - 1)), .int (nI (n + 1)), .int (nI (353 + 3 * n))], b_h (b_r m 253 (b_s f (e - 2) (b_b (W.testBit 1 || W.testBit 0)))) j w, by omega, ⟨n + 1, _, b_s f (e - 2) (b_b (W.testBit 1 || W.testBit 0)), by omega, by rw [hd], rfl, ?_⟩, ?_⟩
      · intro q hq
        rw [hd] at hq ⊢
        rw [hW2]
        by_cases c2 : q = e - 2
        · subst c2
          rw [b_ss, show e - 1 - 1 - (e - 2) = 0 by omega]
          congr 1
          have hh : ∀ i, (W / 2).testBit i = W.testBit (i + 1) := fun i => (Nat.testBit_succ W i).symm
          rw [Nat.testBit_or, Nat.testBit_and, z_tb1, hh]
          simp
        · rw [b_sn c2, hf2 q (by omega)]
          obtain ⟨z, hz⟩ : ∃ z, e - 1 - q = z + 2 := ⟨e - 3 - q, by omega⟩
          rw [hz, show e - 1 - 1 - q = z + 1 by omega]
          congr 1
          have hh : ∀ i, (W / 2).testBit i = W.testBit (i + 1) := fun i => (Nat.testBit_succ W i).symm
          rw [Nat.testBit_or, Nat.testBit_and, z_tb1, hh]
          simp
      · have hx : ∀ f2 : Nat → Nat, True := fun _ => trivial
        cases hb1 : W.testBit 1 with
        | true =>
          cases hb0 : W.testBit 0 with
          | true =>
            rw [hb0] at fa
            rw [hb1] at fb
            simp (disch := omega) only [h2, hen, ec, q_Mo_isSaid_51, x1, x2, fa, fb, b_bz253f, b_bz253t, true_or, Nat.one_ne_zero, ↓bc_234, ↓br_234_6, ↓bc_236, ↓bx_236, bl_236, ↓br_234_50, ↓bc_253, ↓bx_253, bl_253, bk_253, ↓b_t0, ↓b_t1, ↓b_t2, ↓b_t3, ↓b_t4, ↓b_t5, ↓b_t6, Nat.zero_add, Nat.le_refl, b_rs, b_rn, b_r2, b_ss, b_sn, b_bt, b_bf, b_b0, b_b1, b_bw, b_shl, b_or, b_iv, b_jv, b_sI, b_sJ, ↓z_hl, z_b0, z_b1, z_b2, b_and1c, b_and1z, if_true, if_false, nI_add, pk_mul, b_cl, b_lt, b_le, b_eq, b_eq0, b_le0, b_0lt, b_0le, b_lt0]
            rw [if_neg (by omega)]
            rfl
          | false =>
            rw [hb0] at fa
            rw [hb1] at fb
            simp (disch := omega) only [h2, hen, ec, q_Mo_isSaid_51, x1, x2, fa, fb, b_bz253f, b_bz253t, true_or, Nat.one_ne_zero, ↓bc_234, ↓br_234_6, ↓bc_236, ↓bx_236, bl_236, ↓br_234_50, ↓bc_253, ↓bx_253, bl_253, bk_253, ↓b_t0, ↓b_t1, ↓b_t2, ↓b_t3, ↓b_t4, ↓b_t5, ↓b_t6, Nat.zero_add, Nat.le_refl, b_rs, b_rn, b_r2, b_ss, b_sn, b_bt, b_bf, b_b0, b_b1, b_bw, b_shl, b_or, b_iv, b_jv, b_sI, b_sJ, ↓z_hl, z_b0, z_b1, z_b2, b_and1c, b_and1z, if_true, if_false, nI_add, pk_mul, b_cl, b_lt, b_le, b_eq, b_eq0, b_le0, b_0lt, b_0le, b_lt0]
            rw [if_neg (by omega)]
            rfl
        | false =>
          cases hb0 : W.testBit 0 with
          | true =>
            rw [hb0] at fa
            rw [hb1] at fb
            simp (disch := omega) only [h2, hen, ec, q_Mo_isSaid_51, x1, x2, fa, fb, b_bz253f, b_bz253t, true_or, Nat.one_ne_zero, ↓bc_234, ↓br_234_6, ↓bc_236, ↓bx_236, bl_236, ↓br_234_50, ↓bc_253, ↓bx_253, bl_253, bk_253, ↓b_t0, ↓b_t1, ↓b_t2, ↓b_t3, ↓b_t4, ↓b_t5, ↓b_t6, Nat.zero_add, Nat.le_refl, b_rs, b_rn, b_r2, b_ss, b_sn, b_bt, b_bf, b_b0, b_b1, b_bw, b_shl, b_or, b_iv, b_jv, b_sI, b_sJ, ↓z_hl, z_b0, z_b1, z_b2, b_and1c, b_and1z, if_true, if_false, nI_add, pk_mul, b_cl, b_lt, b_le, b_eq, b_eq0, b_le0, b_0lt, b_0le, b_lt0]
            rw [if_neg (by omega)]
            rfl
          | false =>
            rw [hb0] at fa
            rw [hb1] at fb
            simp (disch := omega) only [h2, hen, ec, q_Mo_isSaid_51, x1, x2, fa, fb, b_bz253f, b_bz253t, true_or, Nat.one_ne_zero, ↓bc_234, ↓br_234_6, ↓bc_236, ↓bx_236, bl_236, ↓br_234_50, ↓bc_253, ↓bx_253, bl_253, bk_253, ↓b_t0, ↓b_t1, ↓b_t2, ↓b_t3, ↓b_t4, ↓b_t5, ↓b_t6, Nat.zero_add, Nat.le_refl, b_rs, b_rn, b_r2, b_ss, b_sn, b_bt, b_bf, b_b0, b_b1, b_bw, b_shl, b_or, b_iv, b_jv, b_sI, b_sJ, ↓z_hl, z_b0, z_b1, z_b2, b_and1c, b_and1z, if_true, if_false, nI_add, pk_mul, b_cl, b_lt, b_le, b_eq, b_eq0, b_le0, b_0lt, b_0le, b_lt0]
            rw [if_neg (by omega)]
            rfl
    · have ec : m 236 (353 + 3 * n) = 21 := by unfold r_c1 at hc; omega
      have e1 := i2 (Or.inr c)
      rw [if_neg (show ¬ p n = 11 by omega), if_pos (Or.inr c)] at hd
      rw [if_neg (show ¬ p n = 9 by omega), if_pos c] at hW2
      have fa := hf2 (e - 1) (by omega)
      rw [show e - 1 - (e - 1) = 0 by omega] at fa
      have fb := hf2 (e - 2) (by omega)
      rw [show e - 1 - (e - 2) = 1 by omega] at fb
      have x1 : nI e + nI 4294967295 = nI (e - 1) := by
        rw [nI_add]
        have : e + 4294967295 = (e - 1) + 4294967296 := by omega
        rw [this]
        unfold nI
        apply Int32.toBitVec_inj.mp
        apply BitVec.eq_of_toNat_eq
        rw [Int32.toBitVec_ofNat', Int32.toBitVec_ofNat', BitVec.toNat_ofNat, BitVec.toNat_ofNat]
        omega
      have x2 : nI (e - 1) - nI 1 = nI (e - 2) := by rw [b_sub (by omega)]; rfl
      refine ⟨k - 1, [.ref 234, .int (nI t), .int (nI (e - 1)), .int (nI (n + 1)), .int (nI (353 + 3 * n))], b_h (b_r m 253 (b_s f (e - 2) (b_b (W.testBit 1 && W.testBit 0)))) j w, by omega, ⟨n + 1, _, b_s f (e - 2) (b_b (W.testBit 1 && W.testBit 0)), by omega, by rw [hd], rfl, ?_⟩, ?_⟩
      · intro q hq
        rw [hd] at hq ⊢
        rw [hW2]
        by_cases c2 : q = e - 2
        · subst c2
          rw [b_ss, show e - 1 - 1 - (e - 2) = 0 by omega]
          congr 1
          have hh : ∀ i, (W / 2).testBit i = W.testBit (i + 1) := fun i => (Nat.testBit_succ W i).symm
          rw [Nat.testBit_and, Nat.testBit_or, Nat.testBit_and, z_tb1, z_tbm 0 (by decide), hh]
          simp
        · rw [b_sn c2, hf2 q (by omega)]
          obtain ⟨z, hz⟩ : ∃ z, e - 1 - q = z + 2 := ⟨e - 3 - q, by omega⟩
          rw [hz, show e - 1 - 1 - q = z + 1 by omega]
          congr 1
          have hh : ∀ i, (W / 2).testBit i = W.testBit (i + 1) := fun i => (Nat.testBit_succ W i).symm
          rw [Nat.testBit_and, Nat.testBit_or, Nat.testBit_and, z_tb1, z_tbm (z + 1) (by omega), hh]
          simp
      · have hx : ∀ f2 : Nat → Nat, True := fun _ => trivial
        cases hb1 : W.testBit 1 with
        | true =>
          cases hb0 : W.testBit 0 with
          | true =>
            rw [hb0] at fa
            rw [hb1] at fb
            simp (disch := omega) only [h2, hen, ec, q_Mo_isSaid_51, x1, x2, fa, fb, b_bz253f, b_bz253t, true_or, Nat.one_ne_zero, ↓bc_234, ↓br_234_6, ↓bc_236, ↓bx_236, bl_236, ↓br_234_50, ↓bc_253, ↓bx_253, bl_253, bk_253, ↓b_t0, ↓b_t1, ↓b_t2, ↓b_t3, ↓b_t4, ↓b_t5, ↓b_t6, Nat.zero_add, Nat.le_refl, b_rs, b_rn, b_r2, b_ss, b_sn, b_bt, b_bf, b_b0, b_b1, b_bw, b_shl, b_or, b_iv, b_jv, b_sI, b_sJ, ↓z_hl, z_b0, z_b1, z_b2, b_and1c, b_and1z, if_true, if_false, nI_add, pk_mul, b_cl, b_lt, b_le, b_eq, b_eq0, b_le0, b_0lt, b_0le, b_lt0]
            rw [if_neg (by omega)]
            rfl
          | false =>
            rw [hb0] at fa
            rw [hb1] at fb
            simp (disch := omega) only [h2, hen, ec, q_Mo_isSaid_51, x1, x2, fa, fb, b_bz253f, b_bz253t, true_or, Nat.one_ne_zero, ↓bc_234, ↓br_234_6, ↓bc_236, ↓bx_236, bl_236, ↓br_234_50, ↓bc_253, ↓bx_253, bl_253, bk_253, ↓b_t0, ↓b_t1, ↓b_t2, ↓b_t3, ↓b_t4, ↓b_t5, ↓b_t6, Nat.zero_add, Nat.le_refl, b_rs, b_rn, b_r2, b_ss, b_sn, b_bt, b_bf, b_b0, b_b1, b_bw, b_shl, b_or, b_iv, b_jv, b_sI, b_sJ, ↓z_hl, z_b0, z_b1, z_b2, b_and1c, b_and1z, if_true, if_false, nI_add, pk_mul, b_cl, b_lt, b_le, b_eq, b_eq0, b_le0, b_0lt, b_0le, b_lt0]
            rw [if_neg (by omega)]
            rfl
        | false =>
          cases hb0 : W.testBit 0 with
          | true =>
            rw [hb0] at fa
            rw [hb1] at fb
            simp (disch := omega) only [h2, hen, ec, q_Mo_isSaid_51, x1, x2, fa, fb, b_bz253f, b_bz253t, true_or, Nat.one_ne_zero, ↓bc_234, ↓br_234_6, ↓bc_236, ↓bx_236, bl_236, ↓br_234_50, ↓bc_253, ↓bx_253, bl_253, bk_253, ↓b_t0, ↓b_t1, ↓b_t2, ↓b_t3, ↓b_t4, ↓b_t5, ↓b_t6, Nat.zero_add, Nat.le_refl, b_rs, b_rn, b_r2, b_ss, b_sn, b_bt, b_bf, b_b0, b_b1, b_bw, b_shl, b_or, b_iv, b_jv, b_sI, b_sJ, ↓z_hl, z_b0, z_b1, z_b2, b_and1c, b_and1z, if_true, if_false, nI_add, pk_mul, b_cl, b_lt, b_le, b_eq, b_eq0, b_le0, b_0lt, b_0le, b_lt0]
            rw [if_neg (by omega)]
            rfl
          | false =>
            rw [hb0] at fa
            rw [hb1] at fb
            simp (disch := omega) only [h2, hen, ec, q_Mo_isSaid_51, x1, x2, fa, fb, b_bz253f, b_bz253t, true_or, Nat.one_ne_zero, ↓bc_234, ↓br_234_6, ↓bc_236, ↓bx_236, bl_236, ↓br_234_50, ↓bc_253, ↓bx_253, bl_253, bk_253, ↓b_t0, ↓b_t1, ↓b_t2, ↓b_t3, ↓b_t4, ↓b_t5, ↓b_t6, Nat.zero_add, Nat.le_refl, b_rs, b_rn, b_r2, b_ss, b_sn, b_bt, b_bf, b_b0, b_b1, b_bw, b_shl, b_or, b_iv, b_jv, b_sI, b_sJ, ↓z_hl, z_b0, z_b1, z_b2, b_and1c, b_and1z, if_true, if_false, nI_add, pk_mul, b_cl, b_lt, b_le, b_eq, b_eq0, b_le0, b_0lt, b_0le, b_lt0]
            rw [if_neg (by omega)]
            rfl
    · have ec : m 236 (353 + 3 * n) = 20 := by unfold r_c1 at hc; omega
      have e1 := i1 c
      rw [if_pos c] at hd
      rw [if_neg (by omega), if_neg (by omega), if_pos c] at hW2
      have fe := hf2 (e - 1) (by omega)
      rw [show e - 1 - (e - 1) = 0 by omega] at fe
      refine ⟨k - 1, [.ref 234, .int (nI t), .int (nI e), .int (nI (n + 1)), .int (nI (353 + 3 * n))], b_h (b_r m 253 (b_s f (e - 1) (b_b (!W.testBit 0)))) j w, by omega, ⟨n + 1, _, b_s f (e - 1) (b_b (!W.testBit 0)), by omega, by rw [hd], rfl, ?_⟩, ?_⟩
      · intro q hq
        rw [hd] at hq ⊢
        rw [hW2, Nat.testBit_xor, z_tb1]
        by_cases c2 : q = e - 1
        · subst c2
          rw [b_ss, show e - 1 - (e - 1) = 0 by omega]
          simp
        · rw [b_sn c2, hf2 q hq, decide_eq_false (show ¬ e - 1 - q = 0 by omega), Bool.xor_false]
      · cases hb0 : W.testBit 0 with
        | true =>
          rw [hb0] at fe
          simp (disch := omega) only [h2, hen, ec, b_sub, fe, b_bz253f, b_bz253t, true_or, Nat.one_ne_zero, ↓bc_234, ↓br_234_6, ↓bc_236, ↓bx_236, bl_236, ↓br_234_50, ↓bc_253, ↓bx_253, bl_253, bk_253, ↓b_t0, ↓b_t1, ↓b_t2, ↓b_t3, ↓b_t4, ↓b_t5, ↓b_t6, Nat.zero_add, Nat.le_refl, b_rs, b_rn, b_r2, b_ss, b_sn, b_bt, b_bf, b_b0, b_b1, b_bw, b_shl, b_or, b_iv, b_jv, b_sI, b_sJ, ↓z_hl, z_b0, z_b1, z_b2, b_and1c, b_and1z, if_true, if_false, nI_add, pk_mul, b_cl, b_lt, b_le, b_eq, b_eq0, b_le0, b_0lt, b_0le, b_lt0]
          rw [if_neg (by omega)]
          rfl
        | false =>
          rw [hb0] at fe
          simp (disch := omega) only [h2, hen, ec, b_sub, fe, b_bz253f, b_bz253t, true_or, Nat.one_ne_zero, ↓bc_234, ↓br_234_6, ↓bc_236, ↓bx_236, bl_236, ↓br_234_50, ↓bc_253, ↓bx_253, bl_253, bk_253, ↓b_t0, ↓b_t1, ↓b_t2, ↓b_t3, ↓b_t4, ↓b_t5, ↓b_t6, Nat.zero_add, Nat.le_refl, b_rs, b_rn, b_r2, b_ss, b_sn, b_bt, b_bf, b_b0, b_b1, b_bw, b_shl, b_or, b_iv, b_jv, b_sI, b_sJ, ↓z_hl, z_b0, z_b1, z_b2, b_and1c, b_and1z, if_true, if_false, nI_add, pk_mul, b_cl, b_lt, b_le, b_eq, b_eq0, b_le0, b_0lt, b_0le, b_lt0]
          rw [if_neg (by omega)]
          rfl
    · have hne : ¬ p n = 9 ∧ ¬ p n = 10 ∧ ¬ p n = 11 := by omega
      rw [if_neg hne.2.2, if_neg (show ¬ (p n = 9 ∨ p n = 10) by omega)] at hd
      rw [if_neg hne.1, if_neg hne.2.1, if_neg hne.2.2] at hW2
      have i4 := g7 (n + 1) (by omega)
      rw [hd] at i4
      have ec : m 236 (353 + 3 * n) ≤ 6 := by unfold r_c1 at hc; omega
      have ec0 : ¬ m 236 (353 + 3 * n) = 20 := by omega
      have ec1 : ¬ m 236 (353 + 3 * n) = 21 := by omega
      have ec2 : ¬ m 236 (353 + 3 * n) = 22 := by omega
      refine ⟨k - 1, [.ref 234, .int (nI t), .int (nI (e + 1)), .int (nI (n + 1)), .int (nI (353 + 3 * n))], b_h (b_r m 253 (b_s f e (b_b (w_leaf (m 236) t (p n) (nm n) (nb n))))) j w, by omega, ⟨n + 1, _, b_s f e (b_b (w_leaf (m 236) t (p n) (nm n) (nb n))), by omega, by rw [hd], rfl, ?_⟩, ?_⟩
      · intro q hq
        rw [hd] at hq ⊢
        rw [hW2]
        by_cases c2 : q = e
        · subst c2
          rw [b_ss, show q + 1 - 1 - q = 0 by omega, Nat.testBit_or, z_tb20, z_tbb]
          simp
        · rw [b_sn c2, hf2 q (by omega)]
          obtain ⟨z, hz⟩ : ∃ z, e - 1 - q = z := ⟨_, rfl⟩
          rw [hz, show e + 1 - 1 - q = z + 1 by omega, Nat.testBit_or, z_tb2, z_tbb]
          simp
      · have s1 := s_Mo_isLeaf (X := X) (tx := tx) (D := d) (m := b_r m 253 f) (j := j) (w := w) (by rw [b_rn (by decide)]; exact hS) (by rw [b_rn (by decide)]; exact hI) (by omega) (t := t) (p := p n) (nm := nm n) (nb := nb n) (by rw [b_rn (by decide)]; exact ht) (by rw [b_rn (by decide)]; exact hc) c
        rw [b_rn (by decide)] at s1
        simp (disch := omega) only [h2, hen, s1, b_bz253, true_or, ↓bc_234, ↓br_234_6, ↓bc_236, ↓bx_236, bl_236, ↓br_234_50, ↓bc_253, ↓bx_253, bl_253, bk_253, ↓b_t0, ↓b_t1, ↓b_t2, ↓b_t3, ↓b_t4, ↓b_t5, ↓b_t6, Nat.zero_add, Nat.le_refl, b_rs, b_rn, b_r2, b_ss, b_sn, b_bt, b_bf, b_b0, b_b1, b_bw, b_shl, b_or, b_iv, b_jv, b_sI, b_sJ, ↓z_hl, z_b0, z_b1, z_b2, b_and1c, b_and1z, if_true, if_false, nI_add, pk_mul, b_cl, b_lt, b_le, b_eq, b_eq0, b_le0, b_0lt, b_0le, b_lt0]
        rw [if_neg (by omega), if_neg ec0, if_neg ec1, if_neg ec2]
end SE3
