/-! TEXTS: the reference takes numbers and names -/
def w_cf : Nat → Nat → Nat
  | 0, _ => 0
  | f + 1, L => if L = 0 then 0 else w_cf f (L / 32) * 256 + (L % 32 + 96)
theorem w_cf_eq : ∀ f L, L < 32 ^ f → w_conv L = w_cf f L
  | 0, L, h => by
    have : L = 0 := by
      have : (32 : Nat) ^ 0 = 1 := rfl
      omega
    rw [this, w_conv_0]
    rfl
  | f + 1, L, h => by
    rw [Nat.pow_succ] at h
    have hl : w_conv L = if h : L = 0 then 0 else w_conv (L / 32) * 256 + (L % 32 + 96) := by rw [w_conv]
    have h1 : w_cf (f + 1) L = if L = 0 then 0 else w_cf f (L / 32) * 256 + (L % 32 + 96) := rfl
    rw [hl, h1]
    by_cases c : L = 0
    · rw [dif_pos c, if_pos c]
    · rw [dif_neg c, if_neg c, w_cf_eq f (L / 32) (by omega)]
/-- the reference's words, as they stand in its code -/
theorem w_ww {k W : Nat} (hk : k < 19) (h : w_cf 7 (w_wl k) = W) : W = w_conv (w_wl k) := by
  rw [w_cf_eq 7 _ (by have := w_wl_lt k hk
                      have h7 : (32 : Nat) ^ 7 = 34359738368 := by decide
                      omega)]
  exact h.symm
theorem w_fd_hit {g : Nat → Nat} {L many k : Nat} (h1 : k < many) (h2 : g k = L) (h3 : ∀ i, i < k → g i ≠ L) : w_fd g L many = k := by
  rcases w_fd_spec (g := g) (L := L) (many := many) with a | a
  · exact absurd h2 (a.2 k h1)
  · rcases Nat.lt_trichotomy (w_fd g L many) k with c | c | c
    · exact absurd a.2.1 (h3 _ c)
    · exact c
    · exact absurd h2 (a.2.2 k c)
theorem w_fd_not {g : Nat → Nat} {L many : Nat} (h3 : ∀ i, i < many → g i ≠ L) : w_fd g L many = 4294967295 := by
  rcases w_fd_spec (g := g) (L := L) (many := many) with a | a
  · exact a.1
  · exact absurd a.2.1 (h3 _ a.1)
theorem w_fd_le {g : Nat → Nat} {L many : Nat} : w_fd g L many = 4294967295 ∨ w_fd g L many < many := by
  rcases w_fd_spec (g := g) (L := L) (many := many) with a | a
  · exact Or.inl a.1
  · exact Or.inr a.1
section TM2
variable {X : Nat × (Nat → Int32)} {tx : List Int32} {D : Nat} {m j : Nat → Nat → Nat} {w : (Nat × Nat) × Bool} {b : Nat → Nat} {n q p : Nat}
theorem s_Mo_takes (hX : y_X m j b n q) (h : l_M m j b n q p) (hD : 3 ≤ D) {lo hi : Nat} (hlo : lo < 2000) (hhi : hi < 2000) : match k_num b n q lo hi p with
    | .ok r => ∃ m2 j2, a_ex X tx a_T D 217 [.ref 234, .int (nI lo), .int (nI hi)] (b_h m j w) = some (b_h m2 j2 w, some (.int (nI 1))) ∧ o_M m m2 j j2 b n q r.2 ∧ m2 234 18 = r.1 ∧ lo ≤ r.1 ∧ r.1 ≤ hi ∧ r.1 < 1000
    | .error e => ∃ m2 j2, a_ex X tx a_T D 217 [.ref 234, .int (nI lo), .int (nI hi)] (b_h m j w) = some (b_h m2 j2 w, some (.int (nI 0))) ∧ x_M m m2 j j2 e := by
  obtain ⟨d, rfl⟩ : ∃ d, D = d + 1 := ⟨D - 1, by omega⟩
  have h1 := l_M_tk h
  have hkr := w_kr_lt (k := w_kd b n q p)
  have s2 := fun k => s_Mo_bad (X := X) (tx := tx) (D := d) (m := m) (j := j) (w := w) h (by omega) (k := k)
  unfold k_num
  by_cases cc : w_kd b n q p = 2
  · rw [if_pos cc]
    have h3 := l_M_va h cc
    have h4 := w_va_lt (y_X_b hX) cc
    have s3 := s_Mo_isIn (X := X) (tx := tx) (D := d) (m := m) (j := j) (w := w) (by omega) (n := w_va b n q p) (lo := lo) (hi := hi) (by omega) (by omega) (by omega)
    have cr := w_kr_2.mpr cc
    by_cases c2 : lo ≤ w_va b n q p ∧ w_va b n q p ≤ hi
    · rw [if_pos c2]
      rw [decide_eq_true c2] at s3
      have hl : l_M (b_r m 234 (b_s (m 234) 18 (w_va b n q p))) j b n q p := by
        obtain ⟨a1, a2, a3, a4, a5, a6, a7, a8⟩ := h
        refine ⟨?_, ?_, ?_, ?_, ?_, ?_, ?_, a8⟩
        all_goals rw [b_rs, b_sn (by decide)]
        all_goals assumption
      have hX2 : y_X (b_r m 234 (b_s (m 234) 18 (w_va b n q p))) j b n q := y_X_fr hX (b_rn (by decide)) rfl
      obtain ⟨m2, j2, e1, e2, e3⟩ := s_Mo_nextT (X := X) (tx := tx) (D := d) (w := w) hX2 hl (w_kd_in (by omega) (by omega)) (by omega)
      refine ⟨m2, j2, ?_, ⟨e2.1, e2.2.1, fun c hc => (e2.2.2.1 c hc).trans (b_rn hc), e2.2.2.2.1, fun k g1 g2 g3 g4 g5 g6 => (e2.2.2.2.2 k g1 g2 g3 g4 g5 g6).trans (by rw [b_rs, b_sn g6])⟩, e3.trans (by rw [b_rs, b_ss]), c2.1, c2.2, h4⟩
      rw [e_Mo_takes, q_Mo_takes_0]
      simp (disch := omega) only [h1, h3, s3, e1, Nat.one_ne_zero, ↓bc_234, ↓b_t0, ↓b_t1, ↓b_t2, ↓b_t3, ↓b_t4, ↓b_t5, ↓b_t6, Nat.zero_add, Nat.le_refl, b_rs, b_rn, b_r2, b_ss, b_sn, b_bt, b_bf, b_b0, b_b1, b_bw, b_shl, b_or, b_iv, b_jv, b_sI, b_sJ, ↓z_hl, z_b0, z_b1, z_b2, b_and1c, b_and1z, if_true, if_false, nI_add, pk_mul, b_cl, b_lt, b_le, b_eq, b_eq0, b_le0, b_0lt, b_0le, b_lt0]
      rw [if_pos cr]
    · rw [if_neg c2]
      rw [decide_eq_false c2] at s3
      refine ⟨_, j, ?_, x_M_bad⟩
      rw [e_Mo_takes, q_Mo_takes_0]
      simp (disch := omega) only [h1, h3, s2, s3, ↓bc_234, ↓b_t0, ↓b_t1, ↓b_t2, ↓b_t3, ↓b_t4, ↓b_t5, ↓b_t6, Nat.zero_add, Nat.le_refl, b_rs, b_rn, b_r2, b_ss, b_sn, b_bt, b_bf, b_b0, b_b1, b_bw, b_shl, b_or, b_iv, b_jv, b_sI, b_sJ, ↓z_hl, z_b0, z_b1, z_b2, b_and1c, b_and1z, if_true, if_false, nI_add, pk_mul, b_cl, b_lt, b_le, b_eq, b_eq0, b_le0, b_0lt, b_0le, b_lt0]
      rw [if_pos cr]
  · rw [if_neg cc]
    refine ⟨_, j, ?_, x_M_bad⟩
    rw [e_Mo_takes, q_Mo_takes_0]
    simp (disch := omega) only [h1, s2, ↓bc_234, ↓b_t0, ↓b_t1, ↓b_t2, ↓b_t3, ↓b_t4, ↓b_t5, ↓b_t6, Nat.zero_add, Nat.le_refl, b_rs, b_rn, b_r2, b_ss, b_sn, b_bt, b_bf, b_b0, b_b1, b_bw, b_shl, b_or, b_iv, b_jv, b_sI, b_sJ, ↓z_hl, z_b0, z_b1, z_b2, b_and1c, b_and1z, if_true, if_false, nI_add, pk_mul, b_cl, b_lt, b_le, b_eq, b_eq0, b_le0, b_0lt, b_0le, b_lt0]
    rw [if_neg (fun g => cc (w_kr_2.mp g))]
theorem s_Mo_find (h : l_M m j b n q p) (hb : ∀ x, x < n → b x < 256) (hk : w_kd b n q p = 1) (hD : 1 ≤ D) {fr many : Nat} {g : Nat → Nat} (hm : fr + many ≤ 60) (hn : ∀ k, k < many → j 239 (fr + k) = g k ∧ g k < 9223372036854775808) : a_ex X tx a_T D 219 [.ref 234, .int (nI fr), .int (nI many)] (b_h m j w) = some ((b_h m j w), some (.int (nI (w_fd g (w_conv (w_le b n q p)) many)))) := by
  obtain ⟨d, rfl⟩ : ∃ d, D = d + 1 := ⟨D - 1, by omega⟩
  rw [e_Mo_find, q_Mo_find_0]
  have h2 := l_M_wo h hk
  have h3 := w_conv_b (w_le_lt hb hk)
  have loop : a_go X tx (a_ex X tx a_T d) k_Mo_find_0 (a_f1 + 1) 2 [.ref 234, .int (nI fr), .int (nI many), .int (nI 0)] (b_h m j w) = some (b_h m j w, some (.int (nI (w_fd g (w_conv (w_le b n q p)) many)))) := by
    refine z_run (Q := fun r => r = some (b_h m j w, some (.int (nI (w_fd g (w_conv (w_le b n q p)) many))))) (fun c L y => ∃ k, c + k = many ∧ L = [.ref 234, .int (nI fr), .int (nI many), .int (nI k)] ∧ y = b_h m j w ∧ ∀ i, i < k → g i ≠ w_conv (w_le b n q p)) 0 ?_ many _ _ ⟨0, by omega, rfl, rfl, fun i hi => absurd hi (by omega)⟩ _ (z_fu (by omega))
    rintro c L y ⟨k, hc, rfl, rfl, hi⟩ f _
    rw [l_Mo_find_2, q_Mo_find_2]
    by_cases c1 : k = many
    · left
      subst c1
      rw [w_fd_not hi]
      simp (disch := omega) only [↓bc_234, ↓br_234_9, ↓bc_239, ↓bx_239, bl_239, ↓b_t0, ↓b_t1, ↓b_t2, ↓b_t3, ↓b_t4, ↓b_t5, ↓b_t6, Nat.zero_add, Nat.le_refl, b_rs, b_rn, b_r2, b_ss, b_sn, b_bt, b_bf, b_b0, b_b1, b_bw, b_shl, b_or, b_iv, b_jv, b_sI, b_sJ, ↓z_hl, z_b0, z_b1, z_b2, b_and1c, b_and1z, if_true, if_false, nI_add, pk_mul, b_cl, b_lt, b_le, b_eq, b_eq0, b_le0, b_0lt, b_0le, b_lt0]
    · have h4 := hn k (by omega)
      have h5 := h4.2
      have h6 := h4.1
      by_cases c2 : g k = w_conv (w_le b n q p)
      · left
        rw [w_fd_hit (by omega) c2 hi]
        simp (disch := omega) only [h2, h6, b_lcmp, ↓bc_234, ↓br_234_9, ↓bc_239, ↓bx_239, bl_239, ↓b_t0, ↓b_t1, ↓b_t2, ↓b_t3, ↓b_t4, ↓b_t5, ↓b_t6, Nat.zero_add, Nat.le_refl, b_rs, b_rn, b_r2, b_ss, b_sn, b_bt, b_bf, b_b0, b_b1, b_bw, b_shl, b_or, b_iv, b_jv, b_sI, b_sJ, ↓z_hl, z_b0, z_b1, z_b2, b_and1c, b_and1z, if_true, if_false, nI_add, pk_mul, b_cl, b_lt, b_le, b_eq, b_eq0, b_le0, b_0lt, b_0le, b_lt0]
        rw [if_neg (by omega), if_pos c2]
      · right
        refine ⟨c - 1, [.ref 234, .int (nI fr), .int (nI many), .int (nI (k + 1))], _, by omega, ⟨k + 1, by omega, rfl, rfl, fun i hi2 => by
          by_cases g1 : i = k
          · rw [g1]; exact c2
          · exact hi i (by omega)⟩, ?_⟩
        simp (disch := omega) only [h2, h6, b_lcmp, ↓bc_234, ↓br_234_9, ↓bc_239, ↓bx_239, bl_239, ↓b_t0, ↓b_t1, ↓b_t2, ↓b_t3, ↓b_t4, ↓b_t5, ↓b_t6, Nat.zero_add, Nat.le_refl, b_rs, b_rn, b_r2, b_ss, b_sn, b_bt, b_bf, b_b0, b_b1, b_bw, b_shl, b_or, b_iv, b_jv, b_sI, b_sJ, ↓z_hl, z_b0, z_b1, z_b2, b_and1c, b_and1z, if_true, if_false, nI_add, pk_mul, b_cl, b_lt, b_le, b_eq, b_eq0, b_le0, b_0lt, b_0le, b_lt0]
        rw [if_neg (by omega), if_neg (c2)]
  rw [l_Mo_find_2] at loop
  exact loop
end TM2
