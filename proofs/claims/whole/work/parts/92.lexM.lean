/-! TEXTS: the reference reads a token -/
/-- the reference's word and number, of so many bytes -/
def w_wd (b : Nat → Nat) (i : Nat) : Nat → Nat
  | 0 => 0
  | k + 1 => if k < 7 then w_wd b i k * 256 + b (i + k) else w_wd b i k
def w_nm (b : Nat → Nat) (i : Nat) : Nat → Nat
  | 0 => 0
  | k + 1 => if k < 3 then 10 * w_nm b i k + b (i + k) - 48 else w_nm b i k
theorem w_wd_1 {b : Nat → Nat} {i k : Nat} : w_wd b i (k + 1) = if k < 7 then w_wd b i k * 256 + b (i + k) else w_wd b i k := rfl
theorem w_nm_1 {b : Nat → Nat} {i k : Nat} : w_nm b i (k + 1) = if k < 3 then 10 * w_nm b i k + b (i + k) - 48 else w_nm b i k := rfl
theorem w_wd_conv {b : Nat → Nat} {i : Nat} : ∀ k, k ≤ 7 → (∀ x, x < k → z_sm (b (i + x)) = true) → w_wd b i k = w_conv (w_lg b i k)
  | 0, _, _ => w_conv_0.symm
  | k + 1, hk, h => by
    have ih := w_wd_conv (b := b) (i := i) k (by omega) (fun x hx => h x (by omega))
    have h1 := h k (by omega)
    have h2 : 97 ≤ b (i + k) ∧ b (i + k) ≤ 122 := of_decide_eq_true h1
    rw [w_wd_1, if_pos (by omega), w_lg_1, if_pos h1, w_conv_s (by omega) (by omega), ih]
    omega
theorem w_nm_vg {b : Nat → Nat} {i : Nat} : ∀ k, k ≤ 3 → (∀ x, x < k → z_dg (b (i + x)) = true) → w_nm b i k = w_vg b i k
  | 0, _, _ => rfl
  | k + 1, hk, h => by
    have ih := w_nm_vg (b := b) (i := i) k (by omega) (fun x hx => h x (by omega))
    have h1 := h k (by omega)
    have h2 : 48 ≤ b (i + k) ∧ b (i + k) ≤ 57 := of_decide_eq_true h1
    rw [w_nm_1, if_pos (by omega), w_vg_1, if_pos h1, ih]
    omega
/-- all alike -/
def w_al (b : Nat → Nat) (i k : Nat) : Bool := z_all (fun x => z_sm (b (i + x)) == z_sm (b i)) k
theorem w_sum_all {c : Nat → Bool} : ∀ k, (∀ x, x < k → c x = true) → z_sum (fun x => b_b (c x)) k = k
  | 0, _ => rfl
  | k + 1, h => by
    show z_sum (fun x => b_b (c x)) k + b_b (c k) = k + 1
    rw [w_sum_all k (fun x hx => h x (by omega)), h k (by omega), b_bt]
theorem w_rk_al {b : Nat → Nat} {i k : Nat} (hk : 0 < k) (hld : ∀ x, x < k → z_ld (b (i + x)) = true) : w_rk b i (i + k) = if w_al b i k = true then (if z_sm (b i) = true then (if k ≤ 7 then 1 else 0) else (if k ≤ 3 then 2 else 0)) else 0 := by
  have hs := w_sum_ld (b := b) (i := i) k hld
  unfold w_rk
  rw [show i + k - i = k by omega]
  cases ha : w_al b i k with
  | true =>
    rw [if_pos (c := true = true) rfl]
    unfold w_al at ha
    rw [z_all_iff] at ha
    have ha : ∀ x, x < k → z_sm (b (i + x)) = z_sm (b i) := fun x hx => eq_of_beq (ha x hx)
    cases c : z_sm (b i) with
    | true =>
      have h1 : w_ns b i k = k := w_sum_all k (fun x hx => by rw [ha x hx]; exact c)
      rw [if_pos (c := true = true) rfl]
      by_cases c2 : k ≤ 7
      · rw [if_pos (c := w_nd2 b i k = 0 ∧ w_ns b i k ≤ 7) ⟨by omega, by omega⟩, if_pos c2]
      · rw [if_neg (c := w_nd2 b i k = 0 ∧ w_ns b i k ≤ 7) (fun g => by omega), if_neg (c := w_ns b i k = 0 ∧ w_nd2 b i k ≤ 3) (fun g => by omega), if_neg c2]
    | false =>
      have h1 : w_ns b i k = 0 := (z_sum_zero k).mpr (fun x hx => by rw [ha x hx, c]; rfl)
      rw [if_neg (c := false = true) (by decide), if_neg (c := w_nd2 b i k = 0 ∧ w_ns b i k ≤ 7) (fun g => by omega)]
      by_cases c2 : k ≤ 3
      · rw [if_pos (c := w_ns b i k = 0 ∧ w_nd2 b i k ≤ 3) ⟨by omega, by omega⟩, if_pos c2]
      · rw [if_neg (c := w_ns b i k = 0 ∧ w_nd2 b i k ≤ 3) (fun g => by omega), if_neg c2]
  | false =>
    rw [if_neg (c := false = true) (by decide)]
    have hex : ∃ x, x < k ∧ z_sm (b (i + x)) ≠ z_sm (b i) := by
      refine Classical.byContradiction fun g => ?_
      have := Bool.eq_false_iff.mp ha
      refine this ((z_all_iff _ _).mpr fun x hx => ?_)
      refine beq_iff_eq.mpr (Classical.byContradiction fun h => g ⟨x, hx, h⟩)
    obtain ⟨x, hx, hne⟩ := hex
    have hld0 := hld 0 hk
    have hldx := hld x hx
    rw [Nat.add_zero] at hld0
    unfold z_ld at hld0 hldx
    rw [Bool.or_eq_true] at hld0 hldx
    have p1 : w_ns b i k ≠ 0 := fun g => by
      have h := (z_sum_zero k).mp g
      have h0 := h 0 hk
      have hx2 := h x hx
      rw [Nat.add_zero] at h0
      cases c0 : z_sm (b i) with
      | true => rw [c0] at h0; exact absurd h0 (by decide)
      | false =>
        cases cx : z_sm (b (i + x)) with
        | true => rw [cx] at hx2; exact absurd hx2 (by decide)
        | false => exact hne (cx.trans c0.symm)
    have p2 : w_nd2 b i k ≠ 0 := fun g => by
      have h := (z_sum_zero k).mp g
      have h0 := h 0 hk
      have hx2 := h x hx
      rw [Nat.add_zero] at h0
      cases c0 : z_dg (b i) with
      | true => rw [c0] at h0; exact absurd h0 (by decide)
      | false =>
        cases cx : z_dg (b (i + x)) with
        | true => rw [cx] at hx2; exact absurd hx2 (by decide)
        | false =>
          rcases hld0 with q1 | q1
          · rcases hldx with q2 | q2
            · exact hne (q2.trans q1.symm)
            · rw [cx] at q2; exact absurd q2 (by decide)
          · rw [c0] at q1; exact absurd q1 (by decide)
    rw [if_neg (c := w_nd2 b i k = 0 ∧ w_ns b i k ≤ 7) (fun g => p2 g.1), if_neg (c := w_ns b i k = 0 ∧ w_nd2 b i k ≤ 3) (fun g => p1 g.1)]
/-- the reference's word for what a token is -/
def w_kr (k : Nat) : Nat := if k = 3 then 0 else if k = 1 then 1 else if k = 2 then 2 else if k = 0 ∨ k = 4 then 4 else 3
def l_M (m j : Nat → Nat → Nat) (b : Nat → Nat) (n q p : Nat) : Prop :=
  (m 234 3 = n) ∧
  (m 234 5 = q) ∧
  (w_pb2 b n q p < min n q → m 234 4 = w_nx b n q p) ∧
  (m 234 11 = w_kr (w_kd b n q p)) ∧
  (m 234 12 = w_pl b n q p) ∧
  (w_kd b n q p = 2 → m 234 14 = w_va b n q p) ∧
  (5 ≤ w_kd b n q p → m 234 14 = w_kd b n q p) ∧
  (w_kd b n q p = 1 → j 234 17 = w_conv (w_le b n q p))
theorem l_M_sz {m j : Nat → Nat → Nat} {b : Nat → Nat} {n q p : Nat} (h : l_M m j b n q p) : m 234 3 = n := h.1
theorem l_M_li {m j : Nat → Nat → Nat} {b : Nat → Nat} {n q p : Nat} (h : l_M m j b n q p) : m 234 5 = q := h.2.1
theorem l_M_nx {m j : Nat → Nat → Nat} {b : Nat → Nat} {n q p : Nat} (h : l_M m j b n q p) : w_pb2 b n q p < min n q → m 234 4 = w_nx b n q p := h.2.2.1
theorem l_M_tk {m j : Nat → Nat → Nat} {b : Nat → Nat} {n q p : Nat} (h : l_M m j b n q p) : m 234 11 = w_kr (w_kd b n q p) := h.2.2.2.1
theorem l_M_at {m j : Nat → Nat → Nat} {b : Nat → Nat} {n q p : Nat} (h : l_M m j b n q p) : m 234 12 = w_pl b n q p := h.2.2.2.2.1
theorem l_M_va {m j : Nat → Nat → Nat} {b : Nat → Nat} {n q p : Nat} (h : l_M m j b n q p) : w_kd b n q p = 2 → m 234 14 = w_va b n q p := h.2.2.2.2.2.1
theorem l_M_sg {m j : Nat → Nat → Nat} {b : Nat → Nat} {n q p : Nat} (h : l_M m j b n q p) : 5 ≤ w_kd b n q p → m 234 14 = w_kd b n q p := h.2.2.2.2.2.2.1
theorem l_M_wo {m j : Nat → Nat → Nat} {b : Nat → Nat} {n q p : Nat} (h : l_M m j b n q p) : w_kd b n q p = 1 → j 234 17 = w_conv (w_le b n q p) := h.2.2.2.2.2.2.2
/-- only where tokens are told -/
def lm_fr (m m2 j j2 : Nat → Nat → Nat) : Prop := (∀ c, c ≠ 234 → m2 c = m c) ∧ (∀ c, c ≠ 234 → j2 c = j c) ∧ (∀ k, k ≠ 4 → k ≠ 11 → k ≠ 12 → k ≠ 13 → k ≠ 14 → m2 234 k = m 234 k)
theorem lm_rf {m j : Nat → Nat → Nat} : lm_fr m m j j := ⟨fun _ _ => rfl, fun _ _ => rfl, fun _ _ _ _ _ _ => rfl⟩
theorem lm_tr {m m2 m3 j j2 j3 : Nat → Nat → Nat} (h : lm_fr m m2 j j2) (g : lm_fr m2 m3 j2 j3) : lm_fr m m3 j j3 :=
  ⟨fun c hc => (g.1 c hc).trans (h.1 c hc), fun c hc => (g.2.1 c hc).trans (h.2.1 c hc), fun k h1 h2 h3 h4 h5 => (g.2.2 k h1 h2 h3 h4 h5).trans (h.2.2 k h1 h2 h3 h4 h5)⟩
theorem lm_r {m m2 j j2 : Nat → Nat → Nat} {f : Nat → Nat} (h : lm_fr m m2 j j2) (hf : ∀ k, k ≠ 4 → k ≠ 11 → k ≠ 12 → k ≠ 13 → k ≠ 14 → f k = m2 234 k) : lm_fr m (b_r m2 234 f) j j2 :=
  ⟨fun c hc => by rw [b_rn hc]; exact h.1 c hc, h.2.1, fun k h1 h2 h3 h4 h5 => by rw [b_rs, hf k h1 h2 h3 h4 h5]; exact h.2.2 k h1 h2 h3 h4 h5⟩
theorem lm_rj {m m2 j j2 : Nat → Nat → Nat} {f g : Nat → Nat} (h : lm_fr m m2 j j2) (hf : ∀ k, k ≠ 4 → k ≠ 11 → k ≠ 12 → k ≠ 13 → k ≠ 14 → f k = m2 234 k) : lm_fr m (b_r m2 234 f) j (b_r j2 234 g) :=
  ⟨fun c hc => by rw [b_rn hc]; exact h.1 c hc, fun c hc => by rw [b_rn hc]; exact h.2.1 c hc, fun k h1 h2 h3 h4 h5 => by rw [b_rs, hf k h1 h2 h3 h4 h5]; exact h.2.2 k h1 h2 h3 h4 h5⟩
section LM
variable {X : Nat × (Nat → Int32)} {tx : List Int32} {D : Nat} {m j : Nat → Nat → Nat} {w : (Nat × Nat) × Bool}
theorem s_Mo_peek (hD : 1 ≤ D) {b : Nat → Nat} {n p : Nat} (hn : m 234 3 = n) (hp : m 234 4 = p) (hn2 : n ≤ 940) (hp2 : p ≤ 940) (hb : ∀ x, x < n → m 235 x % 256 = b x) : a_ex X tx a_T D 208 [.ref 234] (b_h m j w) = some ((b_h m j w), some (.int (nI (if p < n then b p else 4294967295)))) := by
  obtain ⟨d, rfl⟩ : ∃ d, D = d + 1 := ⟨D - 1, by omega⟩
  rw [e_Mo_peek, q_Mo_peek_0]
  by_cases c : p < n
  · have e1 : m 235 p &&& 255 = m 235 p % 256 := Nat.and_two_pow_sub_one_eq_mod (m 235 p) 8
    have e2 := hb p c
    rw [if_pos c]
    simp (disch := omega) only [hn, hp, bk_235, or_true, b_and, e1, e2, ↓bc_234, ↓br_234_1, ↓bc_235, ↓bx_235, bl_235, bk_235, ↓b_t0, ↓b_t1, ↓b_t2, ↓b_t3, ↓b_t4, ↓b_t5, ↓b_t6, Nat.zero_add, Nat.le_refl, b_rs, b_rn, b_r2, b_ss, b_sn, b_bt, b_bf, b_b0, b_b1, b_bw, b_shl, b_or, b_iv, b_jv, b_sI, b_sJ, ↓z_hl, z_b0, z_b1, z_b2, b_and1c, b_and1z, if_true, if_false, nI_add, pk_mul, b_cl, b_lt, b_le, b_eq, b_eq0, b_le0, b_0lt, b_0le, b_lt0]
    rw [if_neg (by omega)]
  · rw [if_neg c]
    simp (disch := omega) only [hn, hp, ↓bc_234, ↓br_234_1, ↓bc_235, ↓bx_235, bl_235, bk_235, ↓b_t0, ↓b_t1, ↓b_t2, ↓b_t3, ↓b_t4, ↓b_t5, ↓b_t6, Nat.zero_add, Nat.le_refl, b_rs, b_rn, b_r2, b_ss, b_sn, b_bt, b_bf, b_b0, b_b1, b_bw, b_shl, b_or, b_iv, b_jv, b_sI, b_sJ, ↓z_hl, z_b0, z_b1, z_b2, b_and1c, b_and1z, if_true, if_false, nI_add, pk_mul, b_cl, b_lt, b_le, b_eq, b_eq0, b_le0, b_0lt, b_0le, b_lt0]
    rw [if_pos (by omega)]
theorem s_Mo_isSmall (hD : 1 ≤ D) {c : Nat} (hc : c < 256) : a_ex X tx a_T D 209 [.int (nI c)] (b_h m j w) = some ((b_h m j w), some (.int (nI (b_b (z_sm c))))) := by
  obtain ⟨d, rfl⟩ : ∃ d, D = d + 1 := ⟨D - 1, by omega⟩
  rw [e_Mo_isSmall, q_Mo_isSmall_0]
  unfold z_sm
  simp (disch := omega) only [↓b_t0, ↓b_t1, ↓b_t2, ↓b_t3, ↓b_t4, ↓b_t5, ↓b_t6, Nat.zero_add, Nat.le_refl, b_rs, b_rn, b_r2, b_ss, b_sn, b_bt, b_bf, b_b0, b_b1, b_bw, b_shl, b_or, b_iv, b_jv, b_sI, b_sJ, ↓z_hl, z_b0, z_b1, z_b2, b_and1c, b_and1z, if_true, if_false, nI_add, pk_mul, b_cl, b_lt, b_le, b_eq, b_eq0, b_le0, b_0lt, b_0le, b_lt0]
  by_cases c1 : c < 97
  · rw [if_pos c1, decide_eq_false (by omega)]; rfl
  · rw [if_neg c1]
    by_cases c2 : 122 < c
    · rw [if_pos c2, decide_eq_false (by omega)]; rfl
    · rw [if_neg c2, decide_eq_true (by omega)]; rfl
theorem s_Mo_isDigit (hD : 1 ≤ D) {c : Nat} (hc : c < 256) : a_ex X tx a_T D 210 [.int (nI c)] (b_h m j w) = some ((b_h m j w), some (.int (nI (b_b (z_dg c))))) := by
  obtain ⟨d, rfl⟩ : ∃ d, D = d + 1 := ⟨D - 1, by omega⟩
  rw [e_Mo_isDigit, q_Mo_isDigit_0]
  unfold z_dg
  simp (disch := omega) only [↓b_t0, ↓b_t1, ↓b_t2, ↓b_t3, ↓b_t4, ↓b_t5, ↓b_t6, Nat.zero_add, Nat.le_refl, b_rs, b_rn, b_r2, b_ss, b_sn, b_bt, b_bf, b_b0, b_b1, b_bw, b_shl, b_or, b_iv, b_jv, b_sI, b_sJ, ↓z_hl, z_b0, z_b1, z_b2, b_and1c, b_and1z, if_true, if_false, nI_add, pk_mul, b_cl, b_lt, b_le, b_eq, b_eq0, b_le0, b_0lt, b_0le, b_lt0]
  by_cases c1 : c < 48
  · rw [if_pos c1, decide_eq_false (by omega)]; rfl
  · rw [if_neg c1]
    by_cases c2 : 57 < c
    · rw [if_pos c2, decide_eq_false (by omega)]; rfl
    · rw [if_neg c2, decide_eq_true (by omega)]; rfl
theorem s_Mo_isSmallN (hD : 1 ≤ D) : a_ex X tx a_T D 209 [.int (nI (4294967295))] (b_h m j w) = some ((b_h m j w), some (.int (nI (0)))) := by
  obtain ⟨d, rfl⟩ : ∃ d, D = d + 1 := ⟨D - 1, by omega⟩
  rw [e_Mo_isSmall, q_Mo_isSmall_0]
  rw [if_pos (by rw [b_ltn (by decide) (by decide) (by decide)]; trivial)]
  simp (disch := omega) only [↓b_t0, ↓b_t1, ↓b_t2, ↓b_t3, ↓b_t4, ↓b_t5, ↓b_t6, Nat.zero_add, Nat.le_refl, b_rs, b_rn, b_r2, b_ss, b_sn, b_bt, b_bf, b_b0, b_b1, b_bw, b_shl, b_or, b_iv, b_jv, b_sI, b_sJ, ↓z_hl, z_b0, z_b1, z_b2, b_and1c, b_and1z, if_true, if_false, nI_add, pk_mul, b_cl, b_lt, b_le, b_eq, b_eq0, b_le0, b_0lt, b_0le, b_lt0]
theorem s_Mo_isDigitN (hD : 1 ≤ D) : a_ex X tx a_T D 210 [.int (nI (4294967295))] (b_h m j w) = some ((b_h m j w), some (.int (nI (0)))) := by
  obtain ⟨d, rfl⟩ : ∃ d, D = d + 1 := ⟨D - 1, by omega⟩
  rw [e_Mo_isDigit, q_Mo_isDigit_0]
  rw [if_pos (by rw [b_ltn (by decide) (by decide) (by decide)]; trivial)]
  simp (disch := omega) only [↓b_t0, ↓b_t1, ↓b_t2, ↓b_t3, ↓b_t4, ↓b_t5, ↓b_t6, Nat.zero_add, Nat.le_refl, b_rs, b_rn, b_r2, b_ss, b_sn, b_bt, b_bf, b_b0, b_b1, b_bw, b_shl, b_or, b_iv, b_jv, b_sI, b_sJ, ↓z_hl, z_b0, z_b1, z_b2, b_and1c, b_and1z, if_true, if_false, nI_add, pk_mul, b_cl, b_lt, b_le, b_eq, b_eq0, b_le0, b_0lt, b_0le, b_lt0]
end LM
