/-! TEXTS: what is taken at a token; the reference's side -/
theorem w_wl_inj : ∀ a, a < 19 → ∀ c, c < 19 → w_wl a = w_wl c → a = c := by decide +kernel
theorem w_kyn_eq {L : Nat} : ∀ n k, n ≤ 19 → k < n → w_wl k = L → w_kyn L n = k
  | 0, k, _, hk, _ => absurd hk (Nat.not_lt_zero k)
  | n + 1, k, hn, hk, h => by
    have h1 : w_kyn L (n + 1) = if w_wl n = L then n else w_kyn L n := rfl
    rw [h1]
    by_cases c : w_wl n = L
    · rw [if_pos c]
      exact w_wl_inj n (by omega) k (by omega) (c.trans h.symm)
    · rw [if_neg c]
      have : k ≠ n := fun g => c (by rw [← g]; exact h)
      exact w_kyn_eq n k (by omega) (by omega) h
theorem w_ky_iff {b : Nat → Nat} {n q p k : Nat} (hk : k < 19) : w_ky b n q p = k ↔ (w_kd b n q p = 1 ∧ w_wl k = w_le b n q p) := by
  unfold w_ky
  by_cases c : w_kd b n q p = 1
  · rw [if_pos c]
    constructor
    · intro h
      rcases w_kyn_lt (L := w_le b n q p) 19 with g | g
      · omega
      · exact ⟨c, by rw [← h]; exact g.2⟩
    · intro h
      exact w_kyn_eq 19 k (by omega) hk h.2
  · rw [if_neg c]
    exact ⟨fun h => by omega, fun h => absurd h.1 c⟩
theorem w_ky_none {b : Nat → Nat} {n q p : Nat} (hk : w_kd b n q p = 1) : w_ky b n q p = 4294967295 ↔ ∀ k, k < 19 → w_wl k ≠ w_le b n q p := by
  constructor
  · intro h k hk2 g
    have := (w_ky_iff (b := b) (n := n) (q := q) (p := p) hk2).mpr ⟨hk, g⟩
    omega
  · intro h
    rcases w_ky_lt (b := b) (n := n) (q := q) (p := p) with g | g
    · exact g
    · have := (w_ky_iff (b := b) (n := n) (q := q) (p := p) g).mp rfl
      exact absurd this.2 (h _ g)
theorem w_conv_lt : ∀ k L, L < 32 ^ k → w_conv L < 256 ^ k
  | 0, L, h => by
    have : L = 0 := by
      have : (32 : Nat) ^ 0 = 1 := rfl
      omega
    rw [this, w_conv_0]
    decide
  | k + 1, L, h => by
    rw [Nat.pow_succ] at h
    rw [Nat.pow_succ]
    have hl : w_conv L = if h : L = 0 then 0 else w_conv (L / 32) * 256 + (L % 32 + 96) := by rw [w_conv]
    rw [hl]
    have h2 : 0 < 256 ^ k := Nat.pow_pos (by decide)
    by_cases c : L = 0
    · rw [dif_pos c]; omega
    · rw [dif_neg c]
      have ih := w_conv_lt k (L / 32) (by omega)
      omega
theorem w_conv_b {L : Nat} (h : L < 34359738368) : w_conv L < 9223372036854775808 := by
  have h1 := w_conv_lt 7 L (by have : (32 : Nat) ^ 7 = 34359738368 := by decide
                               omega)
  have h2 : (256 : Nat) ^ 7 = 72057594037927936 := by decide
  omega
/-- the first of these -/
def w_fd (g : Nat → Nat) (L many : Nat) : Nat := if z_fst (fun k => decide (g k = L)) many 0 < many then z_fst (fun k => decide (g k = L)) many 0 else 4294967295
theorem w_fd_spec {g : Nat → Nat} {L many : Nat} : (w_fd g L many = 4294967295 ∧ ∀ k, k < many → g k ≠ L) ∨ (w_fd g L many < many ∧ g (w_fd g L many) = L ∧ ∀ k, k < w_fd g L many → g k ≠ L) := by
  obtain ⟨h1, h2, h3, h4⟩ := z_fst_spec (fun k => decide (g k = L)) many 0
  unfold w_fd
  by_cases c : z_fst (fun k => decide (g k = L)) many 0 < many
  · rw [if_pos c]
    exact Or.inr ⟨c, of_decide_eq_true (h4 (by omega)), fun k hk => of_decide_eq_false (h3 k (Nat.zero_le _) hk)⟩
  · rw [if_neg c]
    exact Or.inl ⟨rfl, fun k hk => of_decide_eq_false (h3 k (Nat.zero_le _) (by omega))⟩
def k_isn (b : Nat → Nat) (n q p : Nat) : Bool := decide (w_kd b n q p = 1 ∧ w_ky b n q p = 4294967295)
/-- a name of one sort is looked for; taken; a new one -/
def k_look (b : Nat → Nat) (n q : Nat) (g : Nat → Nat) (many p : Nat) : Except (Nat × Nat) Nat := if k_isn b n q p = true then (if w_fd g (w_conv (w_le b n q p)) many = 4294967295 then .error (3, w_pl b n q p) else .ok (w_fd g (w_conv (w_le b n q p)) many)) else .error (1, w_pl b n q p)
def y_X (m j : Nat → Nat → Nat) (b : Nat → Nat) (n q : Nat) : Prop := n ≤ 940 ∧ q ≤ 940 ∧ (∀ x, x < n → m 235 x % 256 = b x) ∧ ∀ k, k < 19 → j 240 k = w_conv (w_wl k)
theorem y_X_b {m j : Nat → Nat → Nat} {b : Nat → Nat} {n q : Nat} (h : y_X m j b n q) : ∀ x, x < n → b x < 256 := fun x hx => by rw [← h.2.2.1 x hx]; exact Nat.mod_lt _ (by decide)
theorem y_X_fr {m m2 j j2 : Nat → Nat → Nat} {b : Nat → Nat} {n q : Nat} (h : y_X m j b n q) (h1 : m2 235 = m 235) (h2 : j2 240 = j 240) : y_X m2 j2 b n q := by
  unfold y_X at h ⊢
  rw [h1, h2]
  exact h
/-- no fault; what was taken may lie in 18 -/
def o_M (m m2 j j2 : Nat → Nat → Nat) (b : Nat → Nat) (n q p : Nat) : Prop := l_M m2 j2 b n q p ∧ p ≤ n ∧ (∀ c, c ≠ 234 → m2 c = m c) ∧ (∀ c, c ≠ 234 → j2 c = j c) ∧ ∀ k, k ≠ 4 → k ≠ 11 → k ≠ 12 → k ≠ 13 → k ≠ 14 → k ≠ 18 → m2 234 k = m 234 k
def x_M (m m2 j j2 : Nat → Nat → Nat) (e : Nat × Nat) : Prop := m2 234 15 = e.1 ∧ m2 234 16 = e.2 ∧ (∀ c, c ≠ 234 → m2 c = m c) ∧ (∀ c, c ≠ 234 → j2 c = j c) ∧ ∀ k, k ≠ 4 → k ≠ 11 → k ≠ 12 → k ≠ 13 → k ≠ 14 → k ≠ 15 → k ≠ 16 → k ≠ 18 → m2 234 k = m 234 k
section TM
variable {X : Nat × (Nat → Int32)} {tx : List Int32} {D : Nat} {m j : Nat → Nat → Nat} {w : (Nat × Nat) × Bool} {b : Nat → Nat} {n q p : Nat}
theorem w_kr_lt {k : Nat} : w_kr k ≤ 4 := by
  unfold w_kr
  split
  · decide
  · split
    · decide
    · split
      · decide
      · split <;> decide
theorem w_kr_1 {k : Nat} : w_kr k = 1 ↔ k = 1 := by
  unfold w_kr
  constructor
  · intro h
    split at h
    · omega
    · split at h
      · assumption
      · split at h
        · omega
        · split at h <;> omega
  · intro h; subst h; rfl
theorem w_kr_2 {k : Nat} : w_kr k = 2 ↔ k = 2 := by
  unfold w_kr
  constructor
  · intro h
    split at h
    · omega
    · split at h
      · omega
      · split at h
        · assumption
        · split at h <;> omega
  · intro h; subst h; rfl
theorem w_kr_0 {k : Nat} : w_kr k = 0 ↔ k = 3 := by
  unfold w_kr
  constructor
  · intro h
    split at h
    · assumption
    · split at h
      · omega
      · split at h
        · omega
        · split at h <;> omega
  · intro h; subst h; rfl
theorem w_kr_3 {k : Nat} : w_kr k = 3 ↔ 5 ≤ k := by
  unfold w_kr
  constructor
  · intro h
    split at h
    · omega
    · split at h
      · omega
      · split at h
        · omega
        · split at h <;> omega
  · intro h
    rw [if_neg (by omega), if_neg (by omega), if_neg (by omega), if_neg (by omega)]
theorem s_Mo_bad (h : l_M m j b n q p) (hD : 1 ≤ D) {k : Nat} : a_ex X tx a_T D 212 [.ref 234, .int (nI k)] (b_h m j w) = some ((b_h (b_r m 234 (b_s (b_s (m 234) 15 k) 16 (w_pl b n q p))) j w), some (.int (nI (0)))) := by
  obtain ⟨d, rfl⟩ : ∃ d, D = d + 1 := ⟨D - 1, by omega⟩
  rw [e_Mo_bad, q_Mo_bad_0]
  have h3 := l_M_at h
  simp (disch := omega) only [h3, ↓bc_234, ↓b_t0, ↓b_t1, ↓b_t2, ↓b_t3, ↓b_t4, ↓b_t5, ↓b_t6, Nat.zero_add, Nat.le_refl, b_rs, b_rn, b_r2, b_ss, b_sn, b_bt, b_bf, b_b0, b_b1, b_bw, b_shl, b_or, b_iv, b_jv, b_sI, b_sJ, ↓z_hl, z_b0, z_b1, z_b2, b_and1c, b_and1z, if_true, if_false, nI_add, pk_mul, b_cl, b_lt, b_le, b_eq, b_eq0, b_le0, b_0lt, b_0le, b_lt0]
theorem x_M_bad {k : Nat} : x_M m (b_r m 234 (b_s (b_s (m 234) 15 k) 16 (w_pl b n q p))) j j (k, w_pl b n q p) :=
  ⟨by rw [b_rs, b_sn (by decide), b_ss], by rw [b_rs, b_ss], fun c hc => b_rn hc, fun _ _ => rfl, fun k _ _ _ _ _ h1 h2 _ => by rw [b_rs, b_sn h2, b_sn h1]⟩
theorem s_Mo_isWord (hX : y_X m j b n q) (h : l_M m j b n q p) (hD : 1 ≤ D) {k W : Nat} (hk : k < 19) (hW : W = w_conv (w_wl k)) : a_ex X tx a_T D 213 [.ref 234, .long (lN W)] (b_h m j w) = some (b_h m j w, some (.int (nI (b_b (decide (w_ky b n q p = k)))))) := by
  obtain ⟨d, rfl⟩ : ∃ d, D = d + 1 := ⟨D - 1, by omega⟩
  rw [e_Mo_isWord, q_Mo_isWord_0]
  have h1 := l_M_tk h
  have hkr := w_kr_lt (k := w_kd b n q p)
  have hWb := w_conv_b (w_wl_lt k hk)
  rw [← hW] at hWb
  by_cases c : w_kd b n q p = 1
  · have h2 := l_M_wo h c
    have h3 := w_conv_b (w_le_lt (y_X_b hX) c)
    have c1 := w_kr_1.mpr c
    by_cases c2 : w_wl k = w_le b n q p
    · rw [decide_eq_true ((w_ky_iff hk).mpr ⟨c, c2⟩)]
      simp (disch := omega) only [h1, h2, b_lcmp, ↓bc_234, ↓b_t0, ↓b_t1, ↓b_t2, ↓b_t3, ↓b_t4, ↓b_t5, ↓b_t6, Nat.zero_add, Nat.le_refl, b_rs, b_rn, b_r2, b_ss, b_sn, b_bt, b_bf, b_b0, b_b1, b_bw, b_shl, b_or, b_iv, b_jv, b_sI, b_sJ, ↓z_hl, z_b0, z_b1, z_b2, b_and1c, b_and1z, if_true, if_false, nI_add, pk_mul, b_cl, b_lt, b_le, b_eq, b_eq0, b_le0, b_0lt, b_0le, b_lt0]
      rw [if_pos c1, if_pos (by rw [hW, c2])]
    · rw [decide_eq_false (fun g => c2 ((w_ky_iff hk).mp g).2)]
      simp (disch := omega) only [h1, h2, b_lcmp, ↓bc_234, ↓b_t0, ↓b_t1, ↓b_t2, ↓b_t3, ↓b_t4, ↓b_t5, ↓b_t6, Nat.zero_add, Nat.le_refl, b_rs, b_rn, b_r2, b_ss, b_sn, b_bt, b_bf, b_b0, b_b1, b_bw, b_shl, b_or, b_iv, b_jv, b_sI, b_sJ, ↓z_hl, z_b0, z_b1, z_b2, b_and1c, b_and1z, if_true, if_false, nI_add, pk_mul, b_cl, b_lt, b_le, b_eq, b_eq0, b_le0, b_0lt, b_0le, b_lt0]
      rw [if_pos c1, if_neg (fun g => c2 (w_conv_inj _ _ (by rw [← hW, g])))]
  · rw [decide_eq_false (fun g => c ((w_ky_iff hk).mp g).1)]
    simp (disch := omega) only [h1, ↓bc_234, ↓b_t0, ↓b_t1, ↓b_t2, ↓b_t3, ↓b_t4, ↓b_t5, ↓b_t6, Nat.zero_add, Nat.le_refl, b_rs, b_rn, b_r2, b_ss, b_sn, b_bt, b_bf, b_b0, b_b1, b_bw, b_shl, b_or, b_iv, b_jv, b_sI, b_sJ, ↓z_hl, z_b0, z_b1, z_b2, b_and1c, b_and1z, if_true, if_false, nI_add, pk_mul, b_cl, b_lt, b_le, b_eq, b_eq0, b_le0, b_0lt, b_0le, b_lt0]
    rw [if_neg (fun g => c (w_kr_1.mp g))]
theorem s_Mo_isSign (hX : y_X m j b n q) (h : l_M m j b n q p) (hD : 1 ≤ D) {c : Nat} (hc5 : 5 ≤ c) (hc : c < 256) : a_ex X tx a_T D 214 [.ref 234, .int (nI c)] (b_h m j w) = some ((b_h m j w), some (.int (nI (b_b (decide (w_kd b n q p = c)))))) := by
  obtain ⟨d, rfl⟩ : ∃ d, D = d + 1 := ⟨D - 1, by omega⟩
  rw [e_Mo_isSign, q_Mo_isSign_0]
  have h1 := l_M_tk h
  have hkr := w_kr_lt (k := w_kd b n q p)
  have hkl := w_kd_lt (n := n) (q := q) (p := p) (y_X_b hX)
  by_cases c3 : 5 ≤ w_kd b n q p
  · have h2 := l_M_sg h c3
    have c1 := w_kr_3.mpr c3
    by_cases c2 : w_kd b n q p = c
    · rw [decide_eq_true c2]
      simp (disch := omega) only [h1, h2, ↓bc_234, ↓b_t0, ↓b_t1, ↓b_t2, ↓b_t3, ↓b_t4, ↓b_t5, ↓b_t6, Nat.zero_add, Nat.le_refl, b_rs, b_rn, b_r2, b_ss, b_sn, b_bt, b_bf, b_b0, b_b1, b_bw, b_shl, b_or, b_iv, b_jv, b_sI, b_sJ, ↓z_hl, z_b0, z_b1, z_b2, b_and1c, b_and1z, if_true, if_false, nI_add, pk_mul, b_cl, b_lt, b_le, b_eq, b_eq0, b_le0, b_0lt, b_0le, b_lt0]
      rw [if_pos c1, if_pos c2]
    · rw [decide_eq_false c2]
      simp (disch := omega) only [h1, h2, ↓bc_234, ↓b_t0, ↓b_t1, ↓b_t2, ↓b_t3, ↓b_t4, ↓b_t5, ↓b_t6, Nat.zero_add, Nat.le_refl, b_rs, b_rn, b_r2, b_ss, b_sn, b_bt, b_bf, b_b0, b_b1, b_bw, b_shl, b_or, b_iv, b_jv, b_sI, b_sJ, ↓z_hl, z_b0, z_b1, z_b2, b_and1c, b_and1z, if_true, if_false, nI_add, pk_mul, b_cl, b_lt, b_le, b_eq, b_eq0, b_le0, b_0lt, b_0le, b_lt0]
      rw [if_pos c1, if_neg c2]
  · rw [decide_eq_false (by omega)]
    simp (disch := omega) only [h1, ↓bc_234, ↓b_t0, ↓b_t1, ↓b_t2, ↓b_t3, ↓b_t4, ↓b_t5, ↓b_t6, Nat.zero_add, Nat.le_refl, b_rs, b_rn, b_r2, b_ss, b_sn, b_bt, b_bf, b_b0, b_b1, b_bw, b_shl, b_or, b_iv, b_jv, b_sI, b_sJ, ↓z_hl, z_b0, z_b1, z_b2, b_and1c, b_and1z, if_true, if_false, nI_add, pk_mul, b_cl, b_lt, b_le, b_eq, b_eq0, b_le0, b_0lt, b_0le, b_lt0]
    rw [if_neg (fun g => c3 (w_kr_3.mp g))]
theorem s_Mo_nextT (hX : y_X m j b n q) (h : l_M m j b n q p) (hin : w_pb2 b n q p < min n q) (hD : 2 ≤ D) : ∃ m2 j2, a_ex X tx a_T D 211 [.ref 234] (b_h m j w) = some (b_h m2 j2 w, none) ∧ o_M m m2 j j2 b n q (w_nx b n q p) ∧ m2 234 18 = m 234 18 := by
  obtain ⟨x1, x2, x3, x4⟩ := hX
  obtain ⟨a1, a2⟩ := w_nx_in hin
  obtain ⟨m2, j2, e1, e2, e3⟩ := s_Mo_next (X := X) (tx := tx) (D := D) (m := m) (j := j) (w := w) hD (b := b) (l_M_sz h) (l_M_li h) (l_M_nx h hin) x1 x2 a2 x3
  exact ⟨m2, j2, e1, ⟨e2, a2, e3.1, e3.2.1, fun k h1 h2 h3 h4 h5 _ => e3.2.2 k h1 h2 h3 h4 h5⟩, e3.2.2 18 (by decide) (by decide) (by decide) (by decide) (by decide)⟩
theorem s_Mo_sign (hX : y_X m j b n q) (h : l_M m j b n q p) (hD : 3 ≤ D) {c : Nat} (hc5 : 5 ≤ c) (hc : c < 256) : match k_sign b n q c p with
    | .ok p2 => ∃ m2 j2, a_ex X tx a_T D 215 [.ref 234, .int (nI c)] (b_h m j w) = some (b_h m2 j2 w, some (.int (nI 1))) ∧ o_M m m2 j j2 b n q p2
    | .error e => ∃ m2 j2, a_ex X tx a_T D 215 [.ref 234, .int (nI c)] (b_h m j w) = some (b_h m2 j2 w, some (.int (nI 0))) ∧ x_M m m2 j j2 e := by
  obtain ⟨d, rfl⟩ : ∃ d, D = d + 1 := ⟨D - 1, by omega⟩
  have s1 := s_Mo_isSign (X := X) (tx := tx) (D := d) (m := m) (j := j) (w := w) hX h (by omega) (c := c) hc5 hc
  have s2 := s_Mo_bad (X := X) (tx := tx) (D := d) (m := m) (j := j) (w := w) h (by omega) (k := 1)
  unfold k_sign
  by_cases cc : w_kd b n q p = c
  · rw [if_pos cc]
    rw [decide_eq_true cc] at s1
    obtain ⟨m2, j2, e1, e2, _⟩ := s_Mo_nextT (X := X) (tx := tx) (D := d) (m := m) (j := j) (w := w) hX h (w_kd_in (by omega) (by omega)) (by omega)
    refine ⟨m2, j2, ?_, e2⟩
    rw [e_Mo_sign, q_Mo_sign_0]
    simp (disch := omega) only [s1, e1, Nat.one_ne_zero, ↓bc_234, ↓b_t0, ↓b_t1, ↓b_t2, ↓b_t3, ↓b_t4, ↓b_t5, ↓b_t6, Nat.zero_add, Nat.le_refl, b_rs, b_rn, b_r2, b_ss, b_sn, b_bt, b_bf, b_b0, b_b1, b_bw, b_shl, b_or, b_iv, b_jv, b_sI, b_sJ, ↓z_hl, z_b0, z_b1, z_b2, b_and1c, b_and1z, if_true, if_false, nI_add, pk_mul, b_cl, b_lt, b_le, b_eq, b_eq0, b_le0, b_0lt, b_0le, b_lt0]
  · rw [if_neg cc]
    rw [decide_eq_false cc] at s1
    refine ⟨_, j, ?_, x_M_bad⟩
    rw [e_Mo_sign, q_Mo_sign_0]
    simp (disch := omega) only [s1, s2, ↓bc_234, ↓b_t0, ↓b_t1, ↓b_t2, ↓b_t3, ↓b_t4, ↓b_t5, ↓b_t6, Nat.zero_add, Nat.le_refl, b_rs, b_rn, b_r2, b_ss, b_sn, b_bt, b_bf, b_b0, b_b1, b_bw, b_shl, b_or, b_iv, b_jv, b_sI, b_sJ, ↓z_hl, z_b0, z_b1, z_b2, b_and1c, b_and1z, if_true, if_false, nI_add, pk_mul, b_cl, b_lt, b_le, b_eq, b_eq0, b_le0, b_0lt, b_0le, b_lt0]
theorem s_Mo_isName (hX : y_X m j b n q) (h : l_M m j b n q p) (hD : 1 ≤ D) : a_ex X tx a_T D 216 [.ref 234] (b_h m j w) = some ((b_h m j w), some (.int (nI (b_b (k_isn b n q p))))) := by
  obtain ⟨d, rfl⟩ : ∃ d, D = d + 1 := ⟨D - 1, by omega⟩
  rw [e_Mo_isName, q_Mo_isName_0]
  have h1 := l_M_tk h
  have hkr := w_kr_lt (k := w_kd b n q p)
  have loop : ∀ a0 : Bool, (a0 = true → w_kd b n q p = 1) → a_go X tx (a_ex X tx a_T d) k_Mo_isName_0 (a_f1 + 1) 10 [.ref 234, .int (nI (b_b a0)), .int (nI 0)] (b_h m j w) = some (b_h m j w, some (.int (nI (b_b (a0 && z_all (fun k => decide (w_wl k ≠ w_le b n q p)) 19))))) := fun a0 ha => by
    refine z_run (Q := fun r => r = some (b_h m j w, some (.int (nI (b_b (a0 && z_all (fun k => decide (w_wl k ≠ w_le b n q p)) 19)))))) (fun c L g => ∃ k, c + k = 19 ∧ L = [.ref 234, .int (nI (b_b (a0 && z_all (fun k => decide (w_wl k ≠ w_le b n q p)) k))), .int (nI k)] ∧ g = b_h m j w) 0 ?_ 19 _ _ ⟨0, by omega, by rw [show z_all (fun k => decide (w_wl k ≠ w_le b n q p)) 0 = true from rfl, Bool.and_true], rfl⟩ _ (z_fu (by omega))
    rintro c L g ⟨k, hc, rfl, rfl⟩ f _
    rw [l_Mo_isName_10, q_Mo_isName_10]
    by_cases c1 : k = 19
    · left
      subst c1
      simp (disch := omega) only [↓bc_234, ↓br_234_10, ↓bc_240, ↓bx_240, bl_240, ↓b_t0, ↓b_t1, ↓b_t2, ↓b_t3, ↓b_t4, ↓b_t5, ↓b_t6, Nat.zero_add, Nat.le_refl, b_rs, b_rn, b_r2, b_ss, b_sn, b_bt, b_bf, b_b0, b_b1, b_bw, b_shl, b_or, b_iv, b_jv, b_sI, b_sJ, ↓z_hl, z_b0, z_b1, z_b2, b_and1c, b_and1z, if_true, if_false, nI_add, pk_mul, b_cl, b_lt, b_le, b_eq, b_eq0, b_le0, b_0lt, b_0le, b_lt0]
    · right
      have hw : z_all (fun k => decide (w_wl k ≠ w_le b n q p)) (k + 1) = (z_all (fun k => decide (w_wl k ≠ w_le b n q p)) k && decide (w_wl k ≠ w_le b n q p)) := rfl
      cases hs : (a0 && z_all (fun k => decide (w_wl k ≠ w_le b n q p)) k) with
      | false =>
        refine ⟨c - 1, [.ref 234, .int (nI 0), .int (nI (k + 1))], _, by omega, ⟨k + 1, by omega, by rw [hw, ← Bool.and_assoc, hs]; rfl, rfl⟩, ?_⟩
        simp (disch := omega) only [↓bc_234, ↓br_234_10, ↓bc_240, ↓bx_240, bl_240, ↓b_t0, ↓b_t1, ↓b_t2, ↓b_t3, ↓b_t4, ↓b_t5, ↓b_t6, Nat.zero_add, Nat.le_refl, b_rs, b_rn, b_r2, b_ss, b_sn, b_bt, b_bf, b_b0, b_b1, b_bw, b_shl, b_or, b_iv, b_jv, b_sI, b_sJ, ↓z_hl, z_b0, z_b1, z_b2, b_and1c, b_and1z, if_true, if_false, nI_add, pk_mul, b_cl, b_lt, b_le, b_eq, b_eq0, b_le0, b_0lt, b_0le, b_lt0]
        rw [if_neg (by omega)]
      | true =>
        have ha2 := ha (by rw [Bool.and_eq_true] at hs; exact hs.1)
        have h2 := l_M_wo h ha2
        have h3 := w_conv_b (w_le_lt (y_X_b hX) ha2)
        have h4 := hX.2.2.2 k (by omega)
        have h5 := w_conv_b (w_wl_lt k (by omega))
        by_cases c2 : w_wl k = w_le b n q p
        · refine ⟨c - 1, [.ref 234, .int (nI 0), .int (nI (k + 1))], _, by omega, ⟨k + 1, by omega, by rw [hw, ← Bool.and_assoc, hs, decide_eq_false (fun g => g c2)]; rfl, rfl⟩, ?_⟩
          simp (disch := omega) only [h2, h4, b_lcmp, Nat.one_ne_zero, ↓bc_234, ↓br_234_10, ↓bc_240, ↓bx_240, bl_240, ↓b_t0, ↓b_t1, ↓b_t2, ↓b_t3, ↓b_t4, ↓b_t5, ↓b_t6, Nat.zero_add, Nat.le_refl, b_rs, b_rn, b_r2, b_ss, b_sn, b_bt, b_bf, b_b0, b_b1, b_bw, b_shl, b_or, b_iv, b_jv, b_sI, b_sJ, ↓z_hl, z_b0, z_b1, z_b2, b_and1c, b_and1z, if_true, if_false, nI_add, pk_mul, b_cl, b_lt, b_le, b_eq, b_eq0, b_le0, b_0lt, b_0le, b_lt0]
          rw [if_neg (by omega), if_pos (by rw [c2])]
        · refine ⟨c - 1, [.ref 234, .int (nI 1), .int (nI (k + 1))], _, by omega, ⟨k + 1, by omega, by rw [hw, ← Bool.and_assoc, hs, decide_eq_true c2]; rfl, rfl⟩, ?_⟩
          simp (disch := omega) only [h2, h4, b_lcmp, Nat.one_ne_zero, ↓bc_234, ↓br_234_10, ↓bc_240, ↓bx_240, bl_240, ↓b_t0, ↓b_t1, ↓b_t2, ↓b_t3, ↓b_t4, ↓b_t5, ↓b_t6, Nat.zero_add, Nat.le_refl, b_rs, b_rn, b_r2, b_ss, b_sn, b_bt, b_bf, b_b0, b_b1, b_bw, b_shl, b_or, b_iv, b_jv, b_sI, b_sJ, ↓z_hl, z_b0, z_b1, z_b2, b_and1c, b_and1z, if_true, if_false, nI_add, pk_mul, b_cl, b_lt, b_le, b_eq, b_eq0, b_le0, b_0lt, b_0le, b_lt0]
          rw [if_neg (by omega), if_neg (fun g => c2 (w_conv_inj _ _ g.symm))]
  have fin : k_isn b n q p = (decide (w_kd b n q p = 1) && z_all (fun k => decide (w_wl k ≠ w_le b n q p)) 19) := by
    unfold k_isn
    by_cases c : w_kd b n q p = 1
    · rw [decide_eq_true c, Bool.true_and, Bool.eq_iff_iff, decide_eq_true_eq, z_all_iff]
      constructor
      · intro g k hk
        exact decide_eq_true ((w_ky_none c).mp g.2 k hk)
      · intro g
        exact ⟨c, (w_ky_none c).mpr fun k hk => of_decide_eq_true (g k hk)⟩
    · rw [decide_eq_false c, Bool.false_and, decide_eq_false (fun g => c g.1)]
  rw [fin]
  by_cases c : w_kd b n q p = 1
  · have := loop true (fun _ => c)
    rw [l_Mo_isName_10] at this
    rw [decide_eq_true c]
    simp (disch := omega) only [h1, ↓bc_234, ↓br_234_10, ↓bc_240, ↓bx_240, bl_240, ↓b_t0, ↓b_t1, ↓b_t2, ↓b_t3, ↓b_t4, ↓b_t5, ↓b_t6, Nat.zero_add, Nat.le_refl, b_rs, b_rn, b_r2, b_ss, b_sn, b_bt, b_bf, b_b0, b_b1, b_bw, b_shl, b_or, b_iv, b_jv, b_sI, b_sJ, ↓z_hl, z_b0, z_b1, z_b2, b_and1c, b_and1z, if_true, if_false, nI_add, pk_mul, b_cl, b_lt, b_le, b_eq, b_eq0, b_le0, b_0lt, b_0le, b_lt0]
    rw [if_pos (w_kr_1.mpr c)]
    exact this
  · have := loop false (fun g => absurd g (by decide))
    rw [l_Mo_isName_10] at this
    rw [decide_eq_false c]
    simp (disch := omega) only [h1, ↓bc_234, ↓br_234_10, ↓bc_240, ↓bx_240, bl_240, ↓b_t0, ↓b_t1, ↓b_t2, ↓b_t3, ↓b_t4, ↓b_t5, ↓b_t6, Nat.zero_add, Nat.le_refl, b_rs, b_rn, b_r2, b_ss, b_sn, b_bt, b_bf, b_b0, b_b1, b_bw, b_shl, b_or, b_iv, b_jv, b_sI, b_sJ, ↓z_hl, z_b0, z_b1, z_b2, b_and1c, b_and1z, if_true, if_false, nI_add, pk_mul, b_cl, b_lt, b_le, b_eq, b_eq0, b_le0, b_0lt, b_0le, b_lt0]
    rw [if_neg (fun g => c (w_kr_1.mp g))]
    exact this
end TM
