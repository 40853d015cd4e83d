/-! WAS: what is unlike, the class's side -/
/-- of t is the first with this much open, among so many -/
def w_isn (s : Nat → Nat) (S k t u : Nat) : Bool := S.testBit t && !(z_any (fun u => S.testBit u && decide (s (19 + 6 * u + k) = s (19 + 6 * t + k))) u)
def w_unl (s : Nat → Nat) (S k n : Nat) : Nat := z_sum (fun t => b_b (w_isn s S k t t)) n
def w_see (s : Nat → Nat) (S k : Nat) : Nat → Nat
  | 0 => 0
  | t + 1 => if S.testBit t = true then w_see s S k t ||| 2 ^ s (19 + 6 * t + k) else w_see s S k t
theorem w_see_1 {s : Nat → Nat} {S k t : Nat} : w_see s S k (t + 1) = if S.testBit t = true then w_see s S k t ||| 2 ^ s (19 + 6 * t + k) else w_see s S k t := rfl
theorem w_see_lt {s : Nat → Nat} (hS : i_S s) {S k : Nat} (hk : k < 6) : ∀ n, n ≤ 8 → w_see s S k n < 1024
  | 0, _ => by show (0 : Nat) < 1024; decide
  | n + 1, hn => by
    have h1 := i_S_ot hS n (by omega) k hk
    rw [w_see_1]
    split
    · exact w_or_lt (w_see_lt hS hk n (by omega)) (by omega)
    · exact w_see_lt hS hk n (by omega)
theorem w_see_bt {s : Nat → Nat} {S k v : Nat} : ∀ n, (w_see s S k n).testBit v = z_any (fun u => S.testBit u && decide (s (19 + 6 * u + k) = v)) n
  | 0 => Nat.zero_testBit v
  | n + 1 => by
    have h1 : z_any (fun u => S.testBit u && decide (s (19 + 6 * u + k) = v)) (n + 1) = (z_any (fun u => S.testBit u && decide (s (19 + 6 * u + k) = v)) n || (S.testBit n && decide (s (19 + 6 * n + k) = v))) := rfl
    rw [w_see_1, h1]
    cases hb : S.testBit n with
    | true => rw [if_pos rfl, w_or_bt, w_see_bt n, Bool.true_and]
    | false => rw [if_neg (by decide), w_see_bt n, Bool.false_and, Bool.or_false]
theorem w_see_pc {s : Nat → Nat} (hS : i_S s) {S k : Nat} (hk : k < 6) : ∀ n, n ≤ 8 → w_pc (w_see s S k n) = w_unl s S k n
  | 0, _ => by show w_pc 0 = 0; decide +kernel
  | n + 1, hn => by
    have ih := w_see_pc hS (S := S) hk n (by omega)
    have hl := w_see_lt hS (S := S) hk n (by omega)
    have h1 := i_S_ot hS n (by omega) k hk
    have e1 : w_unl s S k (n + 1) = w_unl s S k n + b_b (w_isn s S k n n) := rfl
    have h2 := w_see_bt (s := s) (S := S) (k := k) (v := s (19 + 6 * n + k)) n
    rw [e1, w_see_1]
    unfold w_isn
    rw [← h2]
    cases hb : S.testBit n with
    | true =>
      rw [if_pos rfl, Bool.true_and]
      cases hc : (w_see s S k n).testBit (s (19 + 6 * n + k)) with
      | true =>
        have e2 : w_see s S k n ||| 2 ^ s (19 + 6 * n + k) = w_see s S k n := z_ext10 (w_or_lt hl (by omega)) hl fun i hi => by
          rw [w_or_bt]
          by_cases c : s (19 + 6 * n + k) = i
          · rw [← c, hc]; rfl
          · rw [decide_eq_false c, Bool.or_false]
        rw [e2, ih]; rfl
      | false =>
        rw [w_pc_or _ (by omega) _ hl hc, ih]; rfl
    | false =>
      rw [if_neg (by decide), Bool.false_and, ih]; rfl
/-- the kind of which most are unlike, of the first k, and how many -/
def w_mst (s : Nat → Nat) (S : Nat) : Nat → Nat × Nat
  | 0 => (4294967295, 0)
  | k + 1 => if (w_mst s S k).2 < w_unl s S k (s 2) then (k, w_unl s S k (s 2)) else w_mst s S k
theorem w_mst_1 {s : Nat → Nat} {S k : Nat} : w_mst s S (k + 1) = if (w_mst s S k).2 < w_unl s S k (s 2) then (k, w_unl s S k (s 2)) else w_mst s S k := rfl
theorem w_unl_le {s : Nat → Nat} {S k n : Nat} : w_unl s S k n ≤ n := by
  have := z_sum_le (g := fun t => b_b (w_isn s S k t t)) (b := 1) n (fun t _ => by have := b_b_lt (w_isn s S k t t); omega)
  unfold w_unl
  omega
theorem w_mst_le {s : Nat → Nat} {S : Nat} : ∀ k, (w_mst s S k).2 ≤ s 2 ∧ ((w_mst s S k).1 = 4294967295 ∨ (w_mst s S k).1 < k)
  | 0 => ⟨Nat.zero_le _, Or.inl rfl⟩
  | k + 1 => by
    rw [w_mst_1]
    obtain ⟨h1, h2⟩ := w_mst_le (s := s) (S := S) k
    split
    · exact ⟨w_unl_le, Or.inr (by show k < k + 1; omega)⟩
    · exact ⟨h1, by omega⟩
theorem b_mxlf {A C : Nat} (hA : A < 1000) (hC : C < 1000) : a_max (nI 0) (nI A - nI C) = nI (A - C) := by
  unfold a_max
  by_cases c : C ≤ A
  · rw [b_sub c]
    by_cases c2 : 0 < A - C
    · rw [if_pos (by rw [b_lt (by decide) (by omega)]; exact c2)]
    · rw [if_neg (by rw [b_lt (by decide) (by omega)]; exact c2), show A - C = 0 by omega]
  · rw [b_subn (by omega) (by omega), if_neg, show A - C = 0 by omega]
    rw [b_ltm (by omega) (by omega) (by decide)]
    exact fun h => h
section WA
variable {X : Nat × (Nat → Int32)} {tx : List Int32} {D : Nat} {m j : Nat → Nat → Nat} {w : (Nat × Nat) × Bool} {s : Nat → Nat}
theorem s_Fa_unlikeAmounts (hF : c_F m 4 s) (hS : i_S s) (hD : 2 ≤ D) {S k : Nat} (hs : S < 256) (hk : k < 6) : a_ex X tx a_T D 31 [.ref 4, .int (nI S), .int (nI k)] (b_h m j w) = some ((b_h m j w), some (.int (nI (w_unl s S k (s 2))))) := by
  obtain ⟨d, rfl⟩ : ∃ d, D = d + 1 := ⟨D - 1, by omega⟩
  rw [e_Fa_unlikeAmounts, q_Fa_unlikeAmounts_0]
  have hT := i_S_T hS
  have e2 := c_F4_T hF
  rw [← l_Fa_unlikeAmounts_4]
  refine z_run (Q := fun r => r = some (b_h m j w, some (.int (nI (w_unl s S k (s 2)))))) (fun q L h => ∃ t, q + t = s 2 ∧ L = [.ref 4, .int (nI S), .int (nI k), .int (nI (w_see s S k t)), .int (nI t)] ∧ h = b_h m j w) 0 ?_ (s 2) _ _ ⟨0, by omega, rfl, rfl⟩ _ (z_fu (by omega))
  rintro q L h ⟨t, hq, rfl, rfl⟩ f _
  rw [l_Fa_unlikeAmounts_4, q_Fa_unlikeAmounts_4]
  have hl := w_see_lt hS (S := S) hk t (by omega)
  by_cases c : t = s 2
  · left
    subst c
    have hp := w_see_pc hS (S := S) hk (s 2) hT
    rw [← hp]
    simp (disch := omega) only [e2, s_Ji_bitCount, ↓bc_4, ↓b_t0, ↓b_t1, ↓b_t2, ↓b_t3, ↓b_t4, ↓b_t5, ↓b_t6, Nat.zero_add, Nat.le_refl, b_rs, b_rn, b_r2, b_ss, b_sn, b_bt, b_bf, b_b0, b_b1, b_bw, b_shl, b_or, b_iv, b_jv, b_sI, b_sJ, ↓z_hl, z_b0, z_b1, z_b2, b_and1c, b_and1z, if_true, if_false, nI_add, pk_mul, b_cl, b_lt, b_le, b_eq, b_eq0, b_le0, b_0lt, b_0le, b_lt0]
  · right
    have h1 := i_S_ot hS t (by omega) k hk
    have s1 := s_Fa_firstOpen (X := X) (tx := tx) (D := d) (m := m) (j := j) (w := w) hF (by omega) (t := t) (k := k) (by omega) hk
    cases hb : S.testBit t with
    | false =>
      have e5 : w_see s S k (t + 1) = w_see s S k t := by rw [w_see_1, hb, if_neg (by decide)]
      refine ⟨q - 1, [.ref 4, .int (nI S), .int (nI k), .int (nI (w_see s S k t)), .int (nI (t + 1))], _, by omega, ⟨t + 1, by omega, by rw [e5], rfl⟩, ?_⟩
      simp (disch := omega) only [e2, s_EM_isIn, hb, ↓bc_4, ↓b_t0, ↓b_t1, ↓b_t2, ↓b_t3, ↓b_t4, ↓b_t5, ↓b_t6, Nat.zero_add, Nat.le_refl, b_rs, b_rn, b_r2, b_ss, b_sn, b_bt, b_bf, b_b0, b_b1, b_bw, b_shl, b_or, b_iv, b_jv, b_sI, b_sJ, ↓z_hl, z_b0, z_b1, z_b2, b_and1c, b_and1z, if_true, if_false, nI_add, pk_mul, b_cl, b_lt, b_le, b_eq, b_eq0, b_le0, b_0lt, b_0le, b_lt0]
      rw [if_neg (by omega)]
    | true =>
      have e5 : w_see s S k (t + 1) = w_see s S k t ||| 2 ^ s (19 + 6 * t + k) := by rw [w_see_1, hb, if_pos rfl]
      refine ⟨q - 1, [.ref 4, .int (nI S), .int (nI k), .int (nI (w_see s S k t ||| 2 ^ s (19 + 6 * t + k))), .int (nI (t + 1))], _, by omega, ⟨t + 1, by omega, by rw [e5], rfl⟩, ?_⟩
      simp (disch := omega) only [e2, s_EM_isIn, hb, s1, Nat.one_ne_zero, ↓bc_4, ↓b_t0, ↓b_t1, ↓b_t2, ↓b_t3, ↓b_t4, ↓b_t5, ↓b_t6, Nat.zero_add, Nat.le_refl, b_rs, b_rn, b_r2, b_ss, b_sn, b_bt, b_bf, b_b0, b_b1, b_bw, b_shl, b_or, b_iv, b_jv, b_sI, b_sJ, ↓z_hl, z_b0, z_b1, z_b2, b_and1c, b_and1z, if_true, if_false, nI_add, pk_mul, b_cl, b_lt, b_le, b_eq, b_eq0, b_le0, b_0lt, b_0le, b_lt0]
      rw [if_neg (by omega)]
theorem s_Fa_mostUnlike (hF : c_F m 4 s) (hS : i_S s) (hD : 3 ≤ D) {S : Nat} (hs : S < 256) : a_ex X tx a_T D 30 [.ref 4, .int (nI S)] (b_h m j w) = some ((b_h m j w), some (.int (nI ((w_mst s S (s 0)).1)))) := by
  obtain ⟨d, rfl⟩ : ∃ d, D = d + 1 := ⟨D - 1, by omega⟩
  rw [e_Fa_mostUnlike, q_Fa_mostUnlike_0]
  have hK := i_S_K hS
  have hT := i_S_T hS
  have e0 := c_F4_K hF
  rw [← l_Fa_mostUnlike_6]
  refine z_run (Q := fun r => r = some (b_h m j w, some (.int (nI (w_mst s S (s 0)).1)))) (fun q L h => ∃ k x, q + k = s 0 ∧ L = [.ref 4, .int (nI S), .int (nI (w_mst s S k).1), .int (nI (w_mst s S k).2), .int (nI k), x] ∧ h = b_h m j w) 0 ?_ (s 0) _ _ ⟨0, _, by omega, rfl, rfl⟩ _ (z_fu (by omega))
  rintro q L h ⟨k, x, hq, rfl, rfl⟩ f _
  rw [l_Fa_mostUnlike_6, q_Fa_mostUnlike_6]
  by_cases c : k = s 0
  · left
    subst c
    simp (disch := omega) only [e0, ↓bc_4, ↓b_t0, ↓b_t1, ↓b_t2, ↓b_t3, ↓b_t4, ↓b_t5, ↓b_t6, Nat.zero_add, Nat.le_refl, b_rs, b_rn, b_r2, b_ss, b_sn, b_bt, b_bf, b_b0, b_b1, b_bw, b_shl, b_or, b_iv, b_jv, b_sI, b_sJ, ↓z_hl, z_b0, z_b1, z_b2, b_and1c, b_and1z, if_true, if_false, nI_add, pk_mul, b_cl, b_lt, b_le, b_eq, b_eq0, b_le0, b_0lt, b_0le, b_lt0]
  · right
    have s1 := s_Fa_unlikeAmounts (X := X) (tx := tx) (D := d) (m := m) (j := j) (w := w) hF hS (by omega) (S := S) (k := k) hs (by omega)
    have h1 := w_unl_le (s := s) (S := S) (k := k) (n := s 2)
    obtain ⟨h2, h3⟩ := w_mst_le (s := s) (S := S) k
    by_cases c2 : (w_mst s S k).2 < w_unl s S k (s 2)
    · refine ⟨q - 1, [.ref 4, .int (nI S), .int (nI k), .int (nI (w_unl s S k (s 2))), .int (nI (k + 1)), .int (nI (w_unl s S k (s 2)))], _, by omega, ⟨k + 1, _, by omega, by rw [w_mst_1, if_pos c2], rfl⟩, ?_⟩
      simp (disch := omega) only [e0, s1, ↓bc_4, ↓b_t0, ↓b_t1, ↓b_t2, ↓b_t3, ↓b_t4, ↓b_t5, ↓b_t6, Nat.zero_add, Nat.le_refl, b_rs, b_rn, b_r2, b_ss, b_sn, b_bt, b_bf, b_b0, b_b1, b_bw, b_shl, b_or, b_iv, b_jv, b_sI, b_sJ, ↓z_hl, z_b0, z_b1, z_b2, b_and1c, b_and1z, if_true, if_false, nI_add, pk_mul, b_cl, b_lt, b_le, b_eq, b_eq0, b_le0, b_0lt, b_0le, b_lt0]
      rw [if_neg (by omega), if_neg (by omega)]
    · refine ⟨q - 1, [.ref 4, .int (nI S), .int (nI (w_mst s S k).1), .int (nI (w_mst s S k).2), .int (nI (k + 1)), .int (nI (w_unl s S k (s 2)))], _, by omega, ⟨k + 1, _, by omega, by rw [w_mst_1, if_neg c2], rfl⟩, ?_⟩
      simp (disch := omega) only [e0, s1, ↓bc_4, ↓b_t0, ↓b_t1, ↓b_t2, ↓b_t3, ↓b_t4, ↓b_t5, ↓b_t6, Nat.zero_add, Nat.le_refl, b_rs, b_rn, b_r2, b_ss, b_sn, b_bt, b_bf, b_b0, b_b1, b_bw, b_shl, b_or, b_iv, b_jv, b_sI, b_sJ, ↓z_hl, z_b0, z_b1, z_b2, b_and1c, b_and1z, if_true, if_false, nI_add, pk_mul, b_cl, b_lt, b_le, b_eq, b_eq0, b_le0, b_0lt, b_0le, b_lt0]
      rw [if_neg (by omega), if_pos (by omega)]
theorem s_Ta_at (hn : m 1 2 ≤ 940) (hD : 1 ≤ D) {i : Nat} (hi : i < m 1 2) : a_ex X tx a_T D 2 [.ref 1, .int (nI i)] (b_h m j w) = some ((b_h m j w), some (.int (nI (m 2 i)))) := by
  obtain ⟨d, rfl⟩ : ∃ d, D = d + 1 := ⟨D - 1, by omega⟩
  rw [e_Ta_at, q_Ta_at_0]
  simp (disch := omega) only [↓bc_1, ↓br_1_0, ↓bc_2, ↓bx_2, bl_2, ↓b_t0, ↓b_t1, ↓b_t2, ↓b_t3, ↓b_t4, ↓b_t5, ↓b_t6, Nat.zero_add, Nat.le_refl, b_rs, b_rn, b_r2, b_ss, b_sn, b_bt, b_bf, b_b0, b_b1, b_bw, b_shl, b_or, b_iv, b_jv, b_sI, b_sJ, ↓z_hl, z_b0, z_b1, z_b2, b_and1c, b_and1z, if_true, if_false, nI_add, pk_mul, b_cl, b_lt, b_le, b_eq, b_eq0, b_le0, b_0lt, b_0le, b_lt0]
  rw [if_neg (by omega)]
/-- which endings are told behind so many bytes -/
def w_wp (b : Nat → Nat) (K : Nat) : Nat → Nat
  | 0 => 0
  | n + 1 => w_wp b K n ||| 2 ^ b (K + n)
/-- so many bytes are as told -/
def w_wo (s : Nat → Nat) (b : Nat → Nat) : Nat → Bool := z_all (fun n => decide (b (s 0 + n) < s 3) && !((w_wp b (s 0) n).testBit (b (s 0 + n))))
theorem w_wo_1 {s b : Nat → Nat} {n : Nat} : w_wo s b (n + 1) = (w_wo s b n && (decide (b (s 0 + n) < s 3) && !((w_wp b (s 0) n).testBit (b (s 0 + n))))) := rfl
theorem w_wo_ok {s b : Nat → Nat} (hE : s 3 ≤ 10) : ∀ n, w_wo s b n = true → w_wp b (s 0) n < 2 ^ s 3 ∧ w_pc (w_wp b (s 0) n) = n
  | 0, _ => ⟨Nat.two_pow_pos _, by show w_pc 0 = 0; decide +kernel⟩
  | n + 1, h => by
    have hP : 2 ^ s 3 ≤ 1024 := Nat.pow_le_pow_right (n := 2) (by decide) hE
    rw [w_wo_1, Bool.and_eq_true, Bool.and_eq_true, decide_eq_true_eq, Bool.not_eq_true'] at h
    obtain ⟨h1, h2⟩ := w_wo_ok hE n h.1
    have e1 : w_wp b (s 0) (n + 1) = w_wp b (s 0) n ||| 2 ^ b (s 0 + n) := rfl
    rw [e1]
    exact ⟨Nat.or_lt_two_pow h1 (Nat.pow_lt_pow_right (by decide) h.2.1), by rw [w_pc_or _ (by omega) _ (by omega) h.2.2, h2]⟩
theorem w_wo_le {s b : Nat → Nat} (hE : s 3 ≤ 10) {n : Nat} (h : w_wo s b n = true) : n ≤ 10 := by
  have := (w_wo_ok hE n h).2
  have := w_pc_le (w_wp b (s 0) n)
  omega
theorem s_Or_readLastPage (hF : c_F m 4 s) (hS : i_S s) (hn : m 1 2 ≤ 940) (hb : ∀ i, i < m 1 2 → m 2 i < 256) (hD : 2 ≤ D) : ∃ m2, a_ex X tx a_T D 120 [.ref 162, .ref 1] (b_h m j w) = some (b_h m2 j w, some (.int (nI (b_b (decide (s 0 ≤ m 1 2) && w_wo s (m 2) (m 1 2 - s 0)))))) ∧ z_fr 162 166 m m2 ∧ m2 162 3 = m 162 3 ∧ m2 163 = m 163 ∧ ((decide (s 0 ≤ m 1 2) && w_wo s (m 2) (m 1 2 - s 0)) = true → (∀ k, k < 6 → m2 166 k = if k < s 0 then m 2 k else 0) ∧ m2 162 7 = w_wp (m 2) (s 0) (m 1 2 - s 0)) := by
  obtain ⟨d, rfl⟩ : ∃ d, D = d + 1 := ⟨D - 1, by omega⟩
  have hK := i_S_K hS
  have hE := i_S_E hS
  have hPw : 2 ^ s 3 ≤ 1024 := Nat.pow_le_pow_right (n := 2) (by decide) hE
  have e0 := c_F4_K hF
  rw [e_Or_readLastPage, q_Or_readLastPage_0]
  by_cases c0 : s 0 ≤ m 1 2
  · rw [decide_eq_true c0, Bool.true_and]
    simp (disch := omega) only [e0, ↓bc_1, ↓bc_162, ↓br_162_0, ↓bc_4, ↓br_162_6, ↓bc_166, ↓bx_166, bl_166, ↓b_t0, ↓b_t1, ↓b_t2, ↓b_t3, ↓b_t4, ↓b_t5, ↓b_t6, Nat.zero_add, Nat.le_refl, b_rs, b_rn, b_r2, b_ss, b_sn, b_bt, b_bf, b_b0, b_b1, b_bw, b_shl, b_or, b_iv, b_jv, b_sI, b_sJ, ↓z_hl, z_b0, z_b1, z_b2, b_and1c, b_and1z, if_true, if_false, nI_add, pk_mul, b_cl, b_lt, b_le, b_eq, b_eq0, b_le0, b_0lt, b_0le, b_lt0]
    rw [if_pos c0, ← l_Or_readLastPage_10]
    refine z_runT (Q := fun q => ∃ m2, q = some (b_h m2 j w, some (.int (nI (b_b (w_wo s (m 2) (m 1 2 - s 0)))))) ∧ z_fr 162 166 m m2 ∧ m2 162 3 = m 162 3 ∧ m2 163 = m 163 ∧ (w_wo s (m 2) (m 1 2 - s 0) = true → (∀ k, k < 6 → m2 166 k = if k < s 0 then m 2 k else 0) ∧ m2 162 7 = w_wp (m 2) (s 0) (m 1 2 - s 0))) (fun q c L h => ∃ m3, h = b_h m3 j w ∧ z_fr 162 166 m m3 ∧ m3 162 3 = m 162 3 ∧ m3 163 = m 163 ∧
      ((∃ k u3, c = 10 ∧ q + k = 1007 ∧ k ≤ 6 ∧ L = [.ref 162, .ref 1, .int (nI k), u3] ∧ ∀ i, i < k → m3 166 i = if i < s 0 then m 2 i else 0) ∨
       (∃ n u3, c = 36 ∧ q + n = 1000 ∧ s 0 + n ≤ m 1 2 ∧ L = [.ref 162, .ref 1, .int (nI (s 0 + n)), u3] ∧ w_wo s (m 2) n = true ∧ m3 162 7 = w_wp (m 2) (s 0) n ∧ ∀ i, i < 6 → m3 166 i = if i < s 0 then m 2 i else 0))) 0 ?_ 1007 10 _ _ ⟨m, rfl, z_fr_rf, rfl, rfl, Or.inl ⟨0, _, rfl, by omega, by omega, rfl, fun i hi => absurd hi (Nat.not_lt_zero i)⟩⟩ _ (z_fu (by omega))
    rintro q c L h ⟨m3, rfl, hm, h3, h63, ⟨k, u3, rfl, hq, hk, rfl, hv⟩ | ⟨n, u3, rfl, hq, hn2, rfl, ho, h7, hv⟩⟩ f _
    · rw [l_Or_readLastPage_10, q_Or_readLastPage_10]
      have g0 : m3 4 0 = s 0 := by rw [hm 4 (by omega)]; exact e0
      right
      by_cases c : k = 6
      · subst c
        refine ⟨1000, 36, [.ref 162, .ref 1, .int (nI (s 0 + 0)), u3], b_h (b_r m3 162 (b_s (m3 162) 7 0)) j w, by omega, ⟨_, rfl, z_fr_r hm (by omega), by rw [b_rs, b_sn (by decide)]; exact h3, by rw [b_rn (by decide)]; exact h63, Or.inr ⟨0, u3, rfl, by omega, by omega, rfl, rfl, by rw [b_rs, b_ss]; rfl, fun i hi => by rw [b_rn (by decide)]; exact hv i hi⟩⟩, Or.inr ?_⟩
        rw [l_Or_readLastPage_36, Nat.add_zero]
        simp (disch := omega) only [g0, ↓bc_1, ↓bc_162, ↓br_162_0, ↓bc_4, ↓br_162_6, ↓bc_166, ↓bx_166, bl_166, ↓b_t0, ↓b_t1, ↓b_t2, ↓b_t3, ↓b_t4, ↓b_t5, ↓b_t6, Nat.zero_add, Nat.le_refl, b_rs, b_rn, b_r2, b_ss, b_sn, b_bt, b_bf, b_b0, b_b1, b_bw, b_shl, b_or, b_iv, b_jv, b_sI, b_sJ, ↓z_hl, z_b0, z_b1, z_b2, b_and1c, b_and1z, if_true, if_false, nI_add, pk_mul, b_cl, b_lt, b_le, b_eq, b_eq0, b_le0, b_0lt, b_0le, b_lt0]
      · by_cases c2 : k < s 0
        · have g1 : m3 1 2 = m 1 2 := by rw [hm 1 (by omega)]
          have g2 : m3 2 = m 2 := hm 2 (by omega)
          have s1 := s_Ta_at (X := X) (tx := tx) (D := d) (m := m3) (j := j) (w := w) (by rw [g1]; exact hn) (by omega) (i := k) (by rw [g1]; omega)
          rw [g2] at s1
          refine ⟨q - 1, 10, [.ref 162, .ref 1, .int (nI (k + 1)), u3], b_h (b_r m3 166 (b_s (m3 166) k (m 2 k))) j w, by omega, ⟨_, rfl, z_fr_r hm (by omega), by rw [b_rn (by decide)]; exact h3, by rw [b_rn (by decide)]; exact h63, Or.inl ⟨k + 1, u3, rfl, by omega, by omega, rfl, fun i hi => ?_⟩⟩, Or.inl ?_⟩
          · rw [b_rs]
            by_cases c5 : i = k
            · rw [c5, b_ss, if_pos c2]
            · rw [b_sn c5]; exact hv i (by omega)
          · simp (disch := omega) only [g0, s1, ↓bc_1, ↓bc_162, ↓br_162_0, ↓bc_4, ↓br_162_6, ↓bc_166, ↓bx_166, bl_166, ↓b_t0, ↓b_t1, ↓b_t2, ↓b_t3, ↓b_t4, ↓b_t5, ↓b_t6, Nat.zero_add, Nat.le_refl, b_rs, b_rn, b_r2, b_ss, b_sn, b_bt, b_bf, b_b0, b_b1, b_bw, b_shl, b_or, b_iv, b_jv, b_sI, b_sJ, ↓z_hl, z_b0, z_b1, z_b2, b_and1c, b_and1z, if_true, if_false, nI_add, pk_mul, b_cl, b_lt, b_le, b_eq, b_eq0, b_le0, b_0lt, b_0le, b_lt0]
            rw [if_neg (by omega), if_neg (by omega)]
        · refine ⟨q - 1, 10, [.ref 162, .ref 1, .int (nI (k + 1)), u3], b_h (b_r m3 166 (b_s (m3 166) k 0)) j w, by omega, ⟨_, rfl, z_fr_r hm (by omega), by rw [b_rn (by decide)]; exact h3, by rw [b_rn (by decide)]; exact h63, Or.inl ⟨k + 1, u3, rfl, by omega, by omega, rfl, fun i hi => ?_⟩⟩, Or.inl ?_⟩
          · rw [b_rs]
            by_cases c5 : i = k
            · rw [c5, b_ss, if_neg c2]
            · rw [b_sn c5]; exact hv i (by omega)
          · simp (disch := omega) only [g0, ↓bc_1, ↓bc_162, ↓br_162_0, ↓bc_4, ↓br_162_6, ↓bc_166, ↓bx_166, bl_166, ↓b_t0, ↓b_t1, ↓b_t2, ↓b_t3, ↓b_t4, ↓b_t5, ↓b_t6, Nat.zero_add, Nat.le_refl, b_rs, b_rn, b_r2, b_ss, b_sn, b_bt, b_bf, b_b0, b_b1, b_bw, b_shl, b_or, b_iv, b_jv, b_sI, b_sJ, ↓z_hl, z_b0, z_b1, z_b2, b_and1c, b_and1z, if_true, if_false, nI_add, pk_mul, b_cl, b_lt, b_le, b_eq, b_eq0, b_le0, b_0lt, b_0le, b_lt0]
            rw [if_neg (by omega), if_pos (by omega)]
    · rw [l_Or_readLastPage_36, q_Or_readLastPage_36]
      have g1 : m3 1 2 = m 1 2 := by rw [hm 1 (by omega)]
      have g2 : m3 2 = m 2 := hm 2 (by omega)
      have hF3 : c_F m3 4 s := c_F_ext (fun c p1 p2 => hm c (by omega)) (fun _ _ => rfl) hS hF
      obtain ⟨o1, o2⟩ := w_wo_ok hE n ho
      have hn10 := w_wo_le hE ho
      by_cases c : s 0 + n = m 1 2
      · left
        have en : m 1 2 - s 0 = n := by omega
        rw [en]
        refine ⟨m3, ?_, hm, h3, h63, fun _ => ⟨hv, h7⟩⟩
        rw [ho]
        simp (disch := omega) only [g1, ↓bc_1, ↓bc_162, ↓br_162_0, ↓bc_4, ↓br_162_6, ↓bc_166, ↓bx_166, bl_166, ↓b_t0, ↓b_t1, ↓b_t2, ↓b_t3, ↓b_t4, ↓b_t5, ↓b_t6, Nat.zero_add, Nat.le_refl, b_rs, b_rn, b_r2, b_ss, b_sn, b_bt, b_bf, b_b0, b_b1, b_bw, b_shl, b_or, b_iv, b_jv, b_sI, b_sJ, ↓z_hl, z_b0, z_b1, z_b2, b_and1c, b_and1z, if_true, if_false, nI_add, pk_mul, b_cl, b_lt, b_le, b_eq, b_eq0, b_le0, b_0lt, b_0le, b_lt0]
        rw [if_pos (by omega)]
      · have hbi := hb (s 0 + n) (by omega)
        have s1 := s_Ta_at (X := X) (tx := tx) (D := d) (m := m3) (j := j) (w := w) (by rw [g1]; exact hn) (by omega) (i := s 0 + n) (by rw [g1]; omega)
        rw [g2] at s1
        have s2 := s_Fa_isEnding (X := X) (tx := tx) (D := d) (m := m3) (j := j) (w := w) hF3 hS (by omega) (n := m 2 (s 0 + n)) (by omega)
        have hw := w_wo_1 (s := s) (b := m 2) (n := n)
        rw [ho, Bool.true_and] at hw
        have bad : w_wo s (m 2) (n + 1) = false → w_wo s (m 2) (m 1 2 - s 0) = false := fun g => by
          refine Bool.eq_false_iff.mpr fun z => ?_
          unfold w_wo at z g
          rw [z_all_iff] at z
          have := Bool.eq_false_iff.mp g
          exact this ((z_all_iff _ _).mpr fun k hk => z k (by omega))
        by_cases c2 : m 2 (s 0 + n) < s 3
        · rw [decide_eq_true c2] at s2 hw
          rw [Bool.true_and] at hw
          have hbit : (nI (w_wp (m 2) (s 0) n)) = nI (w_wp (m 2) (s 0) n) := rfl
          cases hc : (w_wp (m 2) (s 0) n).testBit (m 2 (s 0 + n)) with
          | true =>
            left
            rw [hc] at hw
            have hbad := bad hw
            rw [hbad]
            refine ⟨m3, ?_, hm, h3, h63, fun g => absurd g (by decide)⟩
            simp (disch := omega) only [g1, s1, s2, h7, s_EM_isIn, hc, Nat.one_ne_zero, ↓bc_1, ↓bc_162, ↓br_162_0, ↓bc_4, ↓br_162_6, ↓bc_166, ↓bx_166, bl_166, ↓b_t0, ↓b_t1, ↓b_t2, ↓b_t3, ↓b_t4, ↓b_t5, ↓b_t6, Nat.zero_add, Nat.le_refl, b_rs, b_rn, b_r2, b_ss, b_sn, b_bt, b_bf, b_b0, b_b1, b_bw, b_shl, b_or, b_iv, b_jv, b_sI, b_sJ, ↓z_hl, z_b0, z_b1, z_b2, b_and1c, b_and1z, if_true, if_false, nI_add, pk_mul, b_cl, b_lt, b_le, b_eq, b_eq0, b_le0, b_0lt, b_0le, b_lt0]
            rw [if_neg (by omega)]
          | false =>
            right
            rw [hc] at hw
            refine ⟨q - 1, 36, [.ref 162, .ref 1, .int (nI (s 0 + (n + 1))), .int (nI (m 2 (s 0 + n)))], b_h (b_r m3 162 (b_s (m3 162) 7 (w_wp (m 2) (s 0) n ||| 2 ^ m 2 (s 0 + n)))) j w, by omega, ⟨_, rfl, z_fr_r hm (by omega), by rw [b_rs, b_sn (by decide)]; exact h3, by rw [b_rn (by decide)]; exact h63, Or.inr ⟨n + 1, _, rfl, by omega, by omega, rfl, hw, by rw [b_rs, b_ss]; rfl, fun i hi => by rw [b_rn (by decide)]; exact hv i hi⟩⟩, Or.inl ?_⟩
            rw [← Nat.add_assoc]
            simp (disch := omega) only [g1, s1, s2, h7, s_EM_isIn, hc, Nat.one_ne_zero, ↓bc_1, ↓bc_162, ↓br_162_0, ↓bc_4, ↓br_162_6, ↓bc_166, ↓bx_166, bl_166, ↓b_t0, ↓b_t1, ↓b_t2, ↓b_t3, ↓b_t4, ↓b_t5, ↓b_t6, Nat.zero_add, Nat.le_refl, b_rs, b_rn, b_r2, b_ss, b_sn, b_bt, b_bf, b_b0, b_b1, b_bw, b_shl, b_or, b_iv, b_jv, b_sI, b_sJ, ↓z_hl, z_b0, z_b1, z_b2, b_and1c, b_and1z, if_true, if_false, nI_add, pk_mul, b_cl, b_lt, b_le, b_eq, b_eq0, b_le0, b_0lt, b_0le, b_lt0]
            rw [if_neg (by omega)]
        · left
          rw [decide_eq_false c2] at s2 hw
          have hbad := bad hw
          rw [hbad]
          refine ⟨m3, ?_, hm, h3, h63, fun g => absurd g (by decide)⟩
          simp (disch := omega) only [g1, s1, s2, ↓bc_1, ↓bc_162, ↓br_162_0, ↓bc_4, ↓br_162_6, ↓bc_166, ↓bx_166, bl_166, ↓b_t0, ↓b_t1, ↓b_t2, ↓b_t3, ↓b_t4, ↓b_t5, ↓b_t6, Nat.zero_add, Nat.le_refl, b_rs, b_rn, b_r2, b_ss, b_sn, b_bt, b_bf, b_b0, b_b1, b_bw, b_shl, b_or, b_iv, b_jv, b_sI, b_sJ, ↓z_hl, z_b0, z_b1, z_b2, b_and1c, b_and1z, if_true, if_false, nI_add, pk_mul, b_cl, b_lt, b_le, b_eq, b_eq0, b_le0, b_0lt, b_0le, b_lt0]
          rw [if_neg (by omega)]
  · rw [decide_eq_false c0, Bool.false_and]
    refine ⟨m, ?_, z_fr_rf, rfl, rfl, fun g => absurd g (by decide)⟩
    simp (disch := omega) only [e0, ↓bc_1, ↓bc_162, ↓br_162_0, ↓bc_4, ↓br_162_6, ↓bc_166, ↓bx_166, bl_166, ↓b_t0, ↓b_t1, ↓b_t2, ↓b_t3, ↓b_t4, ↓b_t5, ↓b_t6, Nat.zero_add, Nat.le_refl, b_rs, b_rn, b_r2, b_ss, b_sn, b_bt, b_bf, b_b0, b_b1, b_bw, b_shl, b_or, b_iv, b_jv, b_sI, b_sJ, ↓z_hl, z_b0, z_b1, z_b2, b_and1c, b_and1z, if_true, if_false, nI_add, pk_mul, b_cl, b_lt, b_le, b_eq, b_eq0, b_le0, b_0lt, b_0le, b_lt0]
    rw [if_neg c0]
end WA
