/-! TEXTS: the class's tape reads a token -/
theorem w_lg_lt2 {b : Nat → Nat} {i n : Nat} (hb : ∀ x, x < n → b x < 256) : ∀ k, i + k ≤ n → w_lg b i k < 32 ^ k
  | 0, _ => by show (0 : Nat) < 1; decide
  | k + 1, hk => by
    have ih := w_lg_lt2 (i := i) hb k (by omega)
    rw [w_lg_1, Nat.pow_succ]
    split
    · rename_i h
      unfold z_sm at h
      rw [decide_eq_true_eq] at h
      omega
    · omega
theorem w_vg_lt2 {b : Nat → Nat} {i n : Nat} (hb : ∀ x, x < n → b x < 256) : ∀ k, i + k ≤ n → w_vg b i k < 10 ^ k
  | 0, _ => by show (0 : Nat) < 1; decide
  | k + 1, hk => by
    have ih := w_vg_lt2 (i := i) hb k (by omega)
    rw [w_vg_1, Nat.pow_succ]
    split
    · rename_i h
      unfold z_dg at h
      rw [decide_eq_true_eq] at h
      omega
    · omega
theorem w_wl_lt : ∀ k, k < 19 → w_wl k < 34359738368 := by decide +kernel
section LC
variable {X : Nat × (Nat → Int32)} {tx : List Int32} {D : Nat} {m j : Nat → Nat → Nat} {w : (Nat × Nat) × Bool}
theorem s_Ta_isBlank (hD : 1 ≤ D) {c : Nat} (hc : c < 256) : a_ex X tx a_T D 7 [.int (nI c)] (b_h m j w) = some ((b_h m j w), some (.int (nI (b_b (z_bl c))))) := by
  obtain ⟨d, rfl⟩ : ∃ d, D = d + 1 := ⟨D - 1, by omega⟩
  rw [e_Ta_isBlank, q_Ta_isBlank_0]
  unfold z_bl
  simp (disch := omega) only [↓b_t0, ↓b_t1, ↓b_t2, ↓b_t3, ↓b_t4, ↓b_t5, ↓b_t6, Nat.zero_add, Nat.le_refl, b_rs, b_rn, b_r2, b_ss, b_sn, b_bt, b_bf, b_b0, b_b1, b_bw, b_shl, b_or, b_iv, b_jv, b_sI, b_sJ, ↓z_hl, z_b0, z_b1, z_b2, b_and1c, b_and1z, if_true, if_false, nI_add, pk_mul, b_cl, b_lt, b_le, b_eq, b_eq0, b_le0, b_0lt, b_0le, b_lt0]
  by_cases c1 : c = 32
  · rw [if_pos c1, decide_eq_true (Or.inl c1)]; rfl
  · rw [if_neg c1]
    by_cases c2 : c = 10
    · rw [if_pos c2, decide_eq_true (Or.inr c2)]; rfl
    · rw [if_neg c2, decide_eq_false (by omega)]; rfl
theorem s_Ta_isSign (hD : 1 ≤ D) {c : Nat} (hc : c < 256) : a_ex X tx a_T D 8 [.int (nI c)] (b_h m j w) = some ((b_h m j w), some (.int (nI (b_b (z_sg c))))) := by
  obtain ⟨d, rfl⟩ : ∃ d, D = d + 1 := ⟨D - 1, by omega⟩
  rw [e_Ta_isSign, q_Ta_isSign_0]
  unfold z_sg
  simp (disch := omega) only [↓b_t0, ↓b_t1, ↓b_t2, ↓b_t3, ↓b_t4, ↓b_t5, ↓b_t6, Nat.zero_add, Nat.le_refl, b_rs, b_rn, b_r2, b_ss, b_sn, b_bt, b_bf, b_b0, b_b1, b_bw, b_shl, b_or, b_iv, b_jv, b_sI, b_sJ, ↓z_hl, z_b0, z_b1, z_b2, b_and1c, b_and1z, if_true, if_false, nI_add, pk_mul, b_cl, b_lt, b_le, b_eq, b_eq0, b_le0, b_0lt, b_0le, b_lt0]
  by_cases c1 : c = 59 ∨ c = 60 ∨ c = 61 ∨ c = 62 ∨ c = 40 ∨ c = 41
  · rw [decide_eq_true c1]
    rcases c1 with h | h | h | h | h | h <;> subst h <;> rfl
  · rw [decide_eq_false c1, if_neg (by omega), if_neg (by omega), if_neg (by omega), if_neg (by omega), if_neg (by omega), if_neg (by omega)]
    rfl
/-- the heap behind a run -/
theorem s_Ta_readRun (hD : 1 ≤ D) {n i : Nat} (hn : m 1 2 = n) (hn2 : n ≤ 940) (hi : m 1 6 = i) (hi2 : i ≤ n) (hb : ∀ x, x < n → m 2 x < 256) : a_ex X tx a_T D 5 [.ref 1] (b_h m j w) = some (b_h (b_r m 1 (b_s (b_s (b_s (m 1) 9 (w_vg (m 2) i (w_re (m 2) n i - i))) 4 (w_re (m 2) n i)) 5 (w_rk (m 2) i (w_re (m 2) n i)))) (b_r j 1 (b_s (j 1) 7 (w_lg (m 2) i (w_re (m 2) n i - i)))) w, none) := by
  obtain ⟨d, rfl⟩ : ∃ d, D = d + 1 := ⟨D - 1, by omega⟩
  rw [e_Ta_readRun, q_Ta_readRun_0]
  simp (disch := omega) only [hi, ↓bc_1, ↓br_1_0, ↓bc_2, ↓bx_2, bl_2, ↓b_t0, ↓b_t1, ↓b_t2, ↓b_t3, ↓b_t4, ↓b_t5, ↓b_t6, Nat.zero_add, Nat.le_refl, b_rs, b_rn, b_r2, b_ss, b_sn, b_bt, b_bf, b_b0, b_b1, b_bw, b_shl, b_or, b_iv, b_jv, b_sI, b_sJ, ↓z_hl, z_b0, z_b1, z_b2, b_and1c, b_and1z, if_true, if_false, nI_add, pk_mul, b_cl, b_lt, b_le, b_eq, b_eq0, b_le0, b_0lt, b_0le, b_lt0]
  rw [← l_Ta_readRun_13]
  have fin : ∀ k u f, i + k ≤ n → w_re (m 2) n i = i + k → a_rn X tx (a_ex X tx a_T d) (a_go X tx (a_ex X tx a_T d) k_Ta_readRun_0 f) k_Ta_readRun_62 0 [.ref 1, .int (nI (w_ns (m 2) i k)), .int (nI (w_nd2 (m 2) i k)), .int (nI (i + k)), u] [] (b_h (b_r m 1 (b_s (m 1) 9 (w_vg (m 2) i k))) (b_r j 1 (b_s (j 1) 7 (w_lg (m 2) i k))) w) = some (b_h (b_r m 1 (b_s (b_s (b_s (m 1) 9 (w_vg (m 2) i (w_re (m 2) n i - i))) 4 (w_re (m 2) n i)) 5 (w_rk (m 2) i (w_re (m 2) n i)))) (b_r j 1 (b_s (j 1) 7 (w_lg (m 2) i (w_re (m 2) n i - i)))) w, none) := fun k u f hk he => by
    rw [he, show i + k - i = k by omega, q_Ta_readRun_62]
    unfold w_rk
    rw [show i + k - i = k by omega]
    have h1 := w_ns_le (b := m 2) (i := i) k
    have h2 := w_nd2_le (b := m 2) (i := i) k
    generalize w_ns (m 2) i k = A at h1 ⊢
    generalize w_nd2 (m 2) i k = B at h2 ⊢
    by_cases c1 : B = 0
    · by_cases c2 : A ≤ 7
      · rw [if_pos (c := B = 0 ∧ A ≤ 7) ⟨c1, c2⟩]
        simp (disch := omega) only [b_s2, ↓bc_1, ↓br_1_0, ↓bc_2, ↓bx_2, bl_2, ↓b_t0, ↓b_t1, ↓b_t2, ↓b_t3, ↓b_t4, ↓b_t5, ↓b_t6, Nat.zero_add, Nat.le_refl, b_rs, b_rn, b_r2, b_ss, b_sn, b_bt, b_bf, b_b0, b_b1, b_bw, b_shl, b_or, b_iv, b_jv, b_sI, b_sJ, ↓z_hl, z_b0, z_b1, z_b2, b_and1c, b_and1z, if_true, if_false, nI_add, pk_mul, b_cl, b_lt, b_le, b_eq, b_eq0, b_le0, b_0lt, b_0le, b_lt0]
        rw [if_pos c1, if_neg (by omega)]
      · rw [if_neg (c := B = 0 ∧ A ≤ 7) (fun g => c2 g.2), if_neg (c := A = 0 ∧ B ≤ 3) (fun g => by omega)]
        simp (disch := omega) only [b_s2, ↓bc_1, ↓br_1_0, ↓bc_2, ↓bx_2, bl_2, ↓b_t0, ↓b_t1, ↓b_t2, ↓b_t3, ↓b_t4, ↓b_t5, ↓b_t6, Nat.zero_add, Nat.le_refl, b_rs, b_rn, b_r2, b_ss, b_sn, b_bt, b_bf, b_b0, b_b1, b_bw, b_shl, b_or, b_iv, b_jv, b_sI, b_sJ, ↓z_hl, z_b0, z_b1, z_b2, b_and1c, b_and1z, if_true, if_false, nI_add, pk_mul, b_cl, b_lt, b_le, b_eq, b_eq0, b_le0, b_0lt, b_0le, b_lt0]
        rw [if_pos c1, if_pos (by omega), if_neg (by omega)]
    · rw [if_neg (c := B = 0 ∧ A ≤ 7) (fun g => c1 g.1)]
      by_cases c3 : A = 0
      · by_cases c4 : B ≤ 3
        · rw [if_pos (c := A = 0 ∧ B ≤ 3) ⟨c3, c4⟩]
          simp (disch := omega) only [b_s2, ↓bc_1, ↓br_1_0, ↓bc_2, ↓bx_2, bl_2, ↓b_t0, ↓b_t1, ↓b_t2, ↓b_t3, ↓b_t4, ↓b_t5, ↓b_t6, Nat.zero_add, Nat.le_refl, b_rs, b_rn, b_r2, b_ss, b_sn, b_bt, b_bf, b_b0, b_b1, b_bw, b_shl, b_or, b_iv, b_jv, b_sI, b_sJ, ↓z_hl, z_b0, z_b1, z_b2, b_and1c, b_and1z, if_true, if_false, nI_add, pk_mul, b_cl, b_lt, b_le, b_eq, b_eq0, b_le0, b_0lt, b_0le, b_lt0]
          rw [if_neg c1, if_pos c3, if_neg (by omega)]
        · rw [if_neg (c := A = 0 ∧ B ≤ 3) (fun g => c4 g.2)]
          simp (disch := omega) only [b_s2, ↓bc_1, ↓br_1_0, ↓bc_2, ↓bx_2, bl_2, ↓b_t0, ↓b_t1, ↓b_t2, ↓b_t3, ↓b_t4, ↓b_t5, ↓b_t6, Nat.zero_add, Nat.le_refl, b_rs, b_rn, b_r2, b_ss, b_sn, b_bt, b_bf, b_b0, b_b1, b_bw, b_shl, b_or, b_iv, b_jv, b_sI, b_sJ, ↓z_hl, z_b0, z_b1, z_b2, b_and1c, b_and1z, if_true, if_false, nI_add, pk_mul, b_cl, b_lt, b_le, b_eq, b_eq0, b_le0, b_0lt, b_0le, b_lt0]
          rw [if_neg c1, if_pos c3, if_pos (by omega)]
      · rw [if_neg (c := A = 0 ∧ B ≤ 3) (fun g => c3 g.1)]
        simp (disch := omega) only [b_s2, ↓bc_1, ↓br_1_0, ↓bc_2, ↓bx_2, bl_2, ↓b_t0, ↓b_t1, ↓b_t2, ↓b_t3, ↓b_t4, ↓b_t5, ↓b_t6, Nat.zero_add, Nat.le_refl, b_rs, b_rn, b_r2, b_ss, b_sn, b_bt, b_bf, b_b0, b_b1, b_bw, b_shl, b_or, b_iv, b_jv, b_sI, b_sJ, ↓z_hl, z_b0, z_b1, z_b2, b_and1c, b_and1z, if_true, if_false, nI_add, pk_mul, b_cl, b_lt, b_le, b_eq, b_eq0, b_le0, b_0lt, b_0le, b_lt0]
        rw [if_neg c1, if_neg c3]
  refine z_run (Q := fun r => r = some (b_h (b_r m 1 (b_s (b_s (b_s (m 1) 9 (w_vg (m 2) i (w_re (m 2) n i - i))) 4 (w_re (m 2) n i)) 5 (w_rk (m 2) i (w_re (m 2) n i)))) (b_r j 1 (b_s (j 1) 7 (w_lg (m 2) i (w_re (m 2) n i - i)))) w, none)) (fun q L h => ∃ k u, q + k = n - i ∧ (∀ x, x < k → z_ld (m 2 (i + x)) = true) ∧ L = [.ref 1, .int (nI (w_ns (m 2) i k)), .int (nI (w_nd2 (m 2) i k)), .int (nI (i + k)), u] ∧ h = b_h (b_r m 1 (b_s (m 1) 9 (w_vg (m 2) i k))) (b_r j 1 (b_s (j 1) 7 (w_lg (m 2) i k))) w) 0 ?_ (n - i) _ _ ⟨0, _, by omega, fun x hx => absurd hx (Nat.not_lt_zero x), rfl, rfl⟩ _ (z_fu (by omega))
  rintro q L h ⟨k, u, hq, hld, rfl, rfl⟩ f _
  rw [l_Ta_readRun_13, q_Ta_readRun_13]
  have hld2 : ∀ x, i ≤ x → x < i + k → z_ld (m 2 x) = true := fun x h1 h2 => by
    have := hld (x - i) (by omega)
    rwa [show i + (x - i) = x by omega] at this
  by_cases c : i + k = n
  · left
    have he : w_re (m 2) n i = i + k := w_re_eq (by omega) (by omega) hld2 (fun g => absurd g (by omega))
    rw [← fin k u f (by omega) he]
    simp (disch := omega) only [hn, ↓bc_1, ↓br_1_0, ↓bc_2, ↓bx_2, bl_2, ↓b_t0, ↓b_t1, ↓b_t2, ↓b_t3, ↓b_t4, ↓b_t5, ↓b_t6, Nat.zero_add, Nat.le_refl, b_rs, b_rn, b_r2, b_ss, b_sn, b_bt, b_bf, b_b0, b_b1, b_bw, b_shl, b_or, b_iv, b_jv, b_sI, b_sJ, ↓z_hl, z_b0, z_b1, z_b2, b_and1c, b_and1z, if_true, if_false, nI_add, pk_mul, b_cl, b_lt, b_le, b_eq, b_eq0, b_le0, b_0lt, b_0le, b_lt0]
    rw [if_pos (by omega)]
  · have hc := hb (i + k) (by omega)
    cases hl : z_ld (m 2 (i + k)) with
    | false =>
      left
      have he : w_re (m 2) n i = i + k := w_re_eq (by omega) (by omega) hld2 (fun _ => hl)
      have f2 := fun u => fin k u f (by omega) he
      have x43 : a_rn X tx (a_ex X tx a_T d) (a_go X tx (a_ex X tx a_T d) k_Ta_readRun_0 f) k_Ta_readRun_43 0 [.ref 1, .int (nI (w_ns (m 2) i k)), .int (nI (w_nd2 (m 2) i k)), .int (nI (i + k)), .int (nI (m 2 (i + k)))] [] (b_h (b_r m 1 (b_s (m 1) 9 (w_vg (m 2) i k))) (b_r j 1 (b_s (j 1) 7 (w_lg (m 2) i k))) w) = a_rn X tx (a_ex X tx a_T d) (a_go X tx (a_ex X tx a_T d) k_Ta_readRun_0 f) k_Ta_readRun_62 0 [.ref 1, .int (nI (w_ns (m 2) i k)), .int (nI (w_nd2 (m 2) i k)), .int (nI (i + k)), .int (nI (m 2 (i + k)))] [] (b_h (b_r m 1 (b_s (m 1) 9 (w_vg (m 2) i k))) (b_r j 1 (b_s (j 1) 7 (w_lg (m 2) i k))) w) := by
        rw [q_Ta_readRun_43]
        unfold z_ld at hl
        rw [Bool.or_eq_false_iff] at hl
        have h2 := of_decide_eq_false (show decide (48 ≤ m 2 (i + k) ∧ m 2 (i + k) ≤ 57) = false from hl.2)
        by_cases c2 : m 2 (i + k) < 48
        · rw [if_pos (by rw [b_lt (by omega) (by decide)]; exact c2)]
        · rw [if_neg (by rw [b_lt (by omega) (by decide)]; exact c2), if_pos (by rw [b_lt (by decide) (by omega)]; omega)]
      have h1 : ¬ (97 ≤ m 2 (i + k) ∧ m 2 (i + k) ≤ 122) := by
        unfold z_ld at hl
        rw [Bool.or_eq_false_iff] at hl
        exact of_decide_eq_false (show decide (97 ≤ m 2 (i + k) ∧ m 2 (i + k) ≤ 122) = false from hl.1)
      simp (disch := omega) only [hn, ↓bc_1, ↓br_1_0, ↓bc_2, ↓bx_2, bl_2, ↓b_t0, ↓b_t1, ↓b_t2, ↓b_t3, ↓b_t4, ↓b_t5, ↓b_t6, Nat.zero_add, Nat.le_refl, b_rs, b_rn, b_r2, b_ss, b_sn, b_bt, b_bf, b_b0, b_b1, b_bw, b_shl, b_or, b_iv, b_jv, b_sI, b_sJ, ↓z_hl, z_b0, z_b1, z_b2, b_and1c, b_and1z, if_true, if_false, nI_add, pk_mul, b_cl, b_lt, b_le, b_eq, b_eq0, b_le0, b_0lt, b_0le, b_lt0]
      rw [if_neg (by omega)]
      by_cases c2 : m 2 (i + k) < 97
      · rw [if_pos c2, x43]
        exact f2 _
      · rw [if_neg c2, if_pos (by omega), x43]
        exact f2 _
    | true =>
      right
      have hadd : ∀ x, x < k + 1 → z_ld (m 2 (i + x)) = true := fun x hx => by
        by_cases c2 : x = k
        · rw [c2]; exact hl
        · exact hld x (by omega)
      cases hs : z_sm (m 2 (i + k)) with
      | true =>
        have hd := z_smdg hs
        have h1 : 97 ≤ m 2 (i + k) ∧ m 2 (i + k) ≤ 122 := of_decide_eq_true hs
        have e7 : m 2 (i + k) - 97 + 1 = m 2 (i + k) - 96 := by omega
        have w1 : w_ns (m 2) i (k + 1) = w_ns (m 2) i k + 1 := by rw [w_ns_1, hs, b_bt]
        have w2 : w_nd2 (m 2) i (k + 1) = w_nd2 (m 2) i k := by rw [w_nd2_1, hd, b_bf]; rfl
        have w3 : w_lg (m 2) i (k + 1) = w_lg (m 2) i k * 32 + (m 2 (i + k) - 96) := by rw [w_lg_1, hs, if_pos rfl]
        have w4 : w_vg (m 2) i (k + 1) = w_vg (m 2) i k := by rw [w_vg_1, hd, if_neg (by decide)]
        refine ⟨q - 1, [.ref 1, .int (nI (w_ns (m 2) i k + 1)), .int (nI (w_nd2 (m 2) i k)), .int (nI (i + k + 1)), .int (nI (m 2 (i + k)))], b_h (b_r m 1 (b_s (m 1) 9 (w_vg (m 2) i k))) (b_r j 1 (b_s (j 1) 7 (w_lg (m 2) i k * 32 + (m 2 (i + k) - 96)))) w, by omega, ⟨k + 1, _, by omega, hadd, by rw [w1, w2]; rfl, by rw [w3, w4]⟩, ?_⟩
        simp (disch := omega) only [hn, b_sub, e7, lN_mul, lN_add, nI_l, b_s2, ↓bc_1, ↓br_1_0, ↓bc_2, ↓bx_2, bl_2, ↓b_t0, ↓b_t1, ↓b_t2, ↓b_t3, ↓b_t4, ↓b_t5, ↓b_t6, Nat.zero_add, Nat.le_refl, b_rs, b_rn, b_r2, b_ss, b_sn, b_bt, b_bf, b_b0, b_b1, b_bw, b_shl, b_or, b_iv, b_jv, b_sI, b_sJ, ↓z_hl, z_b0, z_b1, z_b2, b_and1c, b_and1z, if_true, if_false, nI_add, pk_mul, b_cl, b_lt, b_le, b_eq, b_eq0, b_le0, b_0lt, b_0le, b_lt0]
        rw [if_neg (by omega), if_neg (by omega), if_neg (by omega)]
      | false =>
        have hd : z_dg (m 2 (i + k)) = true := by
          unfold z_ld at hl
          rw [hs, Bool.false_or] at hl
          exact hl
        have h1 : 48 ≤ m 2 (i + k) ∧ m 2 (i + k) ≤ 57 := of_decide_eq_true hd
        have w1 : w_ns (m 2) i (k + 1) = w_ns (m 2) i k := by rw [w_ns_1, hs, b_bf]; rfl
        have w2 : w_nd2 (m 2) i (k + 1) = w_nd2 (m 2) i k + 1 := by rw [w_nd2_1, hd, b_bt]
        have w3 : w_lg (m 2) i (k + 1) = w_lg (m 2) i k := by rw [w_lg_1, hs, if_neg (by decide)]
        have w4 : w_vg (m 2) i (k + 1) = w_vg (m 2) i k * 10 + (m 2 (i + k) - 48) := by rw [w_vg_1, hd, if_pos rfl]
        refine ⟨q - 1, [.ref 1, .int (nI (w_ns (m 2) i k)), .int (nI (w_nd2 (m 2) i k + 1)), .int (nI (i + k + 1)), .int (nI (m 2 (i + k)))], b_h (b_r m 1 (b_s (m 1) 9 (w_vg (m 2) i k * 10 + (m 2 (i + k) - 48)))) (b_r j 1 (b_s (j 1) 7 (w_lg (m 2) i k))) w, by omega, ⟨k + 1, _, by omega, hadd, by rw [w1, w2]; rfl, by rw [w3, w4]⟩, ?_⟩
        have x43 : a_rn X tx (a_ex X tx a_T d) (a_go X tx (a_ex X tx a_T d) k_Ta_readRun_0 f) k_Ta_readRun_43 0 [.ref 1, .int (nI (w_ns (m 2) i k)), .int (nI (w_nd2 (m 2) i k)), .int (nI (i + k)), .int (nI (m 2 (i + k)))] [] (b_h (b_r m 1 (b_s (m 1) 9 (w_vg (m 2) i k))) (b_r j 1 (b_s (j 1) 7 (w_lg (m 2) i k))) w) = a_go X tx (a_ex X tx a_T d) k_Ta_readRun_0 f 13 [.ref 1, .int (nI (w_ns (m 2) i k)), .int (nI (w_nd2 (m 2) i k + 1)), .int (nI (i + k + 1)), .int (nI (m 2 (i + k)))] (b_h (b_r m 1 (b_s (m 1) 9 (w_vg (m 2) i k * 10 + (m 2 (i + k) - 48)))) (b_r j 1 (b_s (j 1) 7 (w_lg (m 2) i k))) w) := by
          rw [q_Ta_readRun_43]
          simp (disch := omega) only [b_sub, b_s2, ↓bc_1, ↓br_1_0, ↓bc_2, ↓bx_2, bl_2, ↓b_t0, ↓b_t1, ↓b_t2, ↓b_t3, ↓b_t4, ↓b_t5, ↓b_t6, Nat.zero_add, Nat.le_refl, b_rs, b_rn, b_r2, b_ss, b_sn, b_bt, b_bf, b_b0, b_b1, b_bw, b_shl, b_or, b_iv, b_jv, b_sI, b_sJ, ↓z_hl, z_b0, z_b1, z_b2, b_and1c, b_and1z, if_true, if_false, nI_add, pk_mul, b_cl, b_lt, b_le, b_eq, b_eq0, b_le0, b_0lt, b_0le, b_lt0]
          rw [if_neg (by omega), if_neg (by omega)]
        rw [← x43]
        simp (disch := omega) only [hn, ↓bc_1, ↓br_1_0, ↓bc_2, ↓bx_2, bl_2, ↓b_t0, ↓b_t1, ↓b_t2, ↓b_t3, ↓b_t4, ↓b_t5, ↓b_t6, Nat.zero_add, Nat.le_refl, b_rs, b_rn, b_r2, b_ss, b_sn, b_bt, b_bf, b_b0, b_b1, b_bw, b_shl, b_or, b_iv, b_jv, b_sI, b_sJ, ↓z_hl, z_b0, z_b1, z_b2, b_and1c, b_and1z, if_true, if_false, nI_add, pk_mul, b_cl, b_lt, b_le, b_eq, b_eq0, b_le0, b_0lt, b_0le, b_lt0]
        rw [if_neg (by omega), if_pos (by omega)]
theorem s_Ta_findKey (hD : 1 ≤ D) (hw : ∀ k, k < 19 → j 3 k = w_wl k) (hL : j 1 7 < 34359738368) (h8 : m 1 8 = 4294967295) : a_ex X tx a_T D 6 [.ref 1] (b_h m j w) = some ((b_h (b_r m 1 (b_s (m 1) 8 (w_kyn (j 1 7) 19))) j w), none) := by
  obtain ⟨d, rfl⟩ : ∃ d, D = d + 1 := ⟨D - 1, by omega⟩
  rw [e_Ta_findKey, q_Ta_findKey_0]
  rw [← l_Ta_findKey_2]
  have e0 : b_r m 1 (b_s (m 1) 8 (w_kyn (j 1 7) 0)) = m := by
    rw [show w_kyn (j 1 7) 0 = 4294967295 from rfl, b_ri]
    exact (b_sid h8).symm
  refine z_run (Q := fun r => r = some (b_h (b_r m 1 (b_s (m 1) 8 (w_kyn (j 1 7) 19))) j w, none)) (fun q L h => ∃ k, q + k = 19 ∧ L = [.ref 1, .int (nI k)] ∧ h = b_h (b_r m 1 (b_s (m 1) 8 (w_kyn (j 1 7) k))) j w) 0 ?_ 19 _ _ ⟨0, by omega, rfl, by rw [e0]⟩ _ (z_fu (by omega))
  rintro q L h ⟨k, hq, rfl, rfl⟩ f _
  rw [l_Ta_findKey_2, q_Ta_findKey_2]
  by_cases c : k = 19
  · left
    subst c
    simp (disch := omega) only [↓bc_1, ↓br_1_1, ↓bc_3, ↓bx_3, bl_3, ↓b_t0, ↓b_t1, ↓b_t2, ↓b_t3, ↓b_t4, ↓b_t5, ↓b_t6, Nat.zero_add, Nat.le_refl, b_rs, b_rn, b_r2, b_ss, b_sn, b_bt, b_bf, b_b0, b_b1, b_bw, b_shl, b_or, b_iv, b_jv, b_sI, b_sJ, ↓z_hl, z_b0, z_b1, z_b2, b_and1c, b_and1z, if_true, if_false, nI_add, pk_mul, b_cl, b_lt, b_le, b_eq, b_eq0, b_le0, b_0lt, b_0le, b_lt0]
  · right
    have h1 := hw k (by omega)
    have h2 := w_wl_lt k (by omega)
    have e1 : w_kyn (j 1 7) (k + 1) = if w_wl k = j 1 7 then k else w_kyn (j 1 7) k := rfl
    by_cases c2 : w_wl k = j 1 7
    · rw [if_pos c2] at e1
      refine ⟨q - 1, [.ref 1, .int (nI (k + 1))], b_h (b_r m 1 (b_s (m 1) 8 k)) j w, by omega, ⟨k + 1, by omega, rfl, by rw [e1]⟩, ?_⟩
      simp (disch := omega) only [h1, b_lcmp, b_s2, ↓bc_1, ↓br_1_1, ↓bc_3, ↓bx_3, bl_3, ↓b_t0, ↓b_t1, ↓b_t2, ↓b_t3, ↓b_t4, ↓b_t5, ↓b_t6, Nat.zero_add, Nat.le_refl, b_rs, b_rn, b_r2, b_ss, b_sn, b_bt, b_bf, b_b0, b_b1, b_bw, b_shl, b_or, b_iv, b_jv, b_sI, b_sJ, ↓z_hl, z_b0, z_b1, z_b2, b_and1c, b_and1z, if_true, if_false, nI_add, pk_mul, b_cl, b_lt, b_le, b_eq, b_eq0, b_le0, b_0lt, b_0le, b_lt0]
      rw [if_neg (by omega), if_pos c2]
    · rw [if_neg c2] at e1
      refine ⟨q - 1, [.ref 1, .int (nI (k + 1))], b_h (b_r m 1 (b_s (m 1) 8 (w_kyn (j 1 7) k))) j w, by omega, ⟨k + 1, by omega, rfl, by rw [e1]⟩, ?_⟩
      simp (disch := omega) only [h1, b_lcmp, b_s2, ↓bc_1, ↓br_1_1, ↓bc_3, ↓bx_3, bl_3, ↓b_t0, ↓b_t1, ↓b_t2, ↓b_t3, ↓b_t4, ↓b_t5, ↓b_t6, Nat.zero_add, Nat.le_refl, b_rs, b_rn, b_r2, b_ss, b_sn, b_bt, b_bf, b_b0, b_b1, b_bw, b_shl, b_or, b_iv, b_jv, b_sI, b_sJ, ↓z_hl, z_b0, z_b1, z_b2, b_and1c, b_and1z, if_true, if_false, nI_add, pk_mul, b_cl, b_lt, b_le, b_eq, b_eq0, b_le0, b_0lt, b_0le, b_lt0]
      rw [if_neg (by omega), if_neg c2]
end LC
