/-! TEXTS: the class's tape at a token -/
def l_C (m j : Nat → Nat → Nat) (n q p : Nat) : Prop :=
  (m 1 2 = n) ∧
  (m 1 3 = q) ∧
  (m 1 4 = w_nx (m 2) n q p) ∧
  (m 1 5 = w_kd (m 2) n q p) ∧
  (m 1 6 = w_pl (m 2) n q p) ∧
  (m 1 8 = w_ky (m 2) n q p) ∧
  (w_kd (m 2) n q p = 1 → j 1 7 = w_le (m 2) n q p) ∧
  (w_kd (m 2) n q p = 2 → m 1 9 = w_va (m 2) n q p)
theorem l_C_sz {m j : Nat → Nat → Nat} {n q p : Nat} (h : l_C m j n q p) : m 1 2 = n := h.1
theorem l_C_mo {m j : Nat → Nat → Nat} {n q p : Nat} (h : l_C m j n q p) : m 1 3 = q := h.2.1
theorem l_C_nx {m j : Nat → Nat → Nat} {n q p : Nat} (h : l_C m j n q p) : m 1 4 = w_nx (m 2) n q p := h.2.2.1
theorem l_C_kd {m j : Nat → Nat → Nat} {n q p : Nat} (h : l_C m j n q p) : m 1 5 = w_kd (m 2) n q p := h.2.2.2.1
theorem l_C_pl {m j : Nat → Nat → Nat} {n q p : Nat} (h : l_C m j n q p) : m 1 6 = w_pl (m 2) n q p := h.2.2.2.2.1
theorem l_C_ky {m j : Nat → Nat → Nat} {n q p : Nat} (h : l_C m j n q p) : m 1 8 = w_ky (m 2) n q p := h.2.2.2.2.2.1
theorem l_C_le {m j : Nat → Nat → Nat} {n q p : Nat} (h : l_C m j n q p) : w_kd (m 2) n q p = 1 → j 1 7 = w_le (m 2) n q p := h.2.2.2.2.2.2.1
theorem l_C_va {m j : Nat → Nat → Nat} {n q p : Nat} (h : l_C m j n q p) : w_kd (m 2) n q p = 2 → m 1 9 = w_va (m 2) n q p := h.2.2.2.2.2.2.2
/-- only the tape's own cell, and no fault -/
def l_fr (m m2 j j2 : Nat → Nat → Nat) : Prop := (∀ c, c ≠ 1 → m2 c = m c) ∧ (∀ c, c ≠ 1 → j2 c = j c) ∧ m2 1 10 = m 1 10 ∧ m2 1 11 = m 1 11
theorem w_rk_1 {b : Nat → Nat} {n i : Nat} (hi : i ≤ n) (hb : ∀ x, x < n → b x < 256) (h : w_rk b i (w_re b n i) = 1) : w_lg b i (w_re b n i - i) < 34359738368 ∧ w_re b n i - i ≤ 7 ∧ w_nd2 b i (w_re b n i - i) = 0 := by
  obtain ⟨g1, g2, g3, g4⟩ := w_re_le (b := b) (n := n) (i := i)
  have g2 := g2 hi
  have h1 := w_sum_ld (b := b) (i := i) (w_re b n i - i) (fun x hx => g3 (i + x) (by omega) (by omega))
  unfold w_rk at h
  by_cases c : w_nd2 b i (w_re b n i - i) = 0 ∧ w_ns b i (w_re b n i - i) ≤ 7
  · have h2 := w_lg_lt2 (b := b) (i := i) (n := n) hb (w_re b n i - i) (by omega)
    have h3 : 32 ^ (w_re b n i - i) ≤ 32 ^ 7 := Nat.pow_le_pow_right (by decide) (by omega)
    have h4 : (32 : Nat) ^ 7 = 34359738368 := by decide
    exact ⟨by omega, by omega, c.1⟩
  · rw [if_neg c] at h
    split at h <;> omega
theorem w_rk_2 {b : Nat → Nat} {n i : Nat} (hi : i ≤ n) (hb : ∀ x, x < n → b x < 256) (h : w_rk b i (w_re b n i) = 2) : w_vg b i (w_re b n i - i) < 1000 ∧ w_re b n i - i ≤ 3 ∧ w_ns b i (w_re b n i - i) = 0 := by
  obtain ⟨g1, g2, g3, g4⟩ := w_re_le (b := b) (n := n) (i := i)
  have g2 := g2 hi
  have h1 := w_sum_ld (b := b) (i := i) (w_re b n i - i) (fun x hx => g3 (i + x) (by omega) (by omega))
  unfold w_rk at h
  by_cases c : w_nd2 b i (w_re b n i - i) = 0 ∧ w_ns b i (w_re b n i - i) ≤ 7
  · rw [if_pos c] at h; omega
  · rw [if_neg c] at h
    by_cases c2 : w_ns b i (w_re b n i - i) = 0 ∧ w_nd2 b i (w_re b n i - i) ≤ 3
    · have h2 := w_vg_lt2 (b := b) (i := i) (n := n) hb (w_re b n i - i) (by omega)
      have h3 : 10 ^ (w_re b n i - i) ≤ 10 ^ 3 := Nat.pow_le_pow_right (by decide) (by omega)
      have h4 : (10 : Nat) ^ 3 = 1000 := by decide
      exact ⟨by omega, by omega, c2.1⟩
    · rw [if_neg c2] at h; omega
theorem w_rk_b {b : Nat → Nat} {i e : Nat} : w_rk b i e ≤ 2 := by
  unfold w_rk
  split
  · decide
  · split <;> decide
section LD
variable {X : Nat × (Nat → Int32)} {tx : List Int32} {D : Nat} {m j : Nat → Nat → Nat} {w : (Nat × Nat) × Bool}
theorem s_Ta_step20 {d f : Nat} (hd : 1 ≤ d) {n q p : Nat} (hn : m 1 2 = n) (hq : m 1 3 = q) (hp : m 1 4 = p) (hn2 : n ≤ 940) (hq2 : q ≤ 940) (hp2 : p ≤ 940) (hb : ∀ x, x < n → m 2 x < 256) (hw : ∀ k, k < 19 → j 3 k = w_wl k) : ∃ m2 j2, a_rn X tx (a_ex X tx a_T d) (a_go X tx (a_ex X tx a_T d) k_Ta_step_0 f) k_Ta_step_20 0 [.ref 1, .int (nI (min n q)), .int (nI (w_pb2 (m 2) n q p))] [] (b_h m j w) = some (b_h m2 j2 w, none) ∧ l_C m2 j2 n q p ∧ l_fr m m2 j j2 := by
  obtain ⟨a1, a2, a3, a4⟩ := w_sk_le (b := m 2) (u := min n q) (p := p)
  have a5 : w_sk (m 2) (min n q) p ≤ 940 := by
    by_cases c : p ≤ min n q
    · have := a2 c; omega
    · rw [w_sk_hi (by omega)]; exact hp2
  have hi0 : w_pb2 (m 2) n q p = w_sk (m 2) (min n q) p := rfl
  rw [← hi0] at a1 a2 a3 a4 a5
  rw [q_Ta_step_20]
  by_cases c : w_pb2 (m 2) n q p < min n q
  · have kd : w_kd (m 2) n q p = w_kn (m 2) n (w_pb2 (m 2) n q p) := if_pos c
    have pl : w_pl (m 2) n q p = w_pb2 (m 2) n q p := if_pos c
    have nx : w_nx (m 2) n q p = if w_re (m 2) n (w_pb2 (m 2) n q p) = w_pb2 (m 2) n q p then w_pb2 (m 2) n q p + 1 else w_re (m 2) n (w_pb2 (m 2) n q p) := if_pos c
    have le : w_le (m 2) n q p = w_lg (m 2) (w_pb2 (m 2) n q p) (w_re (m 2) n (w_pb2 (m 2) n q p) - w_pb2 (m 2) n q p) := rfl
    have va : w_va (m 2) n q p = w_vg (m 2) (w_pb2 (m 2) n q p) (w_re (m 2) n (w_pb2 (m 2) n q p) - w_pb2 (m 2) n q p) := rfl
    have kyd : w_ky (m 2) n q p = if w_kd (m 2) n q p = 1 then w_kyn (w_le (m 2) n q p) 19 else 4294967295 := rfl
    generalize w_pb2 (m 2) n q p = i at *
    have hsz : (b_r m 1 (b_s (b_s (m 1) 8 4294967295) 6 i)) 1 2 = n := by rw [b_rs, b_sn (by decide), b_sn (by decide)]; exact hn
    have hpl : (b_r m 1 (b_s (b_s (m 1) 8 4294967295) 6 i)) 1 6 = i := by rw [b_rs, b_ss]
    have h2 : (b_r m 1 (b_s (b_s (m 1) 8 4294967295) 6 i)) 2 = m 2 := b_rn (by decide)
    have s1 := s_Ta_readRun (X := X) (tx := tx) (D := d) (m := b_r m 1 (b_s (b_s (m 1) 8 4294967295) 6 i)) (j := j) (w := w) hd hsz hn2 hpl (by omega) (by rw [h2]; exact hb)
    rw [h2, b_r2, b_rs] at s1
    obtain ⟨g1, g2, g3, g4⟩ := w_re_le (b := m 2) (n := n) (i := i)
    have g2 := g2 (by omega)
    have hrb := w_rk_b (b := m 2) (i := i) (e := w_re (m 2) n i)
    have hbi := hb i (by omega)
    have kn : w_kn (m 2) n i = if w_re (m 2) n i = i then (if z_sg (m 2 i) = true then m 2 i else 0) else w_rk (m 2) i (w_re (m 2) n i) := rfl
    have hk1 := fun h => w_rk_1 (b := m 2) (n := n) (i := i) (by omega) hb h
    have fr : ∀ f2 f3 : Nat → Nat, f2 10 = m 1 10 → f2 11 = m 1 11 → l_fr m (b_r m 1 f2) j (b_r j 1 f3) := fun f2 f3 x1 x2 => ⟨fun c hc => b_rn hc, fun c hc => b_rn hc, by rw [b_rs]; exact x1, by rw [b_rs]; exact x2⟩
    by_cases c2 : w_re (m 2) n i = i
    · rw [if_pos c2] at kn nx
      have s2 := s_Ta_isSign (X := X) (tx := tx) (D := d) (m := b_r m 1 (b_s (b_s (b_s (b_s (b_s (m 1) 8 4294967295) 6 i) 9 (w_vg (m 2) i (w_re (m 2) n i - i))) 4 (w_re (m 2) n i)) 5 (w_rk (m 2) i (w_re (m 2) n i)))) (j := b_r j 1 (b_s (j 1) 7 (w_lg (m 2) i (w_re (m 2) n i - i)))) (w := w) hd (c := m 2 i) hbi
      have knn : w_kn (m 2) n i ≠ 1 ∧ w_kn (m 2) n i ≠ 2 := by
        rw [kn]
        cases hs : z_sg (m 2 i) with
        | true =>
          have := of_decide_eq_true (show decide (m 2 i = 59 ∨ m 2 i = 60 ∨ m 2 i = 61 ∨ m 2 i = 62 ∨ m 2 i = 40 ∨ m 2 i = 41) = true from hs)
          rw [if_pos rfl]
          omega
        | false => rw [if_neg (by decide)]; decide
      rw [c2] at s1 s2
      refine ⟨b_r m 1 (b_s (b_s (b_s (b_s (b_s (b_s (b_s (m 1) 8 4294967295) 6 i) 9 (w_vg (m 2) i (i - i))) 4 i) 5 (w_rk (m 2) i i)) 5 (w_kn (m 2) n i)) 4 (i + 1)), b_r j 1 (b_s (j 1) 7 (w_lg (m 2) i (i - i))), ?_, ?_, ?_⟩
      · cases hs : z_sg (m 2 i) with
        | true =>
          rw [hs] at s2 kn
          rw [if_pos rfl] at kn
          rw [kn]
          simp (disch := omega) only [s1, s2, Nat.one_ne_zero, ↓bc_1, ↓br_1_0, ↓bc_2, ↓bx_2, bl_2, ↓b_t0, ↓b_t1, ↓b_t2, ↓b_t3, ↓b_t4, ↓b_t5, ↓b_t6, Nat.zero_add, Nat.le_refl, b_rs, b_rn, b_r2, b_ss, b_sn, b_bt, b_bf, b_b0, b_b1, b_bw, b_shl, b_or, b_iv, b_jv, b_sI, b_sJ, ↓z_hl, z_b0, z_b1, z_b2, b_and1c, b_and1z, if_true, if_false, nI_add, pk_mul, b_cl, b_lt, b_le, b_eq, b_eq0, b_le0, b_0lt, b_0le, b_lt0]
          rw [if_pos c]
        | false =>
          rw [hs] at s2 kn
          rw [if_neg (by decide)] at kn
          rw [kn]
          simp (disch := omega) only [s1, s2, ↓bc_1, ↓br_1_0, ↓bc_2, ↓bx_2, bl_2, ↓b_t0, ↓b_t1, ↓b_t2, ↓b_t3, ↓b_t4, ↓b_t5, ↓b_t6, Nat.zero_add, Nat.le_refl, b_rs, b_rn, b_r2, b_ss, b_sn, b_bt, b_bf, b_b0, b_b1, b_bw, b_shl, b_or, b_iv, b_jv, b_sI, b_sJ, ↓z_hl, z_b0, z_b1, z_b2, b_and1c, b_and1z, if_true, if_false, nI_add, pk_mul, b_cl, b_lt, b_le, b_eq, b_eq0, b_le0, b_0lt, b_0le, b_lt0]
          rw [if_pos c]
      · refine ⟨?_, ?_, ?_, ?_, ?_, ?_, ?_, ?_⟩
        · rw [b_rs, b_sn (by decide), b_sn (by decide), b_sn (by decide), b_sn (by decide), b_sn (by decide), b_sn (by decide), b_sn (by decide)]; exact hn
        · rw [b_rs, b_sn (by decide), b_sn (by decide), b_sn (by decide), b_sn (by decide), b_sn (by decide), b_sn (by decide), b_sn (by decide)]; exact hq
        · rw [b_rs, b_ss, b_rn (by decide), nx]
        · rw [b_rs, b_sn (by decide), b_ss, b_rn (by decide), kd]
        · rw [b_rs, b_sn (by decide), b_sn (by decide), b_sn (by decide), b_sn (by decide), b_sn (by decide), b_ss, b_rn (by decide), pl]
        · rw [b_rs, b_sn (by decide), b_sn (by decide), b_sn (by decide), b_sn (by decide), b_sn (by decide), b_sn (by decide), b_ss, b_rn (by decide), kyd, kd, if_neg knn.1]
        · rw [b_rn (by decide), kd]; exact fun g => absurd g knn.1
        · rw [b_rn (by decide), kd]; exact fun g => absurd g knn.2
      · exact fr _ _ (by rw [b_sn (by decide), b_sn (by decide), b_sn (by decide), b_sn (by decide), b_sn (by decide), b_sn (by decide), b_sn (by decide)]) (by rw [b_sn (by decide), b_sn (by decide), b_sn (by decide), b_sn (by decide), b_sn (by decide), b_sn (by decide), b_sn (by decide)])
    · rw [if_neg c2] at kn nx
      generalize hre : w_re (m 2) n i = e at *
      by_cases c3 : w_rk (m 2) i e = 1
      · have hL := (hk1 c3).1
        have s3 := s_Ta_findKey (X := X) (tx := tx) (D := d) (m := b_r m 1 (b_s (b_s (b_s (b_s (b_s (m 1) 8 4294967295) 6 i) 9 (w_vg (m 2) i (e - i))) 4 e) 5 (w_rk (m 2) i e))) (j := b_r j 1 (b_s (j 1) 7 (w_lg (m 2) i (e - i)))) (w := w) hd (fun k hk => by rw [b_rn (by decide)]; exact hw k hk) (by rw [b_rs, b_ss]; exact hL) (by rw [b_rs, b_sn (by decide), b_sn (by decide), b_sn (by decide), b_sn (by decide), b_ss])
        rw [b_r2, b_rs, b_rs, b_ss] at s3
        rw [c3] at s1 s3
        refine ⟨b_r m 1 (b_s (b_s (b_s (b_s (b_s (b_s (m 1) 8 4294967295) 6 i) 9 (w_vg (m 2) i (e - i))) 4 e) 5 1) 8 (w_kyn (w_lg (m 2) i (e - i)) 19)), b_r j 1 (b_s (j 1) 7 (w_lg (m 2) i (e - i))), ?_, ?_, fr _ _ ?_ ?_⟩
        · simp (disch := omega) only [s1, s3, ↓bc_1, ↓br_1_0, ↓bc_2, ↓bx_2, bl_2, ↓b_t0, ↓b_t1, ↓b_t2, ↓b_t3, ↓b_t4, ↓b_t5, ↓b_t6, Nat.zero_add, Nat.le_refl, b_rs, b_rn, b_r2, b_ss, b_sn, b_bt, b_bf, b_b0, b_b1, b_bw, b_shl, b_or, b_iv, b_jv, b_sI, b_sJ, ↓z_hl, z_b0, z_b1, z_b2, b_and1c, b_and1z, if_true, if_false, nI_add, pk_mul, b_cl, b_lt, b_le, b_eq, b_eq0, b_le0, b_0lt, b_0le, b_lt0]
          rw [if_pos c, if_neg c2]
        · refine ⟨?_, ?_, ?_, ?_, ?_, ?_, ?_, ?_⟩
          · rw [b_rs, b_sn (by decide), b_sn (by decide), b_sn (by decide), b_sn (by decide), b_sn (by decide), b_sn (by decide)]; exact hn
          · rw [b_rs, b_sn (by decide), b_sn (by decide), b_sn (by decide), b_sn (by decide), b_sn (by decide), b_sn (by decide)]; exact hq
          · rw [b_rs, b_sn (by decide), b_sn (by decide), b_ss, b_rn (by decide), nx]
          · rw [b_rs, b_sn (by decide), b_ss, b_rn (by decide), kd, kn, c3]
          · rw [b_rs, b_sn (by decide), b_sn (by decide), b_sn (by decide), b_sn (by decide), b_ss, b_rn (by decide), pl]
          · rw [b_rs, b_ss, b_rn (by decide), kyd, kd, kn, if_pos c3, le]
          · rw [b_rn (by decide), b_rs, b_ss, le]; exact fun _ => rfl
          · rw [b_rn (by decide), b_rs, b_sn (by decide), b_sn (by decide), b_sn (by decide), b_ss, va]; exact fun _ => rfl
        all_goals rw [b_sn (by decide), b_sn (by decide), b_sn (by decide), b_sn (by decide), b_sn (by decide), b_sn (by decide)]
      · refine ⟨b_r m 1 (b_s (b_s (b_s (b_s (b_s (m 1) 8 4294967295) 6 i) 9 (w_vg (m 2) i (e - i))) 4 e) 5 (w_rk (m 2) i e)), b_r j 1 (b_s (j 1) 7 (w_lg (m 2) i (e - i))), ?_, ?_, fr _ _ ?_ ?_⟩
        · simp (disch := omega) only [s1, ↓bc_1, ↓br_1_0, ↓bc_2, ↓bx_2, bl_2, ↓b_t0, ↓b_t1, ↓b_t2, ↓b_t3, ↓b_t4, ↓b_t5, ↓b_t6, Nat.zero_add, Nat.le_refl, b_rs, b_rn, b_r2, b_ss, b_sn, b_bt, b_bf, b_b0, b_b1, b_bw, b_shl, b_or, b_iv, b_jv, b_sI, b_sJ, ↓z_hl, z_b0, z_b1, z_b2, b_and1c, b_and1z, if_true, if_false, nI_add, pk_mul, b_cl, b_lt, b_le, b_eq, b_eq0, b_le0, b_0lt, b_0le, b_lt0]
          rw [if_pos c, if_neg c2, if_neg c3]
        · refine ⟨?_, ?_, ?_, ?_, ?_, ?_, ?_, ?_⟩
          · rw [b_rs, b_sn (by decide), b_sn (by decide), b_sn (by decide), b_sn (by decide), b_sn (by decide)]; exact hn
          · rw [b_rs, b_sn (by decide), b_sn (by decide), b_sn (by decide), b_sn (by decide), b_sn (by decide)]; exact hq
          · rw [b_rs, b_sn (by decide), b_ss, b_rn (by decide), nx]
          · rw [b_rs, b_ss, b_rn (by decide), kd, kn]
          · rw [b_rs, b_sn (by decide), b_sn (by decide), b_sn (by decide), b_ss, b_rn (by decide), pl]
          · rw [b_rs, b_sn (by decide), b_sn (by decide), b_sn (by decide), b_sn (by decide), b_ss, b_rn (by decide), kyd, kd, kn, if_neg c3]
          · rw [b_rn (by decide), b_rs, b_ss, le]; exact fun _ => rfl
          · rw [b_rn (by decide), b_rs, b_sn (by decide), b_sn (by decide), b_ss, va]; exact fun _ => rfl
        all_goals rw [b_sn (by decide), b_sn (by decide), b_sn (by decide), b_sn (by decide), b_sn (by decide)]
  · have kd : w_kd (m 2) n q p = if n ≤ q then 3 else 4 := if_neg c
    have pl : w_pl (m 2) n q p = min n q := if_neg c
    have nx : w_nx (m 2) n q p = p := if_neg c
    have kd1 : w_kd (m 2) n q p ≠ 1 ∧ w_kd (m 2) n q p ≠ 2 := by rw [kd]; split <;> decide
    have kyd : w_ky (m 2) n q p = if w_kd (m 2) n q p = 1 then w_kyn (w_le (m 2) n q p) 19 else 4294967295 := rfl
    rw [if_neg kd1.1] at kyd
    refine ⟨b_r m 1 (b_s (b_s (b_s (m 1) 8 4294967295) 6 (min n q)) 5 (w_kd (m 2) n q p)), j, ?_, ?_, ⟨fun c hc => b_rn hc, fun _ _ => rfl, by rw [b_rs, b_sn (by decide), b_sn (by decide), b_sn (by decide)], by rw [b_rs, b_sn (by decide), b_sn (by decide), b_sn (by decide)]⟩⟩
    · rw [kd]
      by_cases c2 : n ≤ q
      · rw [if_pos c2]
        simp (disch := omega) only [hn, hq, ↓bc_1, ↓br_1_0, ↓bc_2, ↓bx_2, bl_2, ↓b_t0, ↓b_t1, ↓b_t2, ↓b_t3, ↓b_t4, ↓b_t5, ↓b_t6, Nat.zero_add, Nat.le_refl, b_rs, b_rn, b_r2, b_ss, b_sn, b_bt, b_bf, b_b0, b_b1, b_bw, b_shl, b_or, b_iv, b_jv, b_sI, b_sJ, ↓z_hl, z_b0, z_b1, z_b2, b_and1c, b_and1z, if_true, if_false, nI_add, pk_mul, b_cl, b_lt, b_le, b_eq, b_eq0, b_le0, b_0lt, b_0le, b_lt0]
        rw [if_neg c, if_pos c2]
      · rw [if_neg c2]
        simp (disch := omega) only [hn, hq, ↓bc_1, ↓br_1_0, ↓bc_2, ↓bx_2, bl_2, ↓b_t0, ↓b_t1, ↓b_t2, ↓b_t3, ↓b_t4, ↓b_t5, ↓b_t6, Nat.zero_add, Nat.le_refl, b_rs, b_rn, b_r2, b_ss, b_sn, b_bt, b_bf, b_b0, b_b1, b_bw, b_shl, b_or, b_iv, b_jv, b_sI, b_sJ, ↓z_hl, z_b0, z_b1, z_b2, b_and1c, b_and1z, if_true, if_false, nI_add, pk_mul, b_cl, b_lt, b_le, b_eq, b_eq0, b_le0, b_0lt, b_0le, b_lt0]
        rw [if_neg c, if_neg c2]
    · refine ⟨?_, ?_, ?_, ?_, ?_, ?_, ?_, ?_⟩
      · rw [b_rs, b_sn (by decide), b_sn (by decide), b_sn (by decide)]; exact hn
      · rw [b_rs, b_sn (by decide), b_sn (by decide), b_sn (by decide)]; exact hq
      · rw [b_rs, b_sn (by decide), b_sn (by decide), b_sn (by decide), b_rn (by decide), nx]; exact hp
      · rw [b_rs, b_ss, b_rn (by decide)]
      · rw [b_rs, b_sn (by decide), b_ss, b_rn (by decide), pl]
      · rw [b_rs, b_sn (by decide), b_sn (by decide), b_ss, b_rn (by decide), kyd]
      · rw [b_rn (by decide)]; exact fun g => absurd g kd1.1
      · rw [b_rn (by decide)]; exact fun g => absurd g kd1.2
theorem s_Ta_step (hD : 2 ≤ D) {n q p : Nat} (hn : m 1 2 = n) (hq : m 1 3 = q) (hp : m 1 4 = p) (hn2 : n ≤ 940) (hq2 : q ≤ 940) (hp2 : p ≤ 940) (hb : ∀ x, x < n → m 2 x < 256) (hw : ∀ k, k < 19 → j 3 k = w_wl k) : ∃ m2 j2, a_ex X tx a_T D 4 [.ref 1] (b_h m j w) = some (b_h m2 j2 w, none) ∧ l_C m2 j2 n q p ∧ l_fr m m2 j j2 := by
  obtain ⟨d, rfl⟩ : ∃ d, D = d + 1 := ⟨D - 1, by omega⟩
  have s20 := fun f => s_Ta_step20 (X := X) (tx := tx) (d := d) (f := f) (m := m) (j := j) (w := w) (by omega) hn hq hp hn2 hq2 hp2 hb hw
  rw [e_Ta_step, q_Ta_step_0]
  simp (disch := omega) only [hn, hq, hp, b_min, ↓bc_1, ↓br_1_0, ↓bc_2, ↓bx_2, bl_2, ↓b_t0, ↓b_t1, ↓b_t2, ↓b_t3, ↓b_t4, ↓b_t5, ↓b_t6, Nat.zero_add, Nat.le_refl, b_rs, b_rn, b_r2, b_ss, b_sn, b_bt, b_bf, b_b0, b_b1, b_bw, b_shl, b_or, b_iv, b_jv, b_sI, b_sJ, ↓z_hl, z_b0, z_b1, z_b2, b_and1c, b_and1z, if_true, if_false, nI_add, pk_mul, b_cl, b_lt, b_le, b_eq, b_eq0, b_le0, b_0lt, b_0le, b_lt0]
  rw [← l_Ta_step_9]
  refine z_run (Q := fun r => ∃ m2 j2, r = some (b_h m2 j2 w, none) ∧ l_C m2 j2 n q p ∧ l_fr m m2 j j2) (fun k L h => ∃ x, k + x = 940 ∧ p ≤ x ∧ (x ≤ min n q ∨ x = p) ∧ (∀ y, p ≤ y → y < x → z_bl (m 2 y) = true) ∧ L = [.ref 1, .int (nI (min n q)), .int (nI x)] ∧ h = b_h m j w) 0 ?_ (940 - p) _ _ ⟨p, by omega, by omega, Or.inr rfl, fun y h1 h2 => absurd h2 (by omega), rfl, rfl⟩ _ (z_fu (by omega))
  rintro k L h ⟨x, hk, hx, hx2, hbl, rfl, rfl⟩ f _
  rw [l_Ta_step_9, q_Ta_step_9]
  by_cases c : min n q ≤ x
  · left
    have e1 : w_pb2 (m 2) n q p = x := by
      by_cases c2 : p ≤ min n q
      · exact w_sk_eq hx (by omega) hbl (fun g => absurd g (by omega))
      · show w_sk (m 2) (min n q) p = x
        rw [w_sk_hi (by omega)]
        omega
    obtain ⟨m2, j2, h1, h2⟩ := s20 f
    rw [e1] at h1
    refine ⟨m2, j2, ?_, h2⟩
    rw [if_pos (by rw [b_le (by omega) (by omega)]; exact c)]
    exact h1
  · have s1 := s_Ta_isBlank (X := X) (tx := tx) (D := d) (m := m) (j := j) (w := w) (by omega) (c := m 2 x) (hb x (by omega))
    have hbx := hb x (by omega)
    cases hc : z_bl (m 2 x) with
    | true =>
      right
      rw [hc] at s1
      refine ⟨k - 1, [.ref 1, .int (nI (min n q)), .int (nI (x + 1))], _, by omega, ⟨x + 1, by omega, by omega, Or.inl (by omega), fun y h1 h2 => ?_, rfl, rfl⟩, ?_⟩
      · by_cases c2 : y = x
        · rw [c2]; exact hc
        · exact hbl y h1 (by omega)
      · rw [if_neg (by rw [b_le (by omega) (by omega)]; exact c)]
        simp (disch := omega) only [s1, Nat.one_ne_zero, ↓bc_1, ↓br_1_0, ↓bc_2, ↓bx_2, bl_2, ↓b_t0, ↓b_t1, ↓b_t2, ↓b_t3, ↓b_t4, ↓b_t5, ↓b_t6, Nat.zero_add, Nat.le_refl, b_rs, b_rn, b_r2, b_ss, b_sn, b_bt, b_bf, b_b0, b_b1, b_bw, b_shl, b_or, b_iv, b_jv, b_sI, b_sJ, ↓z_hl, z_b0, z_b1, z_b2, b_and1c, b_and1z, if_true, if_false, nI_add, pk_mul, b_cl, b_lt, b_le, b_eq, b_eq0, b_le0, b_0lt, b_0le, b_lt0]
    | false =>
      left
      rw [hc] at s1
      have e1 : w_pb2 (m 2) n q p = x := w_sk_eq hx (by omega) hbl (fun _ => hc)
      obtain ⟨m2, j2, h1, h2⟩ := s20 f
      rw [e1] at h1
      refine ⟨m2, j2, ?_, h2⟩
      rw [if_neg (by rw [b_le (by omega) (by omega)]; exact c)]
      simp (disch := omega) only [s1, ↓bc_1, ↓br_1_0, ↓bc_2, ↓bx_2, bl_2, ↓b_t0, ↓b_t1, ↓b_t2, ↓b_t3, ↓b_t4, ↓b_t5, ↓b_t6, Nat.zero_add, Nat.le_refl, b_rs, b_rn, b_r2, b_ss, b_sn, b_bt, b_bf, b_b0, b_b1, b_bw, b_shl, b_or, b_iv, b_jv, b_sI, b_sJ, ↓z_hl, z_b0, z_b1, z_b2, b_and1c, b_and1z, if_true, if_false, nI_add, pk_mul, b_cl, b_lt, b_le, b_eq, b_eq0, b_le0, b_0lt, b_0le, b_lt0]
      exact h1
end LD
