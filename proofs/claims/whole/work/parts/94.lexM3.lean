/-! TEXTS: the reference goes on to the next token -/
section LP
variable {X : Nat × (Nat → Int32)} {tx : List Int32} {D : Nat} {m j : Nat → Nat → Nat} {w : (Nat × Nat) × Bool}
/-- at a byte that is no blank, or the end -/
theorem s_Mo_next40 {d f : Nat} {b : Nat → Nat} (hd : 1 ≤ d) (hf : 2000 ≤ f) {n q p : Nat} (hn : m 234 3 = n) (hq : m 234 5 = q) (hn2 : n ≤ 940) (hx : m 234 4 = w_pb2 b n q p) (hat : m 234 12 = w_pl b n q p) (h13 : m 234 13 = 0) (hb : ∀ x, x < n → m 235 x % 256 = b x) (hc : w_pb2 b n q p < min n q ∨ (w_pb2 b n q p = n ∧ n ≤ q)) : ∃ m2 j2, a_rn X tx (a_ex X tx a_T d) (a_go X tx (a_ex X tx a_T d) k_Mo_next_0 f) k_Mo_next_40 0 [.ref 234, .retAddr 0, .retAddr 0, .retAddr 0] [] (b_h m j w) = some (b_h m2 j2 w, none) ∧ l_M m2 j2 b n q p ∧ lm_fr m m2 j j2 := by
  have hb2 : ∀ x, x < n → b x < 256 := fun x hx => by rw [← hb x hx]; exact Nat.mod_lt _ (by decide)
  have kd1 : w_kd b n q p = if w_pb2 b n q p < min n q then w_kn b n (w_pb2 b n q p) else if n ≤ q then 3 else 4 := rfl
  have nx1 : w_nx b n q p = if w_pb2 b n q p < min n q then (if w_re b n (w_pb2 b n q p) = w_pb2 b n q p then w_pb2 b n q p + 1 else w_re b n (w_pb2 b n q p)) else p := rfl
  have le : w_le b n q p = w_lg b (w_pb2 b n q p) (w_re b n (w_pb2 b n q p) - w_pb2 b n q p) := rfl
  have va : w_va b n q p = w_vg b (w_pb2 b n q p) (w_re b n (w_pb2 b n q p) - w_pb2 b n q p) := rfl
  have n1 : (0 ≤ nI 4294967295) = False := b_0len (by decide) (by decide)
  have t1 : ¬ (nI (b_b true) = 0) := by decide +kernel
  have t0 : nI (b_b false) = 0 := by decide +kernel
  have hpk := s_Mo_peek (X := X) (tx := tx) (D := d) (m := m) (j := j) (w := w) hd (b := b) hn hx hn2 (by omega) hb
  rw [q_Mo_next_40]
  rcases hc with hc | ⟨hc, hc2⟩
  · rw [if_pos hc] at kd1 nx1
    rw [if_pos (by omega)] at hpk
    have hbi := hb2 (w_pb2 b n q p) (by omega)
    have kn : w_kn b n (w_pb2 b n q p) = if w_re b n (w_pb2 b n q p) = w_pb2 b n q p then (if z_sg (b (w_pb2 b n q p)) = true then b (w_pb2 b n q p) else 0) else w_rk b (w_pb2 b n q p) (w_re b n (w_pb2 b n q p)) := rfl
    obtain ⟨g1, g2, g3, g4⟩ := w_re_le (b := b) (n := n) (i := w_pb2 b n q p)
    generalize hi : w_pb2 b n q p = i at *
    have s2 := s_Mo_isSmall (X := X) (tx := tx) (D := d) (m := m) (j := j) (w := w) hd (c := b i) hbi
    have s3 := s_Mo_isDigit (X := X) (tx := tx) (D := d) (m := m) (j := j) (w := w) hd (c := b i) hbi
    cases hl : z_ld (b i) with
    | true =>
      have hne : w_re b n i ≠ i := fun g => by
        have := g4 (by omega)
        rw [g, hl] at this
        exact absurd this (by decide)
      rw [if_neg hne] at kn nx1
      have M0 : ∃ m2 j2, a_rn X tx (a_ex X tx a_T d) (a_go X tx (a_ex X tx a_T d) k_Mo_next_0 f) k_Mo_next_96 0 [.ref 234, .int (nI (b i)), .int (nI (b_b (z_sm (b i)))), .int (nI 1)] [] (b_h (b_r m 234 (b_s (m 234) 14 0)) (b_r j 234 (b_s (j 234) 17 0)) w) = some (b_h m2 j2 w, none) ∧ l_M m2 j2 b n q p ∧ lm_fr m m2 j j2 := by
        obtain ⟨m2, j2, e1, e2, e3, e4, e5, e6, e7⟩ := s_Mo_next96 (X := X) (tx := tx) (d := d) (m := b_r m 234 (b_s (m 234) 14 0)) (j := b_r j 234 (b_s (j 234) 17 0)) (w := w) hd (b := b) (n := n) (i := i) (by rw [b_rs, b_sn (by decide)]; exact hn) hn2 (by rw [b_rs, b_sn (by decide)]; exact hx) (by omega) (by rw [b_rs, b_sn (by decide)]; exact h13) (by rw [b_rs, b_ss]) (by rw [b_rs, b_ss]) (by rw [b_rn (by decide)]; exact hb) hl (f + 1) (by omega)
        rw [l_Mo_next_96] at e1
        have fr : lm_fr m m2 j j2 := lm_tr (lm_rj lm_rf (fun k h1 h2 h3 h4 h5 => b_sn h5)) e2
        refine ⟨m2, j2, e1, ⟨?_, ?_, ?_, ?_, ?_, ?_, ?_, ?_⟩, fr⟩
        · rw [fr.2.2 3 (by decide) (by decide) (by decide) (by decide) (by decide)]; exact hn
        · rw [fr.2.2 5 (by decide) (by decide) (by decide) (by decide) (by decide)]; exact hq
        · intro _; rw [e3, nx1]
        · rw [e4, kd1, kn]
        · rw [e5, b_rs, b_sn (by decide)]; exact hat
        · rw [kd1, kn, va]; exact fun g => e6 g
        · rw [kd1, kn]
          intro g
          have := w_rk_b (b := b) (i := i) (e := w_re b n i)
          omega
        · rw [kd1, kn, le]; exact fun g => e7 g
      obtain ⟨m2, j2, e1, e2⟩ := M0
      refine ⟨m2, j2, ?_, e2⟩
      rw [← e1]
      unfold z_ld at hl
      cases hs : z_sm (b i) with
      | true =>
        rw [hs] at s2
        have s2b := s_Mo_isSmall (X := X) (tx := tx) (D := d) (m := m) (j := j) (w := w) hd (c := b i) hbi
        rw [hs] at s2b
        rw [bc_234, hpk, z_b1, if_pos (of_eq_true (b_0le (by omega))), s2, z_b1, if_neg t1]
        simp (disch := omega) only [s2, ↓bc_234, ↓b_t0, ↓b_t1, ↓b_t2, ↓b_t3, ↓b_t4, ↓b_t5, ↓b_t6, Nat.zero_add, Nat.le_refl, b_rs, b_rn, b_r2, b_ss, b_sn, b_bt, b_bf, b_b0, b_b1, b_bw, b_shl, b_or, b_iv, b_jv, b_sI, b_sJ, ↓z_hl, z_b0, z_b1, z_b2, b_and1c, b_and1z, if_true, if_false, nI_add, pk_mul, b_cl, b_lt, b_le, b_eq, b_eq0, b_le0, b_0lt, b_0le, b_lt0]
      | false =>
        rw [hs, Bool.false_or] at hl
        rw [hs] at s2
        rw [hl] at s3
        rw [bc_234, hpk, z_b1, if_pos (of_eq_true (b_0le (by omega))), s2, z_b1, if_pos t0, s3, z_b1, if_neg t1]
        simp (disch := omega) only [s2, ↓bc_234, ↓b_t0, ↓b_t1, ↓b_t2, ↓b_t3, ↓b_t4, ↓b_t5, ↓b_t6, Nat.zero_add, Nat.le_refl, b_rs, b_rn, b_r2, b_ss, b_sn, b_bt, b_bf, b_b0, b_b1, b_bw, b_shl, b_or, b_iv, b_jv, b_sI, b_sJ, ↓z_hl, z_b0, z_b1, z_b2, b_and1c, b_and1z, if_true, if_false, nI_add, pk_mul, b_cl, b_lt, b_le, b_eq, b_eq0, b_le0, b_0lt, b_0le, b_lt0]
    | false =>
      have he : w_re b n i = i := w_re_eq (Nat.le_refl _) (by omega) (fun x h1 h2 => absurd h2 (by omega)) (fun _ => hl)
      rw [if_pos he] at kn nx1
      unfold z_ld at hl
      rw [Bool.or_eq_false_iff] at hl
      rw [hl.1] at s2
      rw [hl.2] at s3
      have hkr : w_kr (w_kn b n i) = if z_sg (b i) = true then 3 else 4 := by
        rw [kn]
        cases hs : z_sg (b i) with
        | true =>
          have := of_decide_eq_true (show decide (b i = 59 ∨ b i = 60 ∨ b i = 61 ∨ b i = 62 ∨ b i = 40 ∨ b i = 41) = true from hs)
          rw [if_pos (c := true = true) rfl, if_pos (c := true = true) rfl]
          unfold w_kr
          rw [if_neg (by omega), if_neg (by omega), if_neg (by omega), if_neg (by omega)]
        | false => rfl
      have kn12 : w_kn b n i ≠ 1 ∧ w_kn b n i ≠ 2 ∧ (5 ≤ w_kn b n i → w_kn b n i = b i) := by
        rw [kn]
        cases hs : z_sg (b i) with
        | true =>
          have := of_decide_eq_true (show decide (b i = 59 ∨ b i = 60 ∨ b i = 61 ∨ b i = 62 ∨ b i = 40 ∨ b i = 41) = true from hs)
          rw [if_pos (c := true = true) rfl]
          exact ⟨by omega, by omega, fun _ => rfl⟩
        | false =>
          rw [if_neg (c := false = true) (by decide)]
          exact ⟨by decide, by decide, fun g => absurd g (by decide)⟩
      refine ⟨b_r m 234 (b_s (b_s (b_s (m 234) 11 (if z_sg (b i) = true then 3 else 4)) 14 (b i)) 4 (i + 1)), j, ?_, ⟨?_, ?_, ?_, ?_, ?_, ?_, ?_, ?_⟩, lm_r lm_rf (fun k h1 h2 h3 h4 h5 => by rw [b_sn h1, b_sn h5, b_sn h2])⟩
      · unfold z_sg
        by_cases d1 : b i = 59 ∨ b i = 60 ∨ b i = 61 ∨ b i = 62 ∨ b i = 40 ∨ b i = 41
        · rw [decide_eq_true d1, if_pos (c := true = true) rfl]
          rw [bc_234, hpk, z_b1, if_pos (of_eq_true (b_0le (by omega))), s2, z_b1, if_pos t0, s3, z_b1, if_pos t0]
          simp (disch := omega) only [hx, ↓bc_234, ↓b_t0, ↓b_t1, ↓b_t2, ↓b_t3, ↓b_t4, ↓b_t5, ↓b_t6, Nat.zero_add, Nat.le_refl, b_rs, b_rn, b_r2, b_ss, b_sn, b_bt, b_bf, b_b0, b_b1, b_bw, b_shl, b_or, b_iv, b_jv, b_sI, b_sJ, ↓z_hl, z_b0, z_b1, z_b2, b_and1c, b_and1z, if_true, if_false, nI_add, pk_mul, b_cl, b_lt, b_le, b_eq, b_eq0, b_le0, b_0lt, b_0le, b_lt0]
          by_cases d2 : b i = 59
          · rw [if_pos d2]
          · rw [if_neg d2]
            by_cases d3 : b i = 40
            · rw [if_pos d3]
            · rw [if_neg d3]
              by_cases d4 : b i = 41
              · rw [if_pos d4]
              · rw [if_neg d4, if_neg (by omega), if_neg (by omega)]
        · rw [decide_eq_false d1, if_neg (c := false = true) (by decide)]
          rw [bc_234, hpk, z_b1, if_pos (of_eq_true (b_0le (by omega))), s2, z_b1, if_pos t0, s3, z_b1, if_pos t0]
          simp (disch := omega) only [hx, ↓bc_234, ↓b_t0, ↓b_t1, ↓b_t2, ↓b_t3, ↓b_t4, ↓b_t5, ↓b_t6, Nat.zero_add, Nat.le_refl, b_rs, b_rn, b_r2, b_ss, b_sn, b_bt, b_bf, b_b0, b_b1, b_bw, b_shl, b_or, b_iv, b_jv, b_sI, b_sJ, ↓z_hl, z_b0, z_b1, z_b2, b_and1c, b_and1z, if_true, if_false, nI_add, pk_mul, b_cl, b_lt, b_le, b_eq, b_eq0, b_le0, b_0lt, b_0le, b_lt0]
          rw [if_neg (by omega), if_neg (by omega), if_neg (by omega)]
          by_cases d5 : b i < 60
          · rw [if_pos d5]
          · rw [if_neg d5, if_pos (by omega)]
      · rw [b_rs, b_sn (by decide), b_sn (by decide), b_sn (by decide)]; exact hn
      · rw [b_rs, b_sn (by decide), b_sn (by decide), b_sn (by decide)]; exact hq
      · intro _; rw [b_rs, b_ss, nx1]
      · rw [b_rs, b_sn (by decide), b_sn (by decide), b_ss, kd1, hkr]
      · rw [b_rs, b_sn (by decide), b_sn (by decide), b_sn (by decide)]; exact hat
      · rw [kd1]; exact fun g => absurd g kn12.2.1
      · rw [kd1]; intro g; rw [b_rs, b_sn (by decide), b_ss]; exact (kn12.2.2 g).symm
      · rw [kd1]; exact fun g => absurd g kn12.1
  · have hns : ¬ w_pb2 b n q p < min n q := by omega
    rw [if_neg hns, if_pos hc2] at kd1
    rw [hc, if_neg (Nat.lt_irrefl n)] at hpk
    refine ⟨b_r m 234 (b_s (m 234) 11 0), j, ?_, ⟨?_, ?_, ?_, ?_, ?_, ?_, ?_, ?_⟩, lm_r lm_rf (fun k h1 h2 h3 h4 h5 => b_sn h2)⟩
    · rw [bc_234, hpk, z_b1, if_neg (by rw [n1]; exact fun g => g)]
      simp (disch := omega) only [↓bc_234, ↓b_t0, ↓b_t1, ↓b_t2, ↓b_t3, ↓b_t4, ↓b_t5, ↓b_t6, Nat.zero_add, Nat.le_refl, b_rs, b_rn, b_r2, b_ss, b_sn, b_bt, b_bf, b_b0, b_b1, b_bw, b_shl, b_or, b_iv, b_jv, b_sI, b_sJ, ↓z_hl, z_b0, z_b1, z_b2, b_and1c, b_and1z, if_true, if_false, nI_add, pk_mul, b_cl, b_lt, b_le, b_eq, b_eq0, b_le0, b_0lt, b_0le, b_lt0]
    · rw [b_rs, b_sn (by decide)]; exact hn
    · rw [b_rs, b_sn (by decide)]; exact hq
    · exact fun g => absurd g hns
    · rw [b_rs, b_ss, kd1]; rfl
    · rw [b_rs, b_sn (by decide)]; exact hat
    · rw [kd1]; exact fun g => absurd g (by decide)
    · rw [kd1]; exact fun g => absurd g (by decide)
    · rw [kd1]; exact fun g => absurd g (by decide)
theorem s_Mo_next (hD : 2 ≤ D) {b : Nat → Nat} {n q p : Nat} (hn : m 234 3 = n) (hq : m 234 5 = q) (hp : m 234 4 = p) (hn2 : n ≤ 940) (hq2 : q ≤ 940) (hp2 : p ≤ n) (hb : ∀ x, x < n → m 235 x % 256 = b x) : ∃ m2 j2, a_ex X tx a_T D 211 [.ref 234] (b_h m j w) = some (b_h m2 j2 w, none) ∧ l_M m2 j2 b n q p ∧ lm_fr m m2 j j2 := by
  obtain ⟨d, rfl⟩ : ∃ d, D = d + 1 := ⟨D - 1, by omega⟩
  have hb2 : ∀ x, x < n → b x < 256 := fun x hx => by rw [← hb x hx]; exact Nat.mod_lt _ (by decide)
  rw [e_Mo_next, ← l_Mo_next_0]
  refine z_run (Q := fun r => ∃ m2 j2, r = some (b_h m2 j2 w, none) ∧ l_M m2 j2 b n q p ∧ lm_fr m m2 j j2) (fun k L h => ∃ x, k + x = n ∧ p ≤ x ∧ x ≤ n ∧ (∀ y, p ≤ y → y < x → z_bl (b y) = true) ∧ L = [.ref 234, .retAddr 0, .retAddr 0, .retAddr 0] ∧ h = b_h (b_r m 234 (b_s (m 234) 4 x)) j w) 2000 ?_ (n - p) _ _ ⟨p, by omega, by omega, hp2, fun y h1 h2 => absurd h2 (by omega), rfl, by rw [b_ri]; exact (b_sid hp).symm⟩ _ (z_fu (by omega))
  rintro k L h ⟨x, hk, hx, hx2, hbl, rfl, rfl⟩ f hf
  rw [l_Mo_next_0, q_Mo_next_0]
  have hpk := s_Mo_peek (X := X) (tx := tx) (D := d) (m := b_r m 234 (b_s (m 234) 4 x)) (j := j) (w := w) (by omega) (b := b) (n := n) (p := x) (by rw [b_rs, b_sn (by decide)]; exact hn) (by rw [b_rs, b_ss]) hn2 (by omega) (by rw [b_rn (by decide)]; exact hb)
  have stop : (x = n ∨ (x < n ∧ z_bl (b x) = false)) → (∃ V, V < 4294967296 ∧ V ≠ 32 ∧ V ≠ 10 ∧ a_ex X tx a_T d 208 [.ref 234] (b_h (b_r m 234 (b_s (m 234) 4 x)) j w) = some (b_h (b_r m 234 (b_s (m 234) 4 x)) j w, some (.int (nI V)))) → ∃ m2 j2, a_rn X tx (a_ex X tx a_T d) (a_go X tx (a_ex X tx a_T d) k_Mo_next_0 f) k_Mo_next_0 0 [.ref 234, .retAddr 0, .retAddr 0, .retAddr 0] [] (b_h (b_r m 234 (b_s (m 234) 4 x)) j w) = some (b_h m2 j2 w, none) ∧ l_M m2 j2 b n q p ∧ lm_fr m m2 j j2 := fun hst ⟨V, v1, v2, v3, v4⟩ => by
    rw [q_Mo_next_0]
    by_cases cut : q < n ∧ q ≤ x
    · -- cut off
      have hpb : ¬ w_pb2 b n q p < min n q := by
        have e1 : min n q = q := by omega
        unfold w_pb2
        rw [e1]
        obtain ⟨a1, a2, a3, a4⟩ := w_sk_le (b := b) (u := q) (p := p)
        intro g
        have := a4 g
        rw [hbl _ a1 (by omega)] at this
        exact absurd this (by decide)
      have kd1 : w_kd b n q p = 4 := by unfold w_kd; rw [if_neg hpb, if_neg (by omega)]
      have pl1 : w_pl b n q p = q := by unfold w_pl; rw [if_neg hpb]; omega
      refine ⟨b_r m 234 (b_s (b_s (b_s (b_s (b_s (m 234) 4 x) 12 x) 13 0) 12 q) 11 4), j, ?_, ⟨?_, ?_, ?_, ?_, ?_, ?_, ?_, ?_⟩, lm_r lm_rf (fun k h1 h2 h3 h4 h5 => by rw [b_sn h2, b_sn h3, b_sn h4, b_sn h3, b_sn h1])⟩
      · simp (disch := omega) only [v4, hn, hq, ↓bc_234, ↓b_t0, ↓b_t1, ↓b_t2, ↓b_t3, ↓b_t4, ↓b_t5, ↓b_t6, Nat.zero_add, Nat.le_refl, b_rs, b_rn, b_r2, b_ss, b_sn, b_bt, b_bf, b_b0, b_b1, b_bw, b_shl, b_or, b_iv, b_jv, b_sI, b_sJ, ↓z_hl, z_b0, z_b1, z_b2, b_and1c, b_and1z, if_true, if_false, nI_add, pk_mul, b_cl, b_lt, b_le, b_eq, b_eq0, b_le0, b_0lt, b_0le, b_lt0]
        rw [if_neg v2, if_neg v3, if_neg (by omega), if_neg (by omega)]
      · rw [b_rs, b_sn (by decide), b_sn (by decide), b_sn (by decide), b_sn (by decide), b_sn (by decide)]; exact hn
      · rw [b_rs, b_sn (by decide), b_sn (by decide), b_sn (by decide), b_sn (by decide), b_sn (by decide)]; exact hq
      · exact fun g => absurd g hpb
      · rw [b_rs, b_ss, kd1]; rfl
      · rw [b_rs, b_sn (by decide), b_ss, pl1]
      · rw [kd1]; exact fun g => absurd g (by decide)
      · rw [kd1]; exact fun g => absurd g (by decide)
      · rw [kd1]; exact fun g => absurd g (by decide)
    · have hpb : w_pb2 b n q p = x := by
        refine w_sk_eq hx (by omega) hbl (fun g => ?_)
        rcases hst with h | h
        · omega
        · exact h.2
      have hcc : w_pb2 b n q p < min n q ∨ (w_pb2 b n q p = n ∧ n ≤ q) := by omega
      have pl1 : w_pl b n q p = x := by unfold w_pl; rw [hpb]; split <;> omega
      obtain ⟨m2, j2, e1, e2, e3⟩ := s_Mo_next40 (X := X) (tx := tx) (d := d) (f := f) (m := b_r m 234 (b_s (b_s (b_s (m 234) 4 x) 12 x) 13 0)) (j := j) (w := w) (b := b) (by omega) (by omega) (n := n) (q := q) (p := p) (by rw [b_rs, b_sn (by decide), b_sn (by decide), b_sn (by decide)]; exact hn) (by rw [b_rs, b_sn (by decide), b_sn (by decide), b_sn (by decide)]; exact hq) hn2 (by rw [b_rs, b_sn (by decide), b_sn (by decide), b_ss, hpb]) (by rw [b_rs, b_sn (by decide), b_ss, pl1]) (by rw [b_rs, b_ss]) (by rw [b_rn (by decide)]; exact hb) hcc
      refine ⟨m2, j2, ?_, e2, lm_tr (lm_r lm_rf (fun k h1 h2 h3 h4 h5 => by rw [b_sn h4, b_sn h3, b_sn h1])) e3⟩
      rw [← e1]
      simp (disch := omega) only [v4, hn, hq, ↓bc_234, ↓b_t0, ↓b_t1, ↓b_t2, ↓b_t3, ↓b_t4, ↓b_t5, ↓b_t6, Nat.zero_add, Nat.le_refl, b_rs, b_rn, b_r2, b_ss, b_sn, b_bt, b_bf, b_b0, b_b1, b_bw, b_shl, b_or, b_iv, b_jv, b_sI, b_sJ, ↓z_hl, z_b0, z_b1, z_b2, b_and1c, b_and1z, if_true, if_false, nI_add, pk_mul, b_cl, b_lt, b_le, b_eq, b_eq0, b_le0, b_0lt, b_0le, b_lt0]
      rw [if_neg v2, if_neg v3]
      by_cases c1 : n ≤ q
      · rw [if_pos c1]
      · rw [if_neg c1, if_pos (by omega)]
  by_cases c : x = n
  · left
    rw [if_neg (by omega)] at hpk
    rw [← q_Mo_next_0]
    exact stop (Or.inl c) ⟨4294967295, by decide, by decide, by decide, hpk⟩
  · rw [if_pos (by omega)] at hpk
    have hbx := hb2 x (by omega)
    cases hc : z_bl (b x) with
    | false =>
      left
      have h1 := of_decide_eq_false (show decide (b x = 32 ∨ b x = 10) = false from hc)
      rw [← q_Mo_next_0]
      exact stop (Or.inr ⟨by omega, hc⟩) ⟨b x, by omega, by omega, by omega, hpk⟩
    | true =>
      right
      have h1 := of_decide_eq_true (show decide (b x = 32 ∨ b x = 10) = true from hc)
      refine ⟨k - 1, [.ref 234, .retAddr 0, .retAddr 0, .retAddr 0], b_h (b_r m 234 (b_s (m 234) 4 (x + 1))) j w, by omega, ⟨x + 1, by omega, by omega, by omega, fun y h1 h2 => ?_, rfl, rfl⟩, ?_⟩
      · by_cases c2 : y = x
        · rw [c2]; exact hc
        · exact hbl y h1 (by omega)
      · simp (disch := omega) only [hpk, b_s2, ↓bc_234, ↓b_t0, ↓b_t1, ↓b_t2, ↓b_t3, ↓b_t4, ↓b_t5, ↓b_t6, Nat.zero_add, Nat.le_refl, b_rs, b_rn, b_r2, b_ss, b_sn, b_bt, b_bf, b_b0, b_b1, b_bw, b_shl, b_or, b_iv, b_jv, b_sI, b_sJ, ↓z_hl, z_b0, z_b1, z_b2, b_and1c, b_and1z, if_true, if_false, nI_add, pk_mul, b_cl, b_lt, b_le, b_eq, b_eq0, b_le0, b_0lt, b_0le, b_lt0]
        by_cases c2 : b x = 32
        · rw [if_pos c2]
        · rw [if_neg c2, if_pos (by omega)]
end LP
