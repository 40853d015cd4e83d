/-! TEXTS: the reference's next token -/
theorem b_lshor2 {a c : Nat} (hc : c < 256) : (lN a <<< (lN 8 &&& 63)) ||| lN c = lN (a * 256 + c) := by
  have := b_lshor (a := a) hc
  rwa [nI_l (by decide)] at this
section LN
variable {X : Nat × (Nat → Int32)} {tx : List Int32} {D : Nat} {m j : Nat → Nat → Nat} {w : (Nat × Nat) × Bool}
theorem s_Mo_next114 {d f : Nat} (hd : 1 ≤ d) {b : Nat → Nat} {n i k : Nat} {i1 i2 i3 : Int32} {a2 : Bool} (hn : m 234 3 = n) (hn2 : n ≤ 940) (hp : m 234 4 = i + k) (hk : i + k < n) (h13 : m 234 13 = k) (h14 : m 234 14 = w_nm b i k) (h17 : j 234 17 = w_wd b i k) (hb : ∀ x, x < n → m 235 x % 256 = b x) (hld : z_ld (b (i + k)) = true) : ∃ m2 j2, a_rn X tx (a_ex X tx a_T d) (a_go X tx (a_ex X tx a_T d) k_Mo_next_0 f) k_Mo_next_114 0 [.ref 234, .int i1, .int i2, .int i3] [.int (nI (b_b a2))] (b_h m j w) = a_go X tx (a_ex X tx a_T d) k_Mo_next_0 f 96 [.ref 234, .int i1, .int i2, .int (nI (b_b a2))] (b_h m2 j2 w) ∧ lm_fr m m2 j j2 ∧ m2 234 4 = i + (k + 1) ∧ m2 234 13 = k + 1 ∧ m2 234 14 = w_nm b i (k + 1) ∧ m2 234 12 = m 234 12 ∧ j2 234 17 = w_wd b i (k + 1) := by
  have hbp := hb (i + k) hk
  have hb256 : b (i + k) < 256 := by rw [← hbp]; exact Nat.mod_lt _ (by decide)
  have hb48 : 48 ≤ b (i + k) := by
    unfold z_ld at hld
    rw [Bool.or_eq_true] at hld
    rcases hld with h | h
    · have := of_decide_eq_true (show decide (97 ≤ b (i + k) ∧ b (i + k) ≤ 122) = true from h)
      omega
    · have := of_decide_eq_true (show decide (48 ≤ b (i + k) ∧ b (i + k) ≤ 57) = true from h)
      omega
  have s1 : ∀ jj : Nat → Nat → Nat, a_ex X tx a_T d 208 [.ref 234] (b_h m jj w) = some (b_h m jj w, some (.int (nI (b (i + k))))) := fun jj => by
    have := s_Mo_peek (X := X) (tx := tx) (D := d) (m := m) (j := jj) (w := w) hd (b := b) hn hp hn2 (by omega) hb
    rw [if_pos hk] at this
    exact this
  have w1 := w_wd_1 (b := b) (i := i) (k := k)
  have w2 := w_nm_1 (b := b) (i := i) (k := k)
  rw [q_Mo_next_114]
  by_cases c3 : k < 3
  · rw [if_pos (by omega)] at w1
    rw [if_pos c3] at w2
    refine ⟨b_r m 234 (b_s (b_s (b_s (m 234) 14 (10 * w_nm b i k + b (i + k) - 48)) 13 (k + 1)) 4 (i + k + 1)), b_r j 234 (b_s (j 234) 17 (w_wd b i k * 256 + b (i + k))), ?_, lm_rj lm_rf (fun k h1 h2 h3 h4 h5 => by rw [b_sn h1, b_sn h4, b_sn h5]), by rw [b_rs, b_ss]; omega, by rw [b_rs, b_sn (by decide), b_ss], by rw [b_rs, b_sn (by decide), b_sn (by decide), b_ss, w2], by rw [b_rs, b_sn (by decide), b_sn (by decide), b_sn (by decide)], by rw [b_rs, b_ss, w1]⟩
    simp (disch := omega) only [q_Mo_next_129, h13, h14, h17, hp, s1, nI_l, b_lshor2, b_sub, ↓bc_234, ↓b_t0, ↓b_t1, ↓b_t2, ↓b_t3, ↓b_t4, ↓b_t5, ↓b_t6, Nat.zero_add, Nat.le_refl, b_rs, b_rn, b_r2, b_ss, b_sn, b_bt, b_bf, b_b0, b_b1, b_bw, b_shl, b_or, b_iv, b_jv, b_sI, b_sJ, ↓z_hl, z_b0, z_b1, z_b2, b_and1c, b_and1z, if_true, if_false, nI_add, pk_mul, b_cl, b_lt, b_le, b_eq, b_eq0, b_le0, b_0lt, b_0le, b_lt0]
    rw [if_neg (by omega), if_neg (by omega)]
  · rw [if_neg c3] at w2
    by_cases c7 : k < 7
    · rw [if_pos c7] at w1
      refine ⟨b_r m 234 (b_s (b_s (m 234) 13 (k + 1)) 4 (i + k + 1)), b_r j 234 (b_s (j 234) 17 (w_wd b i k * 256 + b (i + k))), ?_, lm_rj lm_rf (fun k h1 h2 h3 h4 h5 => by rw [b_sn h1, b_sn h4]), by rw [b_rs, b_ss]; omega, by rw [b_rs, b_sn (by decide), b_ss], by rw [b_rs, b_sn (by decide), b_sn (by decide), w2]; exact h14, by rw [b_rs, b_sn (by decide), b_sn (by decide)], by rw [b_rs, b_ss, w1]⟩
      simp (disch := omega) only [q_Mo_next_129, h13, h14, h17, hp, s1, nI_l, b_lshor2, b_sub, ↓bc_234, ↓b_t0, ↓b_t1, ↓b_t2, ↓b_t3, ↓b_t4, ↓b_t5, ↓b_t6, Nat.zero_add, Nat.le_refl, b_rs, b_rn, b_r2, b_ss, b_sn, b_bt, b_bf, b_b0, b_b1, b_bw, b_shl, b_or, b_iv, b_jv, b_sI, b_sJ, ↓z_hl, z_b0, z_b1, z_b2, b_and1c, b_and1z, if_true, if_false, nI_add, pk_mul, b_cl, b_lt, b_le, b_eq, b_eq0, b_le0, b_0lt, b_0le, b_lt0]
      rw [if_neg (by omega), if_pos (by omega)]
    · rw [if_neg c7] at w1
      refine ⟨b_r m 234 (b_s (b_s (m 234) 13 (k + 1)) 4 (i + k + 1)), j, ?_, lm_r lm_rf (fun k h1 h2 h3 h4 h5 => by rw [b_sn h1, b_sn h4]), by rw [b_rs, b_ss]; omega, by rw [b_rs, b_sn (by decide), b_ss], by rw [b_rs, b_sn (by decide), b_sn (by decide), w2]; exact h14, by rw [b_rs, b_sn (by decide), b_sn (by decide)], by rw [w1]; exact h17⟩
      simp (disch := omega) only [q_Mo_next_129, h13, h14, h17, hp, s1, nI_l, b_lshor2, b_sub, ↓bc_234, ↓b_t0, ↓b_t1, ↓b_t2, ↓b_t3, ↓b_t4, ↓b_t5, ↓b_t6, Nat.zero_add, Nat.le_refl, b_rs, b_rn, b_r2, b_ss, b_sn, b_bt, b_bf, b_b0, b_b1, b_bw, b_shl, b_or, b_iv, b_jv, b_sI, b_sJ, ↓z_hl, z_b0, z_b1, z_b2, b_and1c, b_and1z, if_true, if_false, nI_add, pk_mul, b_cl, b_lt, b_le, b_eq, b_eq0, b_le0, b_0lt, b_0le, b_lt0]
      rw [if_pos (by omega), if_pos (by omega)]
theorem s_Mo_next96 {d : Nat} (hd : 1 ≤ d) {b : Nat → Nat} {n i : Nat} (hn : m 234 3 = n) (hn2 : n ≤ 940) (hp : m 234 4 = i) (hi : i < n) (h13 : m 234 13 = 0) (h14 : m 234 14 = 0) (h17 : j 234 17 = 0) (hb : ∀ x, x < n → m 235 x % 256 = b x) (hl0 : z_ld (b i) = true) : ∀ f, 0 + 1000 < f → ∃ m2 j2, a_go X tx (a_ex X tx a_T d) k_Mo_next_0 f 96 [.ref 234, .int (nI (b i)), .int (nI (b_b (z_sm (b i)))), .int (nI 1)] (b_h m j w) = some (b_h m2 j2 w, none) ∧ lm_fr m m2 j j2 ∧ m2 234 4 = w_re b n i ∧ m2 234 11 = w_kr (w_rk b i (w_re b n i)) ∧ m2 234 12 = m 234 12 ∧ (w_rk b i (w_re b n i) = 2 → m2 234 14 = w_vg b i (w_re b n i - i)) ∧ (w_rk b i (w_re b n i) = 1 → j2 234 17 = w_conv (w_lg b i (w_re b n i - i))) := by
  have hb2 : ∀ x, x < n → b x < 256 := fun x hx => by rw [← hb x hx]; exact Nat.mod_lt _ (by decide)
  intro f0 hf0
  refine z_run (Q := fun r => ∃ m2 j2, r = some (b_h m2 j2 w, none) ∧ lm_fr m m2 j j2 ∧ m2 234 4 = w_re b n i ∧ m2 234 11 = w_kr (w_rk b i (w_re b n i)) ∧ m2 234 12 = m 234 12 ∧ (w_rk b i (w_re b n i) = 2 → m2 234 14 = w_vg b i (w_re b n i - i)) ∧ (w_rk b i (w_re b n i) = 1 → j2 234 17 = w_conv (w_lg b i (w_re b n i - i)))) (fun q L h => ∃ k m3 j3, q + k = n - i ∧ i + k ≤ n ∧ (∀ x, x < k → z_ld (b (i + x)) = true) ∧ L = [.ref 234, .int (nI (b i)), .int (nI (b_b (z_sm (b i)))), .int (nI (b_b (w_al b i k)))] ∧ h = b_h m3 j3 w ∧ lm_fr m m3 j j3 ∧ m3 234 4 = i + k ∧ m3 234 13 = k ∧ m3 234 14 = w_nm b i k ∧ m3 234 12 = m 234 12 ∧ j3 234 17 = w_wd b i k) 0 ?_ (n - i) _ _ ⟨0, m, j, by omega, by omega, fun x hx => absurd hx (Nat.not_lt_zero x), rfl, rfl, lm_rf, hp, h13, h14, rfl, h17⟩ f0 (by omega)
  rintro q L h ⟨k, m3, j3, hq, hk, hld, rfl, rfl, hm, g4, g13, g14, g12, g17⟩ f _
  have g3 : m3 234 3 = n := by rw [hm.2.2 3 (by decide) (by decide) (by decide) (by decide) (by decide)]; exact hn
  have g35 : m3 235 = m 235 := hm.1 235 (by decide)
  have s1 := s_Mo_peek (X := X) (tx := tx) (D := d) (m := m3) (j := j3) (w := w) hd (b := b) g3 g4 hn2 (by omega) (by rw [g35]; exact hb)
  have hld2 : ∀ x, i ≤ x → x < i + k → z_ld (b x) = true := fun x h1 h2 => by
    have := hld (x - i) (by omega)
    rwa [show i + (x - i) = x by omega] at this
  rw [l_Mo_next_96, q_Mo_next_96]
  have stop : ∀ V, V < 4294967296 → (0 < k) → w_re b n i = i + k → a_ex X tx a_T d 208 [.ref 234] (b_h m3 j3 w) = some (b_h m3 j3 w, some (.int (nI V))) → a_ex X tx a_T d 209 [.int (nI V)] (b_h m3 j3 w) = some (b_h m3 j3 w, some (.int (nI 0))) → a_ex X tx a_T d 210 [.int (nI V)] (b_h m3 j3 w) = some (b_h m3 j3 w, some (.int (nI 0))) → ∃ m2 j2, a_rn X tx (a_ex X tx a_T d) (a_go X tx (a_ex X tx a_T d) k_Mo_next_0 f) k_Mo_next_96 0 [.ref 234, .int (nI (b i)), .int (nI (b_b (z_sm (b i)))), .int (nI (b_b (w_al b i k)))] [] (b_h m3 j3 w) = some (b_h m2 j2 w, none) ∧ lm_fr m m2 j j2 ∧ m2 234 4 = w_re b n i ∧ m2 234 11 = w_kr (w_rk b i (w_re b n i)) ∧ m2 234 12 = m 234 12 ∧ (w_rk b i (w_re b n i) = 2 → m2 234 14 = w_vg b i (w_re b n i - i)) ∧ (w_rk b i (w_re b n i) = 1 → j2 234 17 = w_conv (w_lg b i (w_re b n i - i))) := fun V hV hk0 he z1 z2 z3 => by
    have hrk := w_rk_al hk0 hld
    refine ⟨b_r m3 234 (b_s (m3 234) 11 (w_kr (w_rk b i (w_re b n i)))), j3, ?_, lm_r hm (fun k h1 h2 h3 h4 h5 => b_sn h2), by rw [b_rs, b_sn (by decide), g4, he], by rw [b_rs, b_ss], by rw [b_rs, b_sn (by decide), g12], fun h => ?_, fun h => ?_⟩
    · rw [he, hrk, q_Mo_next_96]
      cases ha : w_al b i k with
      | false =>
        rw [if_neg (c := false = true) (by decide), show w_kr 0 = 4 from rfl]
        simp (disch := omega) only [z1, z2, z3, ↓bc_234, ↓b_t0, ↓b_t1, ↓b_t2, ↓b_t3, ↓b_t4, ↓b_t5, ↓b_t6, Nat.zero_add, Nat.le_refl, b_rs, b_rn, b_r2, b_ss, b_sn, b_bt, b_bf, b_b0, b_b1, b_bw, b_shl, b_or, b_iv, b_jv, b_sI, b_sJ, ↓z_hl, z_b0, z_b1, z_b2, b_and1c, b_and1z, if_true, if_false, nI_add, pk_mul, b_cl, b_lt, b_le, b_eq, b_eq0, b_le0, b_0lt, b_0le, b_lt0]
      | true =>
        rw [if_pos (c := true = true) rfl]
        cases hs : z_sm (b i) with
        | true =>
          rw [if_pos (c := true = true) rfl]
          by_cases c7 : k ≤ 7
          · rw [if_pos c7, show w_kr 1 = 1 from rfl]
            simp (disch := omega) only [z1, z2, z3, g13, Nat.one_ne_zero, ↓bc_234, ↓b_t0, ↓b_t1, ↓b_t2, ↓b_t3, ↓b_t4, ↓b_t5, ↓b_t6, Nat.zero_add, Nat.le_refl, b_rs, b_rn, b_r2, b_ss, b_sn, b_bt, b_bf, b_b0, b_b1, b_bw, b_shl, b_or, b_iv, b_jv, b_sI, b_sJ, ↓z_hl, z_b0, z_b1, z_b2, b_and1c, b_and1z, if_true, if_false, nI_add, pk_mul, b_cl, b_lt, b_le, b_eq, b_eq0, b_le0, b_0lt, b_0le, b_lt0]
            rw [if_pos c7]
          · rw [if_neg c7, show w_kr 0 = 4 from rfl]
            simp (disch := omega) only [z1, z2, z3, g13, Nat.one_ne_zero, ↓bc_234, ↓b_t0, ↓b_t1, ↓b_t2, ↓b_t3, ↓b_t4, ↓b_t5, ↓b_t6, Nat.zero_add, Nat.le_refl, b_rs, b_rn, b_r2, b_ss, b_sn, b_bt, b_bf, b_b0, b_b1, b_bw, b_shl, b_or, b_iv, b_jv, b_sI, b_sJ, ↓z_hl, z_b0, z_b1, z_b2, b_and1c, b_and1z, if_true, if_false, nI_add, pk_mul, b_cl, b_lt, b_le, b_eq, b_eq0, b_le0, b_0lt, b_0le, b_lt0]
            rw [if_neg c7]
        | false =>
          rw [if_neg (c := false = true) (by decide)]
          by_cases c3 : k ≤ 3
          · rw [if_pos c3, show w_kr 2 = 2 from rfl]
            simp (disch := omega) only [z1, z2, z3, g13, Nat.one_ne_zero, ↓bc_234, ↓b_t0, ↓b_t1, ↓b_t2, ↓b_t3, ↓b_t4, ↓b_t5, ↓b_t6, Nat.zero_add, Nat.le_refl, b_rs, b_rn, b_r2, b_ss, b_sn, b_bt, b_bf, b_b0, b_b1, b_bw, b_shl, b_or, b_iv, b_jv, b_sI, b_sJ, ↓z_hl, z_b0, z_b1, z_b2, b_and1c, b_and1z, if_true, if_false, nI_add, pk_mul, b_cl, b_lt, b_le, b_eq, b_eq0, b_le0, b_0lt, b_0le, b_lt0]
            rw [if_pos c3]
          · rw [if_neg c3, show w_kr 0 = 4 from rfl]
            simp (disch := omega) only [z1, z2, z3, g13, Nat.one_ne_zero, ↓bc_234, ↓b_t0, ↓b_t1, ↓b_t2, ↓b_t3, ↓b_t4, ↓b_t5, ↓b_t6, Nat.zero_add, Nat.le_refl, b_rs, b_rn, b_r2, b_ss, b_sn, b_bt, b_bf, b_b0, b_b1, b_bw, b_shl, b_or, b_iv, b_jv, b_sI, b_sJ, ↓z_hl, z_b0, z_b1, z_b2, b_and1c, b_and1z, if_true, if_false, nI_add, pk_mul, b_cl, b_lt, b_le, b_eq, b_eq0, b_le0, b_0lt, b_0le, b_lt0]
            rw [if_neg c3]
    · obtain ⟨p1, p2, p3⟩ := w_rk_2 (b := b) (n := n) (i := i) (by omega) hb2 h
      rw [he, show i + k - i = k by omega] at p2 p3
      rw [b_rs, b_sn (by decide), g14, he, show i + k - i = k by omega]
      refine w_nm_vg k (by omega) (fun x hx => ?_)
      have h5 := (z_sum_zero k).mp p3 x hx
      have h6 := hld x hx
      unfold z_ld at h6
      cases c : z_sm (b (i + x)) with
      | true => rw [c] at h5; exact absurd h5 (by decide)
      | false => rw [c, Bool.false_or] at h6; exact h6
    · obtain ⟨p1, p2, p3⟩ := w_rk_1 (b := b) (n := n) (i := i) (by omega) hb2 h
      rw [he, show i + k - i = k by omega] at p2 p3
      rw [g17, he, show i + k - i = k by omega]
      refine w_wd_conv k (by omega) (fun x hx => ?_)
      have h5 := (z_sum_zero k).mp p3 x hx
      have h6 := hld x hx
      unfold z_ld at h6
      cases c : z_dg (b (i + x)) with
      | true => rw [c] at h5; exact absurd h5 (by decide)
      | false => rw [c, Bool.or_false] at h6; exact h6
  by_cases c : i + k = n
  · left
    have he : w_re b n i = i + k := w_re_eq (by omega) (by omega) hld2 (fun g => absurd g (by omega))
    rw [if_neg (by omega)] at s1
    rw [← q_Mo_next_96]
    exact stop 4294967295 (by decide) (by omega) he s1 (s_Mo_isSmallN hd) (s_Mo_isDigitN hd)
  · have hbp := hb2 (i + k) (by omega)
    rw [if_pos (by omega)] at s1
    have s2 := s_Mo_isSmall (X := X) (tx := tx) (D := d) (m := m3) (j := j3) (w := w) hd (c := b (i + k)) hbp
    have s3 := s_Mo_isDigit (X := X) (tx := tx) (D := d) (m := m3) (j := j3) (w := w) hd (c := b (i + k)) hbp
    cases hl : z_ld (b (i + k)) with
    | false =>
      left
      have he : w_re b n i = i + k := w_re_eq (by omega) (by omega) hld2 (fun _ => hl)
      have hk0 : 0 < k := by
        by_cases c0 : k = 0
        · rw [c0, Nat.add_zero, hl0] at hl; exact absurd hl (by decide)
        · omega
      have hl2 := hl
      unfold z_ld at hl2
      rw [Bool.or_eq_false_iff] at hl2
      rw [hl2.1] at s2
      rw [hl2.2] at s3
      rw [← q_Mo_next_96]
      exact stop _ (by omega) hk0 he s1 s2 s3
    | true =>
      right
      have hadd : ∀ x, x < k + 1 → z_ld (b (i + x)) = true := fun x hx => by
        by_cases c2 : x = k
        · rw [c2]; exact hl
        · exact hld x (by omega)
      have hal : w_al b i (k + 1) = (w_al b i k && (z_sm (b (i + k)) == z_sm (b i))) := rfl
      obtain ⟨m4, j4, e1, f1, f2, f3, f4, f5, f6⟩ := s_Mo_next114 (X := X) (tx := tx) (d := d) (f := f) (m := m3) (j := j3) (w := w) hd (b := b) (i1 := nI (b i)) (i2 := nI (b_b (z_sm (b i)))) (i3 := nI (b_b (w_al b i k))) (a2 := w_al b i (k + 1)) g3 hn2 g4 (by omega) g13 g14 g17 (by rw [g35]; exact hb) hl
      refine ⟨q - 1, [.ref 234, .int (nI (b i)), .int (nI (b_b (z_sm (b i)))), .int (nI (b_b (w_al b i (k + 1))))], b_h m4 j4 w, by omega, ⟨k + 1, m4, j4, by omega, by omega, hadd, rfl, rfl, lm_tr hm f1, f2, f3, f4, f5.trans g12, f6⟩, ?_⟩
      rw [← e1, hal]
      have hbb : ∀ x y : Bool, (nI (b_b x) = nI (b_b y)) = (x = y) := by decide +kernel
      cases hs : z_sm (b (i + k)) with
      | true =>
        rw [hs] at s2
        cases ha : w_al b i k with
        | false =>
          rw [Bool.false_and]
          simp (disch := omega) only [s1, s2, Nat.one_ne_zero, ↓bc_234, ↓b_t0, ↓b_t1, ↓b_t2, ↓b_t3, ↓b_t4, ↓b_t5, ↓b_t6, Nat.zero_add, Nat.le_refl, b_rs, b_rn, b_r2, b_ss, b_sn, b_bt, b_bf, b_b0, b_b1, b_bw, b_shl, b_or, b_iv, b_jv, b_sI, b_sJ, ↓z_hl, z_b0, z_b1, z_b2, b_and1c, b_and1z, if_true, if_false, nI_add, pk_mul, b_cl, b_lt, b_le, b_eq, b_eq0, b_le0, b_0lt, b_0le, b_lt0]
        | true =>
          rw [Bool.true_and]
          cases hs0 : z_sm (b i) with
          | true => 
            rw [show (true == true) = true from rfl]
            simp (disch := omega) only [s1, s2, Nat.one_ne_zero, ↓bc_234, ↓b_t0, ↓b_t1, ↓b_t2, ↓b_t3, ↓b_t4, ↓b_t5, ↓b_t6, Nat.zero_add, Nat.le_refl, b_rs, b_rn, b_r2, b_ss, b_sn, b_bt, b_bf, b_b0, b_b1, b_bw, b_shl, b_or, b_iv, b_jv, b_sI, b_sJ, ↓z_hl, z_b0, z_b1, z_b2, b_and1c, b_and1z, if_true, if_false, nI_add, pk_mul, b_cl, b_lt, b_le, b_eq, b_eq0, b_le0, b_0lt, b_0le, b_lt0]
          | false =>
            rw [show (true == false) = false from rfl]
            simp (disch := omega) only [s1, s2, Nat.one_ne_zero, ↓bc_234, ↓b_t0, ↓b_t1, ↓b_t2, ↓b_t3, ↓b_t4, ↓b_t5, ↓b_t6, Nat.zero_add, Nat.le_refl, b_rs, b_rn, b_r2, b_ss, b_sn, b_bt, b_bf, b_b0, b_b1, b_bw, b_shl, b_or, b_iv, b_jv, b_sI, b_sJ, ↓z_hl, z_b0, z_b1, z_b2, b_and1c, b_and1z, if_true, if_false, nI_add, pk_mul, b_cl, b_lt, b_le, b_eq, b_eq0, b_le0, b_0lt, b_0le, b_lt0]
      | false =>
        have hdg : z_dg (b (i + k)) = true := by
          unfold z_ld at hl
          rw [hs, Bool.false_or] at hl
          exact hl
        rw [hs] at s2
        rw [hdg] at s3
        cases ha : w_al b i k with
        | false =>
          rw [Bool.false_and]
          simp (disch := omega) only [s1, s2, s3, Nat.one_ne_zero, ↓bc_234, ↓b_t0, ↓b_t1, ↓b_t2, ↓b_t3, ↓b_t4, ↓b_t5, ↓b_t6, Nat.zero_add, Nat.le_refl, b_rs, b_rn, b_r2, b_ss, b_sn, b_bt, b_bf, b_b0, b_b1, b_bw, b_shl, b_or, b_iv, b_jv, b_sI, b_sJ, ↓z_hl, z_b0, z_b1, z_b2, b_and1c, b_and1z, if_true, if_false, nI_add, pk_mul, b_cl, b_lt, b_le, b_eq, b_eq0, b_le0, b_0lt, b_0le, b_lt0]
        | true =>
          rw [Bool.true_and]
          cases hs0 : z_sm (b i) with
          | true =>
            rw [show (false == true) = false from rfl]
            simp (disch := omega) only [s1, s2, s3, Nat.one_ne_zero, ↓bc_234, ↓b_t0, ↓b_t1, ↓b_t2, ↓b_t3, ↓b_t4, ↓b_t5, ↓b_t6, Nat.zero_add, Nat.le_refl, b_rs, b_rn, b_r2, b_ss, b_sn, b_bt, b_bf, b_b0, b_b1, b_bw, b_shl, b_or, b_iv, b_jv, b_sI, b_sJ, ↓z_hl, z_b0, z_b1, z_b2, b_and1c, b_and1z, if_true, if_false, nI_add, pk_mul, b_cl, b_lt, b_le, b_eq, b_eq0, b_le0, b_0lt, b_0le, b_lt0]
            rw [if_neg (by decide)]
          | false =>
            rw [show (false == false) = true from rfl]
            simp (disch := omega) only [s1, s2, s3, Nat.one_ne_zero, ↓bc_234, ↓b_t0, ↓b_t1, ↓b_t2, ↓b_t3, ↓b_t4, ↓b_t5, ↓b_t6, Nat.zero_add, Nat.le_refl, b_rs, b_rn, b_r2, b_ss, b_sn, b_bt, b_bf, b_b0, b_b1, b_bw, b_shl, b_or, b_iv, b_jv, b_sI, b_sJ, ↓z_hl, z_b0, z_b1, z_b2, b_and1c, b_and1z, if_true, if_false, nI_add, pk_mul, b_cl, b_lt, b_le, b_eq, b_eq0, b_le0, b_0lt, b_0le, b_lt0]
end LN
