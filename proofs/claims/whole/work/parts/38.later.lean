/-! WHAT WILL BE OPEN -/
def w_duep (s : Nat → Nat) (e : Nat) : Bool := w_wait s e && decide (s 157 + 1 = s (271 + e) + s (147 + e))
/-- the endings below n that go on before the day q, as bits of what they bring -/
def w_lat (s : Nat → Nat) (t k q n : Nat) : Nat := z_sum (fun e => if w_wait s e = true ∧ s (261 + e) = t + 1 ∧ s (271 + e) + s (147 + e) ≤ q then s (292 + 6 * e + k) else 0) n
def w_dsum (s : Nat → Nat) (t k n : Nat) : Nat := z_sum (fun e => if w_duep s e = true ∧ s (261 + e) = t + 1 then s (292 + 6 * e + k) else 0) n
section LT
variable {s : Nat → Nat}
theorem w_dstep_due {e : Nat} (h : w_duep s e = true) : w_dstep s e = w_dark s e := by
  unfold w_duep w_wait at h
  simp only [Bool.and_eq_true, decide_eq_true_eq, Bool.not_eq_true'] at h
  unfold w_dstep
  rw [if_pos h.1.1.2, if_pos ⟨h.1.1.1, h.1.2, h.2⟩]
theorem w_dstep_not {e i : Nat} (hS : i_S s) (he : e < s 3) (h : w_duep s e = false) (hi : i < 251 ∨ 261 ≤ i) : w_dstep s e i = s i := by
  have hE := i_S_E hS
  unfold w_dstep
  split
  · rename_i c1
    split
    · rename_i c2
      exfalso
      have : w_duep s e = true := by
        unfold w_duep w_wait
        simp [c1, c2.1, c2.2.1, c2.2.2]
      rw [this] at h
      cases h
    · rfl
  · split
    · exact b_sn (by omega)
    · rfl
theorem w_dloop_op (hS : i_S s) (hI : i_D s) {t k : Nat} (ht : t < 8) (hk : k < 6) : ∀ n, n ≤ s 3 → w_dloop s n (177 + 6 * t + k) = min 99 (s (177 + 6 * t + k) + w_dsum s t k n) ∧ (∀ e, ((w_dloop s n) 281).testBit e = ((s 281).testBit e || (decide (e < n) && w_duep s e)))
  | 0, _ => ⟨by
      have := i_D_op hI t ht k hk
      show s (177 + 6 * t + k) = min 99 (s (177 + 6 * t + k) + 0)
      omega, fun e => by show (s 281).testBit e = _; simp⟩
  | n + 1, hn => by
    obtain ⟨h1, h2⟩ := w_dloop_op hS hI ht hk n (by omega)
    obtain ⟨g1, g2, g3, -⟩ := w_dloop_ok hS hI n (by omega)
    have hE := i_S_E hS
    have e3 := g3 3 (by omega)
    have hb : ((w_dloop s n) 281).testBit n = (s 281).testBit n := by rw [h2 n]; simp
    have hd : w_duep (w_dloop s n) n = w_duep s n := by
      unfold w_duep w_wait
      rw [hb, g3 (147 + n) (by omega), g3 (241 + n) (by omega), g3 (271 + n) (by omega), g3 157 (by omega)]
    have hsum : w_dsum s t k (n + 1) = w_dsum s t k n + (if w_duep s n = true ∧ s (261 + n) = t + 1 then s (292 + 6 * n + k) else 0) := rfl
    show w_dstep (w_dloop s n) n (177 + 6 * t + k) = _ ∧ ∀ e, ((w_dstep (w_dloop s n) n) 281).testBit e = _
    cases hc : w_duep s n with
    | false =>
      rw [hc] at hd
      rw [w_dstep_not g2 (by omega) hd (by omega), w_dstep_not g2 (by omega) hd (by omega), h1, hsum, hc]
      refine ⟨by simp, fun e => ?_⟩
      rw [h2 e]
      by_cases c : e = n
      · subst c; rw [hc]; simp
      · have : decide (e < n + 1) = decide (e < n) := by rw [Bool.eq_iff_iff, decide_eq_true_eq, decide_eq_true_eq]; omega
        rw [this]
    | true =>
      rw [hc] at hd
      have hp : s (241 + n) = 4294967295 := by
        unfold w_duep w_wait at hc
        simp only [Bool.and_eq_true, decide_eq_true_eq] at hc
        exact hc.1.1.2
      obtain ⟨u, hu, hu8, hpl⟩ := i_place hS hI (e := n) (by omega) hp
      have hpl2 : w_dloop s n (261 + n) = u + 1 := by rw [g3 _ (by omega)]; exact hpl
      rw [w_dstep_due hd, hsum, hc]
      refine ⟨?_, fun e => ?_⟩
      · by_cases c : u = t
        · subst c
          rw [w_dark_op hpl2 hu8 hk, h1, g3 (292 + 6 * n + k) (by omega), if_pos ⟨rfl, hpl⟩]
          omega
        · rw [w_dark_on hpl2 hu8 ht hk (fun h => c h.symm), h1, if_neg (fun h => c (by omega))]
          rfl
      · rw [w_dark_we hpl2 hu8, z_or_bt, h2 e]
        by_cases c : e = n
        · subst c; rw [hc]; simp
        · have : decide (e < n + 1) = decide (e < n) := by rw [Bool.eq_iff_iff, decide_eq_true_eq, decide_eq_true_eq]; omega
          rw [this, decide_eq_false (show ¬ n = e by omega), Bool.or_false]
theorem w_dsum_big {t k : Nat} (hI : i_D s) : ∀ n, w_dsum s t k n = w_dsum s t k n := fun _ => rfl
theorem w_days_op (hS : i_S s) (hI : i_D s) {t k : Nat} (ht : t < 8) (hk : k < 6) : ∀ n, s 157 + n ≤ 400 → w_days s n (177 + 6 * t + k) = min 99 (s (177 + 6 * t + k) + w_lat s t k (s 157 + n) (s 3)) ∧ (∀ e, e < s 3 → ((w_days s n) 281).testBit e = ((s 281).testBit e || (w_wait s e && decide (s (271 + e) + s (147 + e) ≤ s 157 + n))))
  | 0, _ => by
    have h0 : ∀ e, e < s 3 → w_wait s e = true → ¬ s (271 + e) + s (147 + e) ≤ s 157 + 0 := by
      intro e he hw
      unfold w_wait at hw
      simp only [Bool.and_eq_true, decide_eq_true_eq, Bool.not_eq_true'] at hw
      have := i_D_wa hI e he hw.1.2 hw.1.1 hw.2
      omega
    refine ⟨?_, fun e he => ?_⟩
    · have h1 : w_lat s t k (s 157 + 0) (s 3) = 0 := by
        unfold w_lat
        rw [z_sum_zero]
        intro e he
        exact if_neg (fun h => h0 e he h.1 h.2.2)
      rw [h1]
      have := i_D_op hI t ht k hk
      show s (177 + 6 * t + k) = min 99 (s (177 + 6 * t + k) + 0)
      omega
    · show (s 281).testBit e = _
      cases hw : w_wait s e with
      | false => simp
      | true => rw [decide_eq_false (h0 e he hw)]; simp
  | n + 1, hn => by
    obtain ⟨h1, h2⟩ := w_days_op hS hI ht hk n (by omega)
    obtain ⟨g1, g2, g3, g4⟩ := w_days_ok hS hI n (by omega)
    have hE := i_S_E hS
    have e3 := g4 3 (by omega)
    obtain ⟨k1, k2⟩ := w_dloop_op g1 g2 ht hk (s 3) (by omega)
    have hd : ∀ e, e < s 3 → w_duep (w_days s n) e = (w_wait s e && decide (s (271 + e) + s (147 + e) = s 157 + (n + 1))) := by
      intro e he
      unfold w_duep w_wait
      rw [h2 e he, g3, g4 (147 + e) (by omega), g4 (241 + e) (by omega), g4 (271 + e) (by omega)]
      unfold w_wait
      by_cases c1 : 0 < s (147 + e)
      · by_cases c2 : s (241 + e) = 4294967295
        · cases c3 : (s 281).testBit e with
          | true => simp
          | false =>
            by_cases c4 : s (271 + e) + s (147 + e) = s 157 + (n + 1)
            · have c5 : ¬ s (271 + e) + s (147 + e) ≤ s 157 + n := by omega
              simp [c1, c2, c4, show s 157 + n + 1 = s 157 + (n + 1) by omega]
            · simp [c1, c2, c4]
              intro _ h
              omega
        · simp [c2]
      · simp [c1]
    have hday : w_day (w_days s n) (177 + 6 * t + k) = w_dloop (w_days s n) (s 3) (177 + 6 * t + k) := by
      unfold w_day
      rw [b_sn (by omega), e3]
    have hday2 : w_day (w_days s n) 281 = w_dloop (w_days s n) (s 3) 281 := by
      unfold w_day
      rw [b_sn (by omega), e3]
    have hsum : w_dsum (w_days s n) t k (s 3) + w_lat s t k (s 157 + n) (s 3) = w_lat s t k (s 157 + (n + 1)) (s 3) := by
      unfold w_dsum w_lat
      have : ∀ q, q ≤ s 3 → z_sum (fun e => if w_duep (w_days s n) e = true ∧ w_days s n (261 + e) = t + 1 then w_days s n (292 + 6 * e + k) else 0) q + z_sum (fun e => if w_wait s e = true ∧ s (261 + e) = t + 1 ∧ s (271 + e) + s (147 + e) ≤ s 157 + n then s (292 + 6 * e + k) else 0) q = z_sum (fun e => if w_wait s e = true ∧ s (261 + e) = t + 1 ∧ s (271 + e) + s (147 + e) ≤ s 157 + (n + 1) then s (292 + 6 * e + k) else 0) q := by
        intro q
        induction q with
        | zero => intro _; rfl
        | succ q ih =>
          intro hq
          have ih := ih (by omega)
          unfold z_sum
          rw [hd q (by omega), g4 (261 + q) (by omega), g4 (292 + 6 * q + k) (by omega)]
          have key : (if (w_wait s q && decide (s (271 + q) + s (147 + q) = s 157 + (n + 1))) = true ∧ s (261 + q) = t + 1 then s (292 + 6 * q + k) else 0) + (if w_wait s q = true ∧ s (261 + q) = t + 1 ∧ s (271 + q) + s (147 + q) ≤ s 157 + n then s (292 + 6 * q + k) else 0) = (if w_wait s q = true ∧ s (261 + q) = t + 1 ∧ s (271 + q) + s (147 + q) ≤ s 157 + (n + 1) then s (292 + 6 * q + k) else 0) := by
            cases w_wait s q with
            | false => simp
            | true =>
              by_cases c1 : s (261 + q) = t + 1
              · by_cases c2 : s (271 + q) + s (147 + q) = s 157 + (n + 1)
                · rw [if_pos ⟨by simp [c2], c1⟩, if_neg (by omega), if_pos ⟨rfl, c1, by omega⟩]; rfl
                · by_cases c3 : s (271 + q) + s (147 + q) ≤ s 157 + n
                  · rw [if_neg (by simp [c2]), if_pos ⟨rfl, c1, c3⟩, if_pos ⟨rfl, c1, by omega⟩, Nat.zero_add]
                  · rw [if_neg (by simp [c2]), if_neg (by omega), if_neg (by omega)]
              · simp [c1]
          omega
      exact this (s 3) (Nat.le_refl _)
    refine ⟨?_, fun e he => ?_⟩
    · show w_day (w_days s n) (177 + 6 * t + k) = _
      rw [hday, k1, h1, ← hsum]
      omega
    · show ((w_day (w_days s n)) 281).testBit e = _
      rw [hday2, k2 e, h2 e he, hd e he, decide_eq_true he]
      cases c1 : (s 281).testBit e with
      | true => simp
      | false =>
        cases c2 : w_wait s e with
        | false => simp
        | true =>
          have : decide (s (271 + e) + s (147 + e) ≤ s 157 + (n + 1)) = (decide (s (271 + e) + s (147 + e) ≤ s 157 + n) || decide (s (271 + e) + s (147 + e) = s 157 + (n + 1))) := by
            rw [Bool.eq_iff_iff, Bool.or_eq_true, decide_eq_true_eq, decide_eq_true_eq, decide_eq_true_eq]
            omega
          simp [this]
def w_later (s : Nat → Nat) (t q : Nat) : Nat := z_sum (fun k => min 99 (s (177 + 6 * t + k) + w_lat s t k q (s 3))) 6
theorem w_days_open (hS : i_S s) (hI : i_D s) {t n : Nat} (ht : t < 8) (hn : s 157 + n ≤ 400) : w_open (w_days s n) t = w_later s t (s 157 + n) := by
  unfold w_open w_later
  exact z_sum_congr 6 (fun k hk => (w_days_op hS hI ht hk n hn).1)
/-- what is open once stays open, if nothing is done -/
theorem w_days_pos (hS : i_S s) (hI : i_D s) {t n : Nat} (ht : t < 8) (hn : s 157 + n ≤ 400) (h : w_open s t ≠ 0) : w_open (w_days s n) t ≠ 0 := by
  intro h2
  apply h
  unfold w_open at h2 ⊢
  rw [z_sum_zero] at h2 ⊢
  intro k hk
  have h3 := h2 k hk
  rw [(w_days_op hS hI ht hk n hn).1] at h3
  omega
theorem w_restore {r : Nat → Nat} {g : Nat → Nat} (h : ∀ i, i < 157 ∨ 352 ≤ i → r i = s i) (hg : ∀ i, i < 195 → g i = s (157 + i)) : b_rg r 157 195 g = s := by
  funext i
  by_cases c : 157 ≤ i ∧ i < 157 + 195
  · rw [b_rgi c.1 c.2, hg _ (by omega), show 157 + (i - 157) = i by omega]
  · rw [b_rgo (by omega), h i (by omega)]
end LT
def w_qwhen (s : Nat → Nat) (t : Nat) : Nat := if t < s 2 ∧ s 157 < 400 ∧ w_open s t = 0 then s 157 else 4294967295
def w_qlater (s : Nat → Nat) (t q : Nat) : Nat := if t < s 2 ∧ s 157 ≤ q ∧ q ≤ 400 then w_later s t q else 4294967295
/-- behind tries() -/
def w_tm (m : Nat → Nat → Nat) : Nat → Nat → Nat := b_r (b_r m 234 (b_s (m 234) 0 0)) 242 (b_rg (m 242) 0 195 fun i => m 236 (157 + i))
section WL
variable {X : Nat × (Nat → Int32)} {tx : List Int32} {D : Nat} {m j : Nat → Nat → Nat} {w : (Nat × Nat) × Bool}
theorem s_Mo_when (hS : i_S (m 236)) (hI : i_D (m 236)) (hD : 5 ≤ D) {t : Nat} (ht : t < 4294967296) : a_ex X tx a_T D 289 [.ref 234, .int (nI t)] (b_h m j w) = some ((b_h (if t < m 236 2 then w_tm m else b_r m 234 (b_s (m 234) 0 0)) j w), some (.int (nI (w_qwhen (m 236) t)))) := by
  obtain ⟨d, rfl⟩ : ∃ d, D = d + 1 := ⟨D - 1, by omega⟩
  rw [e_Mo_when, q_Mo_when_0]
  have hS2 : i_S ((b_r m 234 (b_s (m 234) 0 0)) 236) := by rw [b_rn (by decide)]; exact hS
  have hI2 : i_D ((b_r m 234 (b_s (m 234) 0 0)) 236) := by rw [b_rn (by decide)]; exact hI
  have qq : (b_r m 234 (b_s (m 234) 0 0)) 236 = m 236 := b_rn (by decide)
  have q0 : (b_r m 234 (b_s (m 234) 0 0)) 236 0 = m 236 0 := by rw [qq]
  have q1 : (b_r m 234 (b_s (m 234) 0 0)) 236 1 = m 236 1 := by rw [qq]
  have q2 : (b_r m 234 (b_s (m 234) 0 0)) 236 2 = m 236 2 := by rw [qq]
  have q3 : (b_r m 234 (b_s (m 234) 0 0)) 236 3 = m 236 3 := by rw [qq]
  have hK := i_S_K hS
  have hM := i_S_M hS
  have hT := i_S_T hS
  have hE := i_S_E hS
  unfold w_qwhen
  by_cases c1 : t < m 236 2
  · rw [if_pos c1]
    simp (disch := omega) only [s_Mo_isThing hS2, s_Mo_tries, decide_eq_false_iff_not, ↓bc_234, ↓br_234_6, ↓bc_236, ↓bx_236, bl_236, ↓b_t0, ↓b_t1, ↓b_t2, ↓b_t3, ↓b_t4, ↓b_t5, ↓b_t6, Nat.zero_add, Nat.le_refl, b_rs, b_rn, b_r2, b_ss, b_sn, b_bt, b_bf, b_b0, b_b1, b_bw, b_shl, b_or, b_iv, b_jv, b_sI, b_sJ, ↓z_hl, z_b0, z_b1, z_b2, b_and1c, b_and1z, if_true, if_false, nI_add, pk_mul, b_cl, b_lt, b_le, b_eq, b_eq0, b_le0, b_0lt, b_0le, b_lt0]
    rw [if_neg (fun h => h c1), ← l_Mo_when_13]
    have hda := i_D_da hI
    show a_go X tx (a_ex X tx a_T d) k_Mo_when_0 (a_f1 + 1) 13 [.ref 234, .int (nI t), .int (nI 4294967295)] (b_h (w_tm m) j w) = _
    have t236 : w_tm m 236 = m 236 := by unfold w_tm; rw [b_rn (by decide), b_rn (by decide)]
    have t242 : ∀ i, i < 195 → w_tm m 242 i = m 236 (157 + i) := fun i hi => by unfold w_tm; rw [b_rs, b_rgi (by omega) (by omega)]; rfl
    have hb : ∀ r, (∀ i, i < 157 ∨ 352 ≤ i → r i = m 236 i) → a_ex X tx a_T d 258 [.ref 234] (b_h (b_r (w_tm m) 236 r) j w) = some (b_h (w_tm m) j w, none) := by
      intro r hr
      rw [s_Mo_back (by omega), b_r2, b_rs]
      have : b_rg r 157 195 (fun i => b_r (w_tm m) 236 r 242 i) = w_tm m 236 := by
        rw [t236]
        exact w_restore hr (fun i hi => by rw [b_rn (by decide)]; exact t242 i hi)
      rw [this, b_ri rfl]
    have n1 : (0 ≤ nI 4294967295) = False := b_0len (by decide) (by decide)
    have key : ∀ n, m 236 157 + n ≤ 400 → w_open (m 236) t ≠ 0 → ∀ f, 500 ≤ f + n → a_go X tx (a_ex X tx a_T d) k_Mo_when_0 f 13 [.ref 234, .int (nI t), .int (nI 4294967295)] (b_h (b_r (w_tm m) 236 (w_days (m 236) n)) j w) = some (b_h (w_tm m) j w, some (.int (nI 4294967295))) := by
      intro n
      induction hq : 400 - (m 236 157 + n) generalizing n with
      | zero =>
        intro h1 h2 f hf
        obtain ⟨f, rfl⟩ : ∃ g, f = g + 1 := ⟨f - 1, by omega⟩
        obtain ⟨g1, g2, g3, g4⟩ := w_days_ok hS hI n h1
        rw [l_Mo_when_13, q_Mo_when_13]
        simp (disch := omega) only [n1, g3, hb _ (fun i hi => g4 i (by omega)), ↓bc_234, ↓br_234_6, ↓bc_236, ↓bx_236, bl_236, ↓b_t0, ↓b_t1, ↓b_t2, ↓b_t3, ↓b_t4, ↓b_t5, ↓b_t6, Nat.zero_add, Nat.le_refl, b_rs, b_rn, b_r2, b_ss, b_sn, b_bt, b_bf, b_b0, b_b1, b_bw, b_shl, b_or, b_iv, b_jv, b_sI, b_sJ, ↓z_hl, z_b0, z_b1, z_b2, b_and1c, b_and1z, if_true, if_false, nI_add, pk_mul, b_cl, b_lt, b_le, b_eq, b_eq0, b_le0, b_0lt, b_0le, b_lt0]
        rw [if_pos (by omega)]
      | succ q ih =>
        intro h1 h2 f hf
        obtain ⟨f, rfl⟩ : ∃ g, f = g + 1 := ⟨f - 1, by omega⟩
        obtain ⟨g1, g2, g3, g4⟩ := w_days_ok hS hI n h1
        have g5 := w_days_pos hS hI (t := t) (n := n) (by omega) h1 h2
        have g6 := w_open_le g2 (t := t) (by omega)
        have s1 := s_Mo_day (X := X) (tx := tx) (D := d) (m := b_r (w_tm m) 236 (w_days (m 236) n)) (j := j) (w := w) (by rw [b_rs]; exact g1) (by rw [b_rs]; exact g2) (by omega)
        rw [b_rs, b_r2] at s1
        rw [l_Mo_when_13, q_Mo_when_13]
        simp (disch := omega) only [n1, g3, s_Mo_openOf, s1, ↓bc_234, ↓br_234_6, ↓bc_236, ↓bx_236, bl_236, ↓b_t0, ↓b_t1, ↓b_t2, ↓b_t3, ↓b_t4, ↓b_t5, ↓b_t6, Nat.zero_add, Nat.le_refl, b_rs, b_rn, b_r2, b_ss, b_sn, b_bt, b_bf, b_b0, b_b1, b_bw, b_shl, b_or, b_iv, b_jv, b_sI, b_sJ, ↓z_hl, z_b0, z_b1, z_b2, b_and1c, b_and1z, if_true, if_false, nI_add, pk_mul, b_cl, b_lt, b_le, b_eq, b_eq0, b_le0, b_0lt, b_0le, b_lt0]
        rw [if_neg (by omega), if_neg g5]
        exact ih (n + 1) (by omega) (by omega) h2 f (by omega)
    have h0 : b_h (w_tm m) j w = b_h (b_r (w_tm m) 236 (w_days (m 236) 0)) j w := by rw [b_ri]; rw [t236]; rfl
    by_cases c2 : m 236 157 < 400 ∧ w_open (m 236) t = 0
    · rw [if_pos ⟨c1, c2⟩]
      obtain ⟨f, hf⟩ : ∃ f, a_f1 = f + 1 := ⟨999998, rfl⟩
      rw [hf, l_Mo_when_13, q_Mo_when_13]
      have hb0 := hb (m 236) (fun _ _ => rfl)
      rw [show b_r (w_tm m) 236 (m 236) = w_tm m from by rw [← t236]; exact b_ri rfl] at hb0
      have w0 : w_open (w_tm m 236) t = 0 := by rw [t236]; exact c2.2
      simp (disch := omega) only [n1, s_Mo_openOf, w0, t236, ↓bc_234, ↓br_234_6, ↓bc_236, ↓bx_236, bl_236, ↓b_t0, ↓b_t1, ↓b_t2, ↓b_t3, ↓b_t4, ↓b_t5, ↓b_t6, Nat.zero_add, Nat.le_refl, b_rs, b_rn, b_r2, b_ss, b_sn, b_bt, b_bf, b_b0, b_b1, b_bw, b_shl, b_or, b_iv, b_jv, b_sI, b_sJ, ↓z_hl, z_b0, z_b1, z_b2, b_and1c, b_and1z, if_true, if_false, nI_add, pk_mul, b_cl, b_lt, b_le, b_eq, b_eq0, b_le0, b_0lt, b_0le, b_lt0]
      rw [if_neg (by omega), l_Mo_when_13, q_Mo_when_13]
      simp (disch := omega) only [hb0, ↓bc_234, ↓br_234_6, ↓bc_236, ↓bx_236, bl_236, ↓b_t0, ↓b_t1, ↓b_t2, ↓b_t3, ↓b_t4, ↓b_t5, ↓b_t6, Nat.zero_add, Nat.le_refl, b_rs, b_rn, b_r2, b_ss, b_sn, b_bt, b_bf, b_b0, b_b1, b_bw, b_shl, b_or, b_iv, b_jv, b_sI, b_sJ, ↓z_hl, z_b0, z_b1, z_b2, b_and1c, b_and1z, if_true, if_false, nI_add, pk_mul, b_cl, b_lt, b_le, b_eq, b_eq0, b_le0, b_0lt, b_0le, b_lt0]
      rw [if_pos c2.2]
    · rw [if_neg (fun h => c2 h.2)]
      by_cases c3 : w_open (m 236) t = 0
      · obtain ⟨f, hf⟩ : ∃ f, a_f1 = f + 1 := ⟨999998, rfl⟩
        rw [hf, l_Mo_when_13, q_Mo_when_13]
        have hb0 := hb (m 236) (fun _ _ => rfl)
        rw [show b_r (w_tm m) 236 (m 236) = w_tm m from by rw [← t236]; exact b_ri rfl] at hb0
        simp (disch := omega) only [n1, t236, hb0, ↓bc_234, ↓br_234_6, ↓bc_236, ↓bx_236, bl_236, ↓b_t0, ↓b_t1, ↓b_t2, ↓b_t3, ↓b_t4, ↓b_t5, ↓b_t6, Nat.zero_add, Nat.le_refl, b_rs, b_rn, b_r2, b_ss, b_sn, b_bt, b_bf, b_b0, b_b1, b_bw, b_shl, b_or, b_iv, b_jv, b_sI, b_sJ, ↓z_hl, z_b0, z_b1, z_b2, b_and1c, b_and1z, if_true, if_false, nI_add, pk_mul, b_cl, b_lt, b_le, b_eq, b_eq0, b_le0, b_0lt, b_0le, b_lt0]
        rw [if_pos (by omega)]
      · have hk := key 0 (by omega) c3 (a_f1 + 1) (by have : a_f1 = 999999 := rfl; omega)
        rw [← h0] at hk
        exact hk
  · rw [if_neg c1, if_neg (fun h => c1 h.1)]
    simp (disch := omega) only [s_Mo_isThing hS2, decide_eq_false_iff_not, ↓bc_234, ↓br_234_6, ↓bc_236, ↓bx_236, bl_236, ↓b_t0, ↓b_t1, ↓b_t2, ↓b_t3, ↓b_t4, ↓b_t5, ↓b_t6, Nat.zero_add, Nat.le_refl, b_rs, b_rn, b_r2, b_ss, b_sn, b_bt, b_bf, b_b0, b_b1, b_bw, b_shl, b_or, b_iv, b_jv, b_sI, b_sJ, ↓z_hl, z_b0, z_b1, z_b2, b_and1c, b_and1z, if_true, if_false, nI_add, pk_mul, b_cl, b_lt, b_le, b_eq, b_eq0, b_le0, b_0lt, b_0le, b_lt0]
    rw [if_pos c1]
theorem s_Mo_later (hS : i_S (m 236)) (hI : i_D (m 236)) (hD : 6 ≤ D) {t q : Nat} (ht : t < 4294967296) (hq : q < 4294967296) : a_ex X tx a_T D 290 [.ref 234, .int (nI t), .int (nI q)] (b_h m j w) = some ((b_h (if t < m 236 2 ∧ m 236 157 ≤ q ∧ q ≤ 400 then w_tm m else b_r m 234 (b_s (m 234) 0 0)) j w), some (.int (nI (w_qlater (m 236) t q)))) := by
  obtain ⟨d, rfl⟩ : ∃ d, D = d + 1 := ⟨D - 1, by omega⟩
  rw [e_Mo_later, q_Mo_later_0]
  have hS2 : i_S ((b_r m 234 (b_s (m 234) 0 0)) 236) := by rw [b_rn (by decide)]; exact hS
  have hI2 : i_D ((b_r m 234 (b_s (m 234) 0 0)) 236) := by rw [b_rn (by decide)]; exact hI
  have qq : (b_r m 234 (b_s (m 234) 0 0)) 236 = m 236 := b_rn (by decide)
  have q0 : (b_r m 234 (b_s (m 234) 0 0)) 236 0 = m 236 0 := by rw [qq]
  have q1 : (b_r m 234 (b_s (m 234) 0 0)) 236 1 = m 236 1 := by rw [qq]
  have q2 : (b_r m 234 (b_s (m 234) 0 0)) 236 2 = m 236 2 := by rw [qq]
  have q3 : (b_r m 234 (b_s (m 234) 0 0)) 236 3 = m 236 3 := by rw [qq]
  have hK := i_S_K hS
  have hM := i_S_M hS
  have hT := i_S_T hS
  have hE := i_S_E hS
  have hda := i_D_da hI
  unfold w_qlater
  by_cases c1 : t < m 236 2
  · by_cases c2 : m 236 157 ≤ q ∧ q ≤ 400
    · rw [if_pos ⟨c1, c2⟩, if_pos ⟨c1, c2⟩]
      have t236 : w_tm m 236 = m 236 := by unfold w_tm; rw [b_rn (by decide), b_rn (by decide)]
      have t242 : ∀ i, i < 195 → w_tm m 242 i = m 236 (157 + i) := fun i hi => by unfold w_tm; rw [b_rs, b_rgi (by omega) (by omega)]; rfl
      have hb : ∀ r, (∀ i, i < 157 ∨ 352 ≤ i → r i = m 236 i) → a_ex X tx a_T d 258 [.ref 234] (b_h (b_r (w_tm m) 236 r) j w) = some (b_h (w_tm m) j w, none) := by
        intro r hr
        rw [s_Mo_back (by omega), b_r2, b_rs]
        have : b_rg r 157 195 (fun i => b_r (w_tm m) 236 r 242 i) = w_tm m 236 := by
          rw [t236]
          exact w_restore hr (fun i hi => by rw [b_rn (by decide)]; exact t242 i hi)
        rw [this, b_ri rfl]
      obtain ⟨g1, g2, g3, g4⟩ := w_days_ok hS hI (q - m 236 157) (by omega)
      have s1 := s_Mo_goesOn (X := X) (tx := tx) (D := d) (m := w_tm m) (j := j) (w := w) (by rw [t236]; exact hS) (by rw [t236]; exact hI) (by omega) (q := q - m 236 157) (by omega)
      rw [t236, show min (q - m 236 157) (400 - m 236 157) = q - m 236 157 by omega] at s1
      have s2 := s_Mo_tries (X := X) (tx := tx) (D := d) (m := b_r m 234 (b_s (m 234) 0 0)) (j := j) (w := w) (by omega)
      rw [qq, b_rn (by decide)] at s2
      have s3 : a_ex X tx a_T d 257 [.ref 234] (b_h (b_r m 234 (b_s (m 234) 0 0)) j w) = some (b_h (w_tm m) j w, none) := s2
      have e2 : decide (m 236 157 ≤ q ∧ q ≤ 400) = true := decide_eq_true c2
      have e4 := w_days_open hS hI (t := t) (n := q - m 236 157) (by omega) (by omega)
      rw [show m 236 157 + (q - m 236 157) = q by omega] at e4
      simp (disch := omega) only [s_Mo_isThing hS2, s_Mo_isIn, e2, s3, t236, b_sub, s1, s_Mo_openOf, hb _ (fun i hi => g4 i (by omega)), e4, decide_eq_false_iff_not, ↓bc_234, ↓br_234_6, ↓bc_236, ↓bx_236, bl_236, ↓b_t0, ↓b_t1, ↓b_t2, ↓b_t3, ↓b_t4, ↓b_t5, ↓b_t6, Nat.zero_add, Nat.le_refl, b_rs, b_rn, b_r2, b_ss, b_sn, b_bt, b_bf, b_b0, b_b1, b_bw, b_shl, b_or, b_iv, b_jv, b_sI, b_sJ, ↓z_hl, z_b0, z_b1, z_b2, b_and1c, b_and1z, if_true, if_false, nI_add, pk_mul, b_cl, b_lt, b_le, b_eq, b_eq0, b_le0, b_0lt, b_0le, b_lt0]
      rw [if_neg (fun h => h c1), if_neg (by decide)]
    · rw [if_neg (fun h => c2 h.2), if_neg (fun h => c2 h.2)]
      have e2 : decide (m 236 157 ≤ q ∧ q ≤ 400) = false := decide_eq_false c2
      simp (disch := omega) only [s_Mo_isThing hS2, s_Mo_isIn, e2, decide_eq_false_iff_not, ↓bc_234, ↓br_234_6, ↓bc_236, ↓bx_236, bl_236, ↓b_t0, ↓b_t1, ↓b_t2, ↓b_t3, ↓b_t4, ↓b_t5, ↓b_t6, Nat.zero_add, Nat.le_refl, b_rs, b_rn, b_r2, b_ss, b_sn, b_bt, b_bf, b_b0, b_b1, b_bw, b_shl, b_or, b_iv, b_jv, b_sI, b_sJ, ↓z_hl, z_b0, z_b1, z_b2, b_and1c, b_and1z, if_true, if_false, nI_add, pk_mul, b_cl, b_lt, b_le, b_eq, b_eq0, b_le0, b_0lt, b_0le, b_lt0]
      rw [if_neg (fun h => h c1)]
  · rw [if_neg (fun h => c1 h.1), if_neg (fun h => c1 h.1)]
    simp (disch := omega) only [s_Mo_isThing hS2, decide_eq_false_iff_not, ↓bc_234, ↓br_234_6, ↓bc_236, ↓bx_236, bl_236, ↓b_t0, ↓b_t1, ↓b_t2, ↓b_t3, ↓b_t4, ↓b_t5, ↓b_t6, Nat.zero_add, Nat.le_refl, b_rs, b_rn, b_r2, b_ss, b_sn, b_bt, b_bf, b_b0, b_b1, b_bw, b_shl, b_or, b_iv, b_jv, b_sI, b_sJ, ↓z_hl, z_b0, z_b1, z_b2, b_and1c, b_and1z, if_true, if_false, nI_add, pk_mul, b_cl, b_lt, b_le, b_eq, b_eq0, b_le0, b_0lt, b_0le, b_lt0]
    rw [if_pos c1]
end WL
