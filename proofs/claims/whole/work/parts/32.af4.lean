/-! THE CLASS: laying, going on, days -/
/-- the two halves of a day -/
def w_stepA (s : Nat → Nat) (e : Nat) : Nat → Nat := if s (241 + e) = 4294967295 ∧ 0 < s (147 + e) ∧ (s 281).testBit e = false ∧ s 157 + 1 = s (271 + e) + s (147 + e) then w_dark s e else s
def w_stepB (s : Nat → Nat) (e : Nat) : Nat → Nat := if s (241 + e) ≠ 4294967295 ∧ nI (s (282 + e)) = 0 then w_price s e else s
def w_loopA (s : Nat → Nat) : Nat → (Nat → Nat)
  | 0 => s
  | n + 1 => w_stepA (w_loopA s n) n
def w_loopB (s : Nat → Nat) : Nat → (Nat → Nat)
  | 0 => s
  | n + 1 => w_stepB (w_loopB s n) n
section HALF
variable {s : Nat → Nat}
theorem w_stepA_lo (hS : i_S s) (hI : i_D s) {e : Nat} (he : e < s 3) {i : Nat} (hi : i < 158 ∨ (159 ≤ i ∧ i < 177) ∨ (225 ≤ i ∧ i < 233) ∨ (241 ≤ i ∧ i < 281) ∨ 282 ≤ i) : w_stepA s e i = s i := by
  unfold w_stepA
  split
  · rename_i h
    obtain ⟨t, ht, ht8, hp⟩ := i_place hS hI he h.1
    exact w_dark_lo hp ht8 hi
  · rfl
theorem w_stepA_D (hS : i_S s) (hI : i_D s) {e : Nat} (he : e < s 3) : i_D (w_stepA s e) := by
  unfold w_stepA
  split
  · rename_i h; exact i_D_dark hS hI he h.1 h.2.1 h.2.2.1
  · exact hI
theorem w_stepB_lo (hS : i_S s) {e : Nat} (he : e < s 3) {i : Nat} (hi : i < 251 ∨ 261 ≤ i) : w_stepB s e i = s i := by
  have := i_S_E hS
  unfold w_stepB
  split
  · exact b_sn (by omega)
  · rfl
theorem w_stepB_D (hS : i_S s) (hI : i_D s) {e : Nat} (he : e < s 3) : i_D (w_stepB s e) := by
  unfold w_stepB
  split
  · exact i_D_price hS hI he
  · exact hI
theorem w_loopA_ok (hS : i_S s) (hI : i_D s) : ∀ n, n ≤ s 3 → i_S (w_loopA s n) ∧ i_D (w_loopA s n) ∧ (∀ i, (i < 158 ∨ (159 ≤ i ∧ i < 177) ∨ (225 ≤ i ∧ i < 233) ∨ (241 ≤ i ∧ i < 281) ∨ 282 ≤ i) → w_loopA s n i = s i)
  | 0, _ => ⟨hS, hI, fun _ _ => rfl⟩
  | n + 1, hn => by
    obtain ⟨h1, h2, h3⟩ := w_loopA_ok hS hI n (by omega)
    have h4 : n < w_loopA s n 3 := by rw [h3 3 (by omega)]; omega
    have g : ∀ i, (i < 158 ∨ (159 ≤ i ∧ i < 177) ∨ (225 ≤ i ∧ i < 233) ∨ (241 ≤ i ∧ i < 281) ∨ 282 ≤ i) → w_loopA s (n + 1) i = s i := fun i hi => by
      show w_stepA (w_loopA s n) n i = s i
      rw [w_stepA_lo h1 h2 h4 hi, h3 i hi]
    exact ⟨i_S_ext (fun i hi => g i (by omega)) hS, w_stepA_D h1 h2 h4, g⟩
theorem w_loopB_ok (hS : i_S s) (hI : i_D s) : ∀ n, n ≤ s 3 → i_S (w_loopB s n) ∧ i_D (w_loopB s n) ∧ (∀ i, (i < 251 ∨ 261 ≤ i) → w_loopB s n i = s i)
  | 0, _ => ⟨hS, hI, fun _ _ => rfl⟩
  | n + 1, hn => by
    obtain ⟨h1, h2, h3⟩ := w_loopB_ok hS hI n (by omega)
    have h4 : n < w_loopB s n 3 := by rw [h3 3 (by omega)]; omega
    have g : ∀ i, (i < 251 ∨ 261 ≤ i) → w_loopB s (n + 1) i = s i := fun i hi => by
      show w_stepB (w_loopB s n) n i = s i
      rw [w_stepB_lo h1 h4 hi, h3 i hi]
    exact ⟨i_S_ext (fun i hi => g i (by omega)) hS, w_stepB_D h1 h2 h4, g⟩
theorem w_dark_price (hS : i_S s) (hI : i_D s) {e k : Nat} (he : e < s 3) (hk : k < s 3) (hp : s (241 + e) = 4294967295) : w_price (w_dark s e) k = w_dark (w_price s k) e := by
  have hE := i_S_E hS
  obtain ⟨t, ht, ht8, hpl⟩ := i_place hS hI he hp
  have u : ∀ i, i ≠ 251 + k → w_price s k i = s i := fun i hi => b_sn hi
  funext i
  have hpl2 : w_price s k (261 + e) = t + 1 := by rw [u _ (by omega)]; exact hpl
  by_cases c : i = 251 + k
  · subst c
    rw [w_dark_lo hpl2 ht8 (by omega)]
    unfold w_price
    rw [b_ss, b_ss, w_dark_lo hpl ht8 (by omega), w_dark_lo hpl ht8 (by omega)]
  · have h1 : w_price (w_dark s e) k i = w_dark s e i := b_sn c
    rw [h1]
    unfold w_dark
    rw [hpl, hpl2, Nat.add_sub_cancel, u 281 (by omega), u (233 + t) (by omega), u 158 (by omega)]
    have h2 : (b_rg (w_price s k) (177 + 6 * t) 6 fun q => min 99 (w_price s k (177 + 6 * t + q) + w_price s k (292 + 6 * e + q))) = b_rg (w_price s k) (177 + 6 * t) 6 fun q => min 99 (s (177 + 6 * t + q) + s (292 + 6 * e + q)) := b_rg_congr (fun q hq => by rw [u _ (by omega), u _ (by omega)])
    rw [h2]
    unfold b_s b_rg
    rw [u i c]
theorem w_step_comm (hS : i_S s) (hI : i_D s) {e k : Nat} (he : e < s 3) (hk : k < s 3) : w_stepB (w_stepA s e) k = w_stepA (w_stepB s k) e := by
  have hE := i_S_E hS
  have u : ∀ i, (i < 251 ∨ 261 ≤ i) → w_stepB s k i = s i := fun i hi => w_stepB_lo hS hk hi
  have v : ∀ i, (i < 158 ∨ (159 ≤ i ∧ i < 177) ∨ (225 ≤ i ∧ i < 233) ∨ (241 ≤ i ∧ i < 281) ∨ 282 ≤ i) → w_stepA s e i = s i := fun i hi => w_stepA_lo hS hI he hi
  by_cases c1 : s (241 + e) = 4294967295 ∧ 0 < s (147 + e) ∧ (s 281).testBit e = false ∧ s 157 + 1 = s (271 + e) + s (147 + e)
  · have a1 : w_stepA s e = w_dark s e := if_pos c1
    have a2 : w_stepA (w_stepB s k) e = w_dark (w_stepB s k) e := by
      unfold w_stepA
      rw [u (241 + e) (by omega), u (147 + e) (by omega), u 281 (by omega), u 157 (by omega), u (271 + e) (by omega), if_pos c1]
    rw [a1] at v
    rw [a1, a2]
    by_cases c2 : s (241 + k) ≠ 4294967295 ∧ nI (s (282 + k)) = 0
    · have b1 : w_stepB s k = w_price s k := if_pos c2
      have b2 : w_stepB (w_dark s e) k = w_price (w_dark s e) k := by
        unfold w_stepB
        rw [v (241 + k) (by omega), v (282 + k) (by omega), if_pos c2]
      rw [b1, b2]
      exact w_dark_price hS hI he hk c1.1
    · have b1 : w_stepB s k = s := if_neg c2
      have b2 : w_stepB (w_dark s e) k = w_dark s e := by
        unfold w_stepB
        rw [v (241 + k) (by omega), v (282 + k) (by omega), if_neg c2]
      rw [b1, b2]
  · have a1 : w_stepA s e = s := if_neg c1
    have a2 : w_stepA (w_stepB s k) e = w_stepB s k := by
      unfold w_stepA
      rw [u (241 + e) (by omega), u (147 + e) (by omega), u 281 (by omega), u 157 (by omega), u (271 + e) (by omega), if_neg c1]
    rw [a1, a2]
theorem w_loopB_step (hS : i_S s) (hI : i_D s) {e : Nat} (he : e < s 3) : ∀ n, n ≤ s 3 → w_loopB (w_stepA s e) n = w_stepA (w_loopB s n) e
  | 0, _ => rfl
  | n + 1, hn => by
    obtain ⟨h1, h2, h3⟩ := w_loopB_ok hS hI n (by omega)
    show w_stepB (w_loopB (w_stepA s e) n) n = w_stepA (w_stepB (w_loopB s n) n) e
    rw [w_loopB_step hS hI he n (by omega)]
    exact w_step_comm h1 h2 (by rw [h3 3 (by omega)]; exact he) (by rw [h3 3 (by omega)]; omega)
theorem w_dstep_AB (hS : i_S s) (hI : i_D s) {e : Nat} (he : e < s 3) : w_stepB (w_stepA s e) e = w_dstep s e := by
  have hE := i_S_E hS
  have v : ∀ i, (i < 158 ∨ (159 ≤ i ∧ i < 177) ∨ (225 ≤ i ∧ i < 233) ∨ (241 ≤ i ∧ i < 281) ∨ 282 ≤ i) → w_stepA s e i = s i := fun i hi => w_stepA_lo hS hI he hi
  unfold w_stepB w_dstep
  rw [v (241 + e) (by omega), v (282 + e) (by omega)]
  by_cases c1 : s (241 + e) = 4294967295
  · rw [if_neg (fun h => h.1 c1), if_pos c1]
    unfold w_stepA
    by_cases c2 : 0 < s (147 + e) ∧ (s 281).testBit e = false ∧ s 157 + 1 = s (271 + e) + s (147 + e)
    · rw [if_pos ⟨c1, c2⟩, if_pos c2]
    · rw [if_neg (fun h => c2 h.2), if_neg c2]
  · have a1 : w_stepA s e = s := if_neg (fun h => c1 h.1)
    rw [a1, if_neg c1]
    by_cases c2 : nI (s (282 + e)) = 0
    · rw [if_pos ⟨c1, c2⟩, if_pos c2]
    · rw [if_neg (fun h => c2 h.2), if_neg c2]
theorem w_dloop_AB (hS : i_S s) (hI : i_D s) : ∀ n, n ≤ s 3 → w_loopB (w_loopA s n) n = w_dloop s n
  | 0, _ => rfl
  | n + 1, hn => by
    obtain ⟨h1, h2, h3⟩ := w_loopA_ok hS hI n (by omega)
    have h4 : n < w_loopA s n 3 := by rw [h3 3 (by omega)]; omega
    show w_stepB (w_loopB (w_stepA (w_loopA s n) n) n) n = w_dstep (w_dloop s n) n
    rw [w_loopB_step h1 h2 h4 n (by omega), w_dloop_AB hS hI n (by omega)]
    obtain ⟨g1, g2, g3, -⟩ := w_dloop_ok hS hI n (by omega)
    exact w_dstep_AB g2 g1 (by rw [g3 3 (by omega)]; omega)
end HALF
def w_lyA (f s : Nat → Nat) (e t n : Nat) : Nat → Nat := b_rg f (t * 6) n fun k => s (177 + 6 * t + k) - min (s (87 + 6 * e + k)) (s (177 + 6 * t + k))
def w_lyB (f s : Nat → Nat) (e t n : Nat) : Nat → Nat := b_rg f (e * 6) n fun k => min (s (87 + 6 * e + k)) (s (177 + 6 * t + k))
theorem w_lyA1 {f s : Nat → Nat} {e t n : Nat} : b_s (w_lyA f s e t n) (t * 6 + n) (s (177 + 6 * t + n) - min (s (87 + 6 * e + n)) (s (177 + 6 * t + n))) = w_lyA f s e t (n + 1) := b_rg1
theorem w_lyB1 {f s : Nat → Nat} {e t n : Nat} : b_s (w_lyB f s e t n) (e * 6 + n) (min (s (87 + 6 * e + n)) (s (177 + 6 * t + n))) = w_lyB f s e t (n + 1) := b_rg1
theorem w_ly0 {f s : Nat → Nat} {e t : Nat} : w_lyA f s e t 0 = f ∧ w_lyB f s e t 0 = f := ⟨b_rg0, b_rg0⟩
theorem s_Af_amountm26 {X : Nat × (Nat → Int32)} {tx : List Int32} {D : Nat} {m j : Nat → Nat → Nat} {w : (Nat × Nat) × Bool} (hD : 1 ≤ D) {t k : Nat} (ht : t < 8) (hk : k < 6) : a_ex X tx a_T D 49 [.ref 26, .int (nI t), .int (nI k)] (b_h m j w) = some ((b_h m j w), some (.int (nI (m 30 (t * 6 + k))))) := by
  obtain ⟨d, rfl⟩ : ∃ d, D = d + 1 := ⟨D - 1, by omega⟩
  rw [e_Af_amount, q_Af_amount_0]
  simp (disch := omega) only [↓bc_26, ↓br_26_5, ↓bc_30, ↓bx_30, bl_30, ↓b_t0, ↓b_t1, ↓b_t2, ↓b_t3, ↓b_t4, ↓b_t5, ↓b_t6, Nat.zero_add, Nat.le_refl, b_rs, b_rn, b_r2, b_ss, b_sn, b_bt, b_bf, b_b0, b_b1, b_bw, b_shl, b_or, b_iv, b_jv, b_sI, b_sJ, ↓z_hl, z_b0, z_b1, z_b2, b_and1c, b_and1z, if_true, if_false, nI_add, pk_mul, b_cl, b_lt, b_le, b_eq, b_eq0, b_le0, b_0lt, b_0le, b_lt0]
  rw [if_neg (by omega), if_neg (by omega)]
theorem s_Fa_closedm26 {X : Nat × (Nat → Int32)} {tx : List Int32} {D : Nat} {m j : Nat → Nat → Nat} {w : (Nat × Nat) × Bool} {s : Nat → Nat} {f g : Nat → Nat} (hF : c_F m 4 s) (hS : i_S s) (hD : 1 ≤ D) {e k : Nat} (he : e < 10) (hk : k < 6) : a_ex X tx a_T D 26 [.ref 4, .int (nI e), .int (nI k)] (b_h (b_r (b_r m 30 f) 37 g) j w) = some (b_h (b_r (b_r m 30 f) 37 g) j w, some (.int (nI (s (87 + 6 * e + k))))) :=
  s_Fa_closed (c_F_ext (fun c h1 h2 => by rw [b_rn (by omega), b_rn (by omega)]) (fun _ _ => rfl) hS hF) hD he hk
theorem s_Af_layN26 {X : Nat × (Nat → Int32)} {tx : List Int32} {D : Nat} {m j : Nat → Nat → Nat} {w : (Nat × Nat) × Bool} {s : Nat → Nat} (hF : c_F m 4 s) (hA : c_A m 26 s) (hS : i_S s) (hI : i_D s) (hD : 4 ≤ D) {q e t : Nat} (hq : q < s 1) (he : e < s 3) (ht : t < s 2) (hw : w_whyPut s q e t ≠ 0) : a_ex X tx a_T D 72 [.ref 26, .int (nI q), .int (nI e), .int (nI t)] (b_h m j w) = some ((b_h m j w), some (.int (nI (w_whyPut s q e t)))) := by
  have hE := i_S_E hS
  have hM := i_S_M hS
  have hT := i_S_T hS
  have hw2 : w_whyPut s q e t < 4294967296 := by
    unfold w_whyPut; split; · decide
    split
    · split <;> decide
    · decide
  obtain ⟨d, rfl⟩ : ∃ d, D = d + 1 := ⟨D - 1, by omega⟩
  rw [e_Af_lay, q_Af_lay_0]
  have s1 := s_Af_whyNotPut26 (X := X) (tx := tx) (D := d) (j := j) (w := w) hF hA hS hI (by omega) (q := q) (e := e) (t := t) (by omega) (by omega) (by omega)
  rw [if_pos ⟨hq, he, ht⟩] at s1
  simp (disch := omega) only [s1, ↓bc_26, ↓br_26_0, ↓bc_4, ↓br_26_12, ↓bc_37, ↓bx_37, bl_37, ↓br_26_6, ↓bc_31, ↓bx_31, bl_31, ↓br_26_8, ↓bc_33, ↓bx_33, bl_33, ↓br_26_9, ↓bc_34, ↓bx_34, bl_34, ↓br_26_4, ↓bc_29, ↓bx_29, bl_29, ↓b_t0, ↓b_t1, ↓b_t2, ↓b_t3, ↓b_t4, ↓b_t5, ↓b_t6, Nat.zero_add, Nat.le_refl, b_rs, b_rn, b_r2, b_ss, b_sn, b_bt, b_bf, b_b0, b_b1, b_bw, b_shl, b_or, b_iv, b_jv, b_sI, b_sJ, ↓z_hl, z_b0, z_b1, z_b2, b_and1c, b_and1z, if_true, if_false, nI_add, pk_mul, b_cl, b_lt, b_le, b_eq, b_eq0, b_le0, b_0lt, b_0le, b_lt0]
  rw [if_neg hw]
theorem s_Af_lay26 {X : Nat × (Nat → Int32)} {tx : List Int32} {D : Nat} {m j : Nat → Nat → Nat} {w : (Nat × Nat) × Bool} {s : Nat → Nat} (hF : c_F m 4 s) (hA : c_A m 26 s) (hS : i_S s) (hI : i_D s) (hD : 4 ≤ D) {q e t : Nat} (hq : q < s 1) (he : e < s 3) (ht : t < s 2) (hw : w_whyPut s q e t = 0) :
    ∃ m2, a_ex X tx a_T D 72 [.ref 26, .int (nI q), .int (nI e), .int (nI t)] (b_h m j w) = some (b_h m2 j w, some (.int (nI 0))) ∧ z_fr 26 37 m m2 ∧ c_A m2 26 (w_puts s q e t) := by
  have hE := i_S_E hS
  have hM := i_S_M hS
  have hT := i_S_T hS
  have hK := i_S_K hS
  have ne : s (241 + e) ≠ 4294967295 := (w_whyPut0 hw).2.2.2
  refine ⟨b_r (b_r (b_r (b_r (b_r (b_r m 30 (w_lyA (m 30) s e t (s 0))) 37 (w_lyB (m 37) s e t (s 0))) 31 (b_s (m 31) e 4294967295)) 33 (b_s (m 33) e t)) 34 (b_s (m 34) e (s 157))) 29 (b_s (m 29) q (m 29 q + 1)), ?_, ?_, ?_⟩
  · obtain ⟨d, rfl⟩ : ∃ d, D = d + 1 := ⟨D - 1, by omega⟩
    rw [e_Af_lay, q_Af_lay_0]
    have g1 := c_F4_K hF
    have g2 := c_A26_da hA
    have s1 := s_Af_whyNotPut26 (X := X) (tx := tx) (D := d) (j := j) (w := w) hF hA hS hI (by omega) (q := q) (e := e) (t := t) (by omega) (by omega) (by omega)
    rw [if_pos ⟨hq, he, ht⟩, hw] at s1
    rw [bc_26, s1, z_b1, if_pos (show nI 0 = (0 : Int32) by decide +kernel), ← l_Af_lay_12]
    refine z_run (Q := fun r => r = some (b_h (b_r (b_r (b_r (b_r (b_r (b_r m 30 (w_lyA (m 30) s e t (s 0))) 37 (w_lyB (m 37) s e t (s 0))) 31 (b_s (m 31) e 4294967295)) 33 (b_s (m 33) e t)) 34 (b_s (m 34) e (s 157))) 29 (b_s (m 29) q (m 29 q + 1))) j w, some (.int (nI 0)))) (fun k L h => ∃ n u, k + n = s 0 ∧ L = [.ref 26, .int (nI q), .int (nI e), .int (nI t), .int (nI 0), .int (nI n), u] ∧ h = b_h (b_r (b_r m 30 (w_lyA (m 30) s e t n)) 37 (w_lyB (m 37) s e t n)) j w) 0 ?_ (s 0) _ _ ⟨0, _, by omega, rfl, ?_⟩ _ (z_fu (by omega))
    · rintro k L h ⟨n, u, hk, rfl, rfl⟩ f _
      rw [l_Af_lay_12, q_Af_lay_12]
      by_cases hn : n = s 0
      · left
        subst hn
        simp (disch := omega) only [g1, g2, ↓bc_26, ↓br_26_0, ↓bc_4, ↓br_26_12, ↓bc_37, ↓bx_37, bl_37, ↓br_26_6, ↓bc_31, ↓bx_31, bl_31, ↓br_26_8, ↓bc_33, ↓bx_33, bl_33, ↓br_26_9, ↓bc_34, ↓bx_34, bl_34, ↓br_26_4, ↓bc_29, ↓bx_29, bl_29, ↓b_t0, ↓b_t1, ↓b_t2, ↓b_t3, ↓b_t4, ↓b_t5, ↓b_t6, Nat.zero_add, Nat.le_refl, b_rs, b_rn, b_r2, b_ss, b_sn, b_bt, b_bf, b_b0, b_b1, b_bw, b_shl, b_or, b_iv, b_jv, b_sI, b_sJ, ↓z_hl, z_b0, z_b1, z_b2, b_and1c, b_and1z, if_true, if_false, nI_add, pk_mul, b_cl, b_lt, b_le, b_eq, b_eq0, b_le0, b_0lt, b_0le, b_lt0]
      · right
        refine ⟨k - 1, [.ref 26, .int (nI q), .int (nI e), .int (nI t), .int (nI 0), .int (nI (n + 1)), .int (nI (min (s (87 + 6 * e + n)) (s (177 + 6 * t + n))))], _, by omega, ⟨n + 1, _, by omega, rfl, rfl⟩, ?_⟩
        have b1 := i_S_cl hS e (by omega) n (by omega)
        have b2 := i_D_op hI t (by omega) n (by omega)
        have b3 : min (s (87 + 6 * e + n)) (s (177 + 6 * t + n)) ≤ s (177 + 6 * t + n) := Nat.min_le_right _ _
        have e1 : w_lyA (m 30) s e t n (t * 6 + n) = s (177 + 6 * t + n) := by unfold w_lyA; rw [b_rgo (by omega)]; exact c_A26_op hA t (by omega) n (by omega)
        simp (disch := omega) only [g1, s_Fa_closedm26 hF hS, s_Af_amountm26, s_Af_setAmount26, e1, b_min, b_sub, w_lyB1, w_lyA1, b_rx (c2 := 30) (c := 37) (by decide), ↓bc_26, ↓br_26_0, ↓bc_4, ↓br_26_12, ↓bc_37, ↓bx_37, bl_37, ↓br_26_6, ↓bc_31, ↓bx_31, bl_31, ↓br_26_8, ↓bc_33, ↓bx_33, bl_33, ↓br_26_9, ↓bc_34, ↓bx_34, bl_34, ↓br_26_4, ↓bc_29, ↓bx_29, bl_29, ↓b_t0, ↓b_t1, ↓b_t2, ↓b_t3, ↓b_t4, ↓b_t5, ↓b_t6, Nat.zero_add, Nat.le_refl, b_rs, b_rn, b_r2, b_ss, b_sn, b_bt, b_bf, b_b0, b_b1, b_bw, b_shl, b_or, b_iv, b_jv, b_sI, b_sJ, ↓z_hl, z_b0, z_b1, z_b2, b_and1c, b_and1z, if_true, if_false, nI_add, pk_mul, b_cl, b_lt, b_le, b_eq, b_eq0, b_le0, b_0lt, b_0le, b_lt0]
        rw [if_neg (by omega)]
    · rw [w_ly0.1, w_ly0.2, b_ri rfl, b_ri rfl]
  · exact z_fr_r (z_fr_r (z_fr_r (z_fr_r (z_fr_r (z_fr_r z_fr_rf (by decide)) (by decide)) (by decide)) (by decide)) (by decide)) (by decide)
  · unfold c_A
    simp (disch := omega) only [b_rs, b_rn]
    have u : ∀ i, (i < 171 ∨ (233 ≤ i ∧ i < 241) ∨ (251 ≤ i ∧ i < 261) ∨ (281 ≤ i ∧ i < 292) ∨ 352 ≤ i) → w_puts s q e t i = s i := fun i hi => w_puts_lo hi (by omega) (by omega) (by omega)
    obtain ⟨ue1, ue2, ue3⟩ := w_puts_e (s := s) (q := q) (e := e) (t := t) (by omega) (by omega) (by omega)
    have un : ∀ i, i < 10 → i ≠ e → w_puts s q e t (241 + i) = s (241 + i) ∧ w_puts s q e t (261 + i) = s (261 + i) ∧ w_puts s q e t (271 + i) = s (271 + i) := fun i hi hne => w_puts_n (by omega) (by omega) (by omega) hi hne
    rw [u 1 (by omega), u 3 (by omega), u 0 (by omega)]
    refine ⟨by rw [u _ (by omega)]; exact c_A26_da hA, ?_, ?_, ?_, ?_, ?_, ?_, ?_, ?_, ?_, ?_, ?_⟩
    · intro i hi; rw [u _ (by omega)]; exact c_A26_co hA i hi
    · intro i hi; rw [u _ (by omega)]; exact c_A26_bo hA i hi
    · intro i hi
      by_cases c1 : i = q
      · subst c1; rw [b_ss, w_puts_qq, show m 29 i = s (171 + i) from c_A26_pp hA i hi]
      · rw [b_sn c1, w_puts_qn (by omega) (by omega) (by omega) c1]; exact c_A26_pp hA i hi
    · intro v hv k hk
      unfold w_lyA
      by_cases c1 : v = t
      · subst c1
        rw [w_puts_op (by omega) (by omega) (by omega) hk]
        by_cases c2 : k < s 0
        · rw [b_rgk c2, Nat.min_comm]
        · rw [b_rgo (by omega), show m 30 (v * 6 + k) = s (177 + 6 * v + k) from c_A26_op hA v hv k hk, i_D_opk hI v hv k (by omega) hk]
          omega
      · rw [w_puts_on (by omega) (by omega) (by omega) hv hk c1, b_rgo (by omega)]
        exact c_A26_op hA v hv k hk
    · intro i hi
      by_cases c1 : i = e
      · subst c1; rw [b_ss, ue1]
      · rw [b_sn c1, (un i (by omega) c1).1]; exact c_A26_ha hA i hi
    · intro i hi; rw [u _ (by omega)]; exact c_A26_pr hA i hi
    · intro i hi
      by_cases c1 : i = e
      · subst c1; rw [b_ss, ue1, ue2, if_pos rfl]; rfl
      · rw [b_sn c1, (un i (by omega) c1).1, (un i (by omega) c1).2.1]; exact c_A26_pl hA i hi
    · intro i hi
      by_cases c1 : i = e
      · subst c1; rw [b_ss, ue1, ue3, if_pos rfl]
      · rw [b_sn c1, (un i (by omega) c1).1, (un i (by omega) c1).2.2]; exact c_A26_pd hA i hi
    · intro i hi; rw [u _ (by omega)]; exact c_A26_we hA i hi
    · intro i hi; rw [u _ (by omega)]; exact c_A26_so hA i hi
    · intro i hi hp k hk
      unfold w_lyB
      by_cases c1 : i = e
      · subst c1
        rw [w_puts_sh (by omega) (by omega) (by omega) (by omega), b_rgk hk, Nat.min_comm]
      · rw [(un i (by omega) c1).1] at hp
        rw [w_puts_sn (by omega) (by omega) (by omega) (by omega) (by omega) c1, b_rgo (by omega)]
        exact c_A26_sh hA i hi hp k hk
theorem s_Af_amountm38 {X : Nat × (Nat → Int32)} {tx : List Int32} {D : Nat} {m j : Nat → Nat → Nat} {w : (Nat × Nat) × Bool} (hD : 1 ≤ D) {t k : Nat} (ht : t < 8) (hk : k < 6) : a_ex X tx a_T D 49 [.ref 38, .int (nI t), .int (nI k)] (b_h m j w) = some ((b_h m j w), some (.int (nI (m 42 (t * 6 + k))))) := by
  obtain ⟨d, rfl⟩ : ∃ d, D = d + 1 := ⟨D - 1, by omega⟩
  rw [e_Af_amount, q_Af_amount_0]
  simp (disch := omega) only [↓bc_38, ↓br_38_5, ↓bc_42, ↓bx_42, bl_42, ↓b_t0, ↓b_t1, ↓b_t2, ↓b_t3, ↓b_t4, ↓b_t5, ↓b_t6, Nat.zero_add, Nat.le_refl, b_rs, b_rn, b_r2, b_ss, b_sn, b_bt, b_bf, b_b0, b_b1, b_bw, b_shl, b_or, b_iv, b_jv, b_sI, b_sJ, ↓z_hl, z_b0, z_b1, z_b2, b_and1c, b_and1z, if_true, if_false, nI_add, pk_mul, b_cl, b_lt, b_le, b_eq, b_eq0, b_le0, b_0lt, b_0le, b_lt0]
  rw [if_neg (by omega), if_neg (by omega)]
theorem s_Fa_closedm38 {X : Nat × (Nat → Int32)} {tx : List Int32} {D : Nat} {m j : Nat → Nat → Nat} {w : (Nat × Nat) × Bool} {s : Nat → Nat} {f g : Nat → Nat} (hF : c_F m 4 s) (hS : i_S s) (hD : 1 ≤ D) {e k : Nat} (he : e < 10) (hk : k < 6) : a_ex X tx a_T D 26 [.ref 4, .int (nI e), .int (nI k)] (b_h (b_r (b_r m 42 f) 49 g) j w) = some (b_h (b_r (b_r m 42 f) 49 g) j w, some (.int (nI (s (87 + 6 * e + k))))) :=
  s_Fa_closed (c_F_ext (fun c h1 h2 => by rw [b_rn (by omega), b_rn (by omega)]) (fun _ _ => rfl) hS hF) hD he hk
theorem s_Af_layN38 {X : Nat × (Nat → Int32)} {tx : List Int32} {D : Nat} {m j : Nat → Nat → Nat} {w : (Nat × Nat) × Bool} {s : Nat → Nat} (hF : c_F m 4 s) (hA : c_A m 38 s) (hS : i_S s) (hI : i_D s) (hD : 4 ≤ D) {q e t : Nat} (hq : q < s 1) (he : e < s 3) (ht : t < s 2) (hw : w_whyPut s q e t ≠ 0) : a_ex X tx a_T D 72 [.ref 38, .int (nI q), .int (nI e), .int (nI t)] (b_h m j w) = some ((b_h m j w), some (.int (nI (w_whyPut s q e t)))) := by
  have hE := i_S_E hS
  have hM := i_S_M hS
  have hT := i_S_T hS
  have hw2 : w_whyPut s q e t < 4294967296 := by
    unfold w_whyPut; split; · decide
    split
    · split <;> decide
    · decide
  obtain ⟨d, rfl⟩ : ∃ d, D = d + 1 := ⟨D - 1, by omega⟩
  rw [e_Af_lay, q_Af_lay_0]
  have s1 := s_Af_whyNotPut38 (X := X) (tx := tx) (D := d) (j := j) (w := w) hF hA hS hI (by omega) (q := q) (e := e) (t := t) (by omega) (by omega) (by omega)
  rw [if_pos ⟨hq, he, ht⟩] at s1
  simp (disch := omega) only [s1, ↓bc_38, ↓br_38_0, ↓bc_4, ↓br_38_12, ↓bc_49, ↓bx_49, bl_49, ↓br_38_6, ↓bc_43, ↓bx_43, bl_43, ↓br_38_8, ↓bc_45, ↓bx_45, bl_45, ↓br_38_9, ↓bc_46, ↓bx_46, bl_46, ↓br_38_4, ↓bc_41, ↓bx_41, bl_41, ↓b_t0, ↓b_t1, ↓b_t2, ↓b_t3, ↓b_t4, ↓b_t5, ↓b_t6, Nat.zero_add, Nat.le_refl, b_rs, b_rn, b_r2, b_ss, b_sn, b_bt, b_bf, b_b0, b_b1, b_bw, b_shl, b_or, b_iv, b_jv, b_sI, b_sJ, ↓z_hl, z_b0, z_b1, z_b2, b_and1c, b_and1z, if_true, if_false, nI_add, pk_mul, b_cl, b_lt, b_le, b_eq, b_eq0, b_le0, b_0lt, b_0le, b_lt0]
  rw [if_neg hw]
theorem s_Af_lay38 {X : Nat × (Nat → Int32)} {tx : List Int32} {D : Nat} {m j : Nat → Nat → Nat} {w : (Nat × Nat) × Bool} {s : Nat → Nat} (hF : c_F m 4 s) (hA : c_A m 38 s) (hS : i_S s) (hI : i_D s) (hD : 4 ≤ D) {q e t : Nat} (hq : q < s 1) (he : e < s 3) (ht : t < s 2) (hw : w_whyPut s q e t = 0) :
    ∃ m2, a_ex X tx a_T D 72 [.ref 38, .int (nI q), .int (nI e), .int (nI t)] (b_h m j w) = some (b_h m2 j w, some (.int (nI 0))) ∧ z_fr 38 49 m m2 ∧ c_A m2 38 (w_puts s q e t) := by
  have hE := i_S_E hS
  have hM := i_S_M hS
  have hT := i_S_T hS
  have hK := i_S_K hS
  have ne : s (241 + e) ≠ 4294967295 := (w_whyPut0 hw).2.2.2
  refine ⟨b_r (b_r (b_r (b_r (b_r (b_r m 42 (w_lyA (m 42) s e t (s 0))) 49 (w_lyB (m 49) s e t (s 0))) 43 (b_s (m 43) e 4294967295)) 45 (b_s (m 45) e t)) 46 (b_s (m 46) e (s 157))) 41 (b_s (m 41) q (m 41 q + 1)), ?_, ?_, ?_⟩
  · obtain ⟨d, rfl⟩ : ∃ d, D = d + 1 := ⟨D - 1, by omega⟩
    rw [e_Af_lay, q_Af_lay_0]
    have g1 := c_F4_K hF
    have g2 := c_A38_da hA
    have s1 := s_Af_whyNotPut38 (X := X) (tx := tx) (D := d) (j := j) (w := w) hF hA hS hI (by omega) (q := q) (e := e) (t := t) (by omega) (by omega) (by omega)
    rw [if_pos ⟨hq, he, ht⟩, hw] at s1
    rw [bc_38, s1, z_b1, if_pos (show nI 0 = (0 : Int32) by decide +kernel), ← l_Af_lay_12]
    refine z_run (Q := fun r => r = some (b_h (b_r (b_r (b_r (b_r (b_r (b_r m 42 (w_lyA (m 42) s e t (s 0))) 49 (w_lyB (m 49) s e t (s 0))) 43 (b_s (m 43) e 4294967295)) 45 (b_s (m 45) e t)) 46 (b_s (m 46) e (s 157))) 41 (b_s (m 41) q (m 41 q + 1))) j w, some (.int (nI 0)))) (fun k L h => ∃ n u, k + n = s 0 ∧ L = [.ref 38, .int (nI q), .int (nI e), .int (nI t), .int (nI 0), .int (nI n), u] ∧ h = b_h (b_r (b_r m 42 (w_lyA (m 42) s e t n)) 49 (w_lyB (m 49) s e t n)) j w) 0 ?_ (s 0) _ _ ⟨0, _, by omega, rfl, ?_⟩ _ (z_fu (by omega))
    · rintro k L h ⟨n, u, hk, rfl, rfl⟩ f _
      rw [l_Af_lay_12, q_Af_lay_12]
      by_cases hn : n = s 0
      · left
        subst hn
        simp (disch := omega) only [g1, g2, ↓bc_38, ↓br_38_0, ↓bc_4, ↓br_38_12, ↓bc_49, ↓bx_49, bl_49, ↓br_38_6, ↓bc_43, ↓bx_43, bl_43, ↓br_38_8, ↓bc_45, ↓bx_45, bl_45, ↓br_38_9, ↓bc_46, ↓bx_46, bl_46, ↓br_38_4, ↓bc_41, ↓bx_41, bl_41, ↓b_t0, ↓b_t1, ↓b_t2, ↓b_t3, ↓b_t4, ↓b_t5, ↓b_t6, Nat.zero_add, Nat.le_refl, b_rs, b_rn, b_r2, b_ss, b_sn, b_bt, b_bf, b_b0, b_b1, b_bw, b_shl, b_or, b_iv, b_jv, b_sI, b_sJ, ↓z_hl, z_b0, z_b1, z_b2, b_and1c, b_and1z, if_true, if_false, nI_add, pk_mul, b_cl, b_lt, b_le, b_eq, b_eq0, b_le0, b_0lt, b_0le, b_lt0]
      · right
        refine ⟨k - 1, [.ref 38, .int (nI q), .int (nI e), .int (nI t), .int (nI 0), .int (nI (n + 1)), .int (nI (min (s (87 + 6 * e + n)) (s (177 + 6 * t + n))))], _, by omega, ⟨n + 1, _, by omega, rfl, rfl⟩, ?_⟩
        have b1 := i_S_cl hS e (by omega) n (by omega)
        have b2 := i_D_op hI t (by omega) n (by omega)
        have b3 : min (s (87 + 6 * e + n)) (s (177 + 6 * t + n)) ≤ s (177 + 6 * t + n) := Nat.min_le_right _ _
        have e1 : w_lyA (m 42) s e t n (t * 6 + n) = s (177 + 6 * t + n) := by unfold w_lyA; rw [b_rgo (by omega)]; exact c_A38_op hA t (by omega) n (by omega)
        simp (disch := omega) only [g1, s_Fa_closedm38 hF hS, s_Af_amountm38, s_Af_setAmount38, e1, b_min, b_sub, w_lyB1, w_lyA1, b_rx (c2 := 42) (c := 49) (by decide), ↓bc_38, ↓br_38_0, ↓bc_4, ↓br_38_12, ↓bc_49, ↓bx_49, bl_49, ↓br_38_6, ↓bc_43, ↓bx_43, bl_43, ↓br_38_8, ↓bc_45, ↓bx_45, bl_45, ↓br_38_9, ↓bc_46, ↓bx_46, bl_46, ↓br_38_4, ↓bc_41, ↓bx_41, bl_41, ↓b_t0, ↓b_t1, ↓b_t2, ↓b_t3, ↓b_t4, ↓b_t5, ↓b_t6, Nat.zero_add, Nat.le_refl, b_rs, b_rn, b_r2, b_ss, b_sn, b_bt, b_bf, b_b0, b_b1, b_bw, b_shl, b_or, b_iv, b_jv, b_sI, b_sJ, ↓z_hl, z_b0, z_b1, z_b2, b_and1c, b_and1z, if_true, if_false, nI_add, pk_mul, b_cl, b_lt, b_le, b_eq, b_eq0, b_le0, b_0lt, b_0le, b_lt0]
        rw [if_neg (by omega)]
    · rw [w_ly0.1, w_ly0.2, b_ri rfl, b_ri rfl]
  · exact z_fr_r (z_fr_r (z_fr_r (z_fr_r (z_fr_r (z_fr_r z_fr_rf (by decide)) (by decide)) (by decide)) (by decide)) (by decide)) (by decide)
  · unfold c_A
    simp (disch := omega) only [b_rs, b_rn]
    have u : ∀ i, (i < 171 ∨ (233 ≤ i ∧ i < 241) ∨ (251 ≤ i ∧ i < 261) ∨ (281 ≤ i ∧ i < 292) ∨ 352 ≤ i) → w_puts s q e t i = s i := fun i hi => w_puts_lo hi (by omega) (by omega) (by omega)
    obtain ⟨ue1, ue2, ue3⟩ := w_puts_e (s := s) (q := q) (e := e) (t := t) (by omega) (by omega) (by omega)
    have un : ∀ i, i < 10 → i ≠ e → w_puts s q e t (241 + i) = s (241 + i) ∧ w_puts s q e t (261 + i) = s (261 + i) ∧ w_puts s q e t (271 + i) = s (271 + i) := fun i hi hne => w_puts_n (by omega) (by omega) (by omega) hi hne
    rw [u 1 (by omega), u 3 (by omega), u 0 (by omega)]
    refine ⟨by rw [u _ (by omega)]; exact c_A38_da hA, ?_, ?_, ?_, ?_, ?_, ?_, ?_, ?_, ?_, ?_, ?_⟩
    · intro i hi; rw [u _ (by omega)]; exact c_A38_co hA i hi
    · intro i hi; rw [u _ (by omega)]; exact c_A38_bo hA i hi
    · intro i hi
      by_cases c1 : i = q
      · subst c1; rw [b_ss, w_puts_qq, show m 41 i = s (171 + i) from c_A38_pp hA i hi]
      · rw [b_sn c1, w_puts_qn (by omega) (by omega) (by omega) c1]; exact c_A38_pp hA i hi
    · intro v hv k hk
      unfold w_lyA
      by_cases c1 : v = t
      · subst c1
        rw [w_puts_op (by omega) (by omega) (by omega) hk]
        by_cases c2 : k < s 0
        · rw [b_rgk c2, Nat.min_comm]
        · rw [b_rgo (by omega), show m 42 (v * 6 + k) = s (177 + 6 * v + k) from c_A38_op hA v hv k hk, i_D_opk hI v hv k (by omega) hk]
          omega
      · rw [w_puts_on (by omega) (by omega) (by omega) hv hk c1, b_rgo (by omega)]
        exact c_A38_op hA v hv k hk
    · intro i hi
      by_cases c1 : i = e
      · subst c1; rw [b_ss, ue1]
      · rw [b_sn c1, (un i (by omega) c1).1]; exact c_A38_ha hA i hi
    · intro i hi; rw [u _ (by omega)]; exact c_A38_pr hA i hi
    · intro i hi
      by_cases c1 : i = e
      · subst c1; rw [b_ss, ue1, ue2, if_pos rfl]; rfl
      · rw [b_sn c1, (un i (by omega) c1).1, (un i (by omega) c1).2.1]; exact c_A38_pl hA i hi
    · intro i hi
      by_cases c1 : i = e
      · subst c1; rw [b_ss, ue1, ue3, if_pos rfl]
      · rw [b_sn c1, (un i (by omega) c1).1, (un i (by omega) c1).2.2]; exact c_A38_pd hA i hi
    · intro i hi; rw [u _ (by omega)]; exact c_A38_we hA i hi
    · intro i hi; rw [u _ (by omega)]; exact c_A38_so hA i hi
    · intro i hi hp k hk
      unfold w_lyB
      by_cases c1 : i = e
      · subst c1
        rw [w_puts_sh (by omega) (by omega) (by omega) (by omega), b_rgk hk, Nat.min_comm]
      · rw [(un i (by omega) c1).1] at hp
        rw [w_puts_sn (by omega) (by omega) (by omega) (by omega) (by omega) c1, b_rgo (by omega)]
        exact c_A38_sh hA i hi hp k hk
