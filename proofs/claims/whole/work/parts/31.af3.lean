/-! THE CLASS: deeds -/
def z_fr (lo hi : Nat) (m m2 : Nat → Nat → Nat) : Prop := ∀ c, c < lo ∨ hi < c → m2 c = m c
theorem z_fr_rf {lo hi : Nat} {m : Nat → Nat → Nat} : z_fr lo hi m m := fun _ _ => rfl
theorem z_fr_tr {lo hi : Nat} {m m2 m3 : Nat → Nat → Nat} (h1 : z_fr lo hi m m2) (h2 : z_fr lo hi m2 m3) : z_fr lo hi m m3 := fun c hc => (h2 c hc).trans (h1 c hc)
theorem z_fr_r {lo hi c : Nat} {m m2 : Nat → Nat → Nat} {f : Nat → Nat} (h1 : z_fr lo hi m m2) (hc : lo ≤ c ∧ c ≤ hi) : z_fr lo hi m (b_r m2 c f) := fun c2 hc2 => by
  rw [b_rn (by omega)]
  exact h1 c2 hc2
theorem c_F_ext {m m2 : Nat → Nat → Nat} {f : Nat} {s r : Nat → Nat} (hm : ∀ c, f ≤ c → c ≤ f + 10 → m2 c = m c) (hs : ∀ i, i < 157 → r i = s i) (hS : i_S s) (h : c_F m f s) : c_F m2 f r := by
  have hM := i_S_M hS
  have hT := i_S_T hS
  have hE := i_S_E hS
  unfold c_F at h ⊢
  rw [hm f (by omega) (by omega), hm (f + 4) (by omega) (by omega), hm (f + 5) (by omega) (by omega), hm (f + 6) (by omega) (by omega), hm (f + 7) (by omega) (by omega), hm (f + 8) (by omega) (by omega), hm (f + 9) (by omega) (by omega), hm (f + 10) (by omega) (by omega), hs 0 (by omega), hs 1 (by omega), hs 2 (by omega), hs 3 (by omega), hs 4 (by omega)]
  obtain ⟨h1, h2, h3, h4, h5, h6, h7, h8, h9, h10, h11, h12⟩ := h
  refine ⟨h1, h2, h3, h4, h5, ?_, ?_, ?_, ?_, ?_, ?_, ?_⟩
  · intro i hi; rw [h6 i hi, hs _ (by omega)]
  · intro t ht; rw [h7 t ht, hs _ (by omega)]
  · intro t ht k hk; rw [h8 t ht k hk, hs _ (by omega)]
  · intro e he; rw [h9 e he, hs _ (by omega)]
  · intro e he; rw [h10 e he, hs _ (by omega)]
  · intro e he k hk; rw [h11 e he k hk, hs _ (by omega)]
  · intro e he; rw [h12 e he, hs _ (by omega)]
/-- the facts, behind a deed of the affairs -/
theorem c_F_fr {m m2 : Nat → Nat → Nat} {a : Nat} {s r : Nat → Nat} (ha : a = 26 ∨ a = 38) (hm : z_fr a (a + 11) m m2) (hs : ∀ i, i < 157 → r i = s i) (hS : i_S s) (h : c_F m 4 s) : c_F m2 4 r := c_F_ext (fun c h1 h2 => hm c (by omega)) hs hS h
section WB
variable {s : Nat → Nat} {q e : Nat}
theorem w_buys_cq (h2 : s (241 + e) ≠ q) (hh : s (241 + e) < 6) (hq : q < 6) (he : e < 10) : w_buys s q e (159 + q) = s (159 + q) - s (251 + e) := by
  unfold w_buys
  simp (disch := omega) only [b_sn, b_ss]
theorem w_buys_ch (h2 : s (241 + e) ≠ q) (hh : s (241 + e) < 6) (hq : q < 6) (he : e < 10) : w_buys s q e (159 + s (241 + e)) = s (159 + s (241 + e)) + s (251 + e) := by
  unfold w_buys
  simp (disch := omega) only [b_sn, b_ss]
theorem w_buys_cn {i : Nat} (hi : i < 6) (n1 : i ≠ q) (n2 : i ≠ s (241 + e)) (hh : s (241 + e) < 6) (hq : q < 6) (he : e < 10) : w_buys s q e (159 + i) = s (159 + i) := by
  unfold w_buys
  simp (disch := omega) only [b_sn]
theorem w_buys_bo : w_buys s q e (165 + q) = s (165 + q) + 1 := by
  unfold w_buys
  simp (disch := omega) only [b_ss]
theorem w_buys_bn {i : Nat} (hi : i < 6) (n1 : i ≠ q) (hh : s (241 + e) < 6) (hq : q < 6) (he : e < 10) : w_buys s q e (165 + i) = s (165 + i) := by
  unfold w_buys
  simp (disch := omega) only [b_sn]
theorem w_buys_so (hh : s (241 + e) < 6) (hq : q < 6) (he : e < 10) : w_buys s q e (282 + e) = s (282 + e) + 1 := by
  unfold w_buys
  simp (disch := omega) only [b_sn, b_ss]
theorem w_buys_sn {i : Nat} (hi : i < 10) (n1 : i ≠ e) (hh : s (241 + e) < 6) (hq : q < 6) (he : e < 10) : w_buys s q e (282 + i) = s (282 + i) := by
  unfold w_buys
  simp (disch := omega) only [b_sn]
end WB
theorem s_Af_setAmount26 {X : Nat × (Nat → Int32)} {tx : List Int32} {D : Nat} {m j : Nat → Nat → Nat} {w : (Nat × Nat) × Bool} (hD : 1 ≤ D) {t k x : Nat} (ht : t < 8) (hk : k < 6) : a_ex X tx a_T D 50 [.ref 26, .int (nI t), .int (nI k), .int (nI x)] (b_h m j w) = some ((b_h (b_r m 30 (b_s (m 30) (t * 6 + k) x)) j w), none) := by
  obtain ⟨d, rfl⟩ : ∃ d, D = d + 1 := ⟨D - 1, by omega⟩
  rw [e_Af_setAmount, q_Af_setAmount_0]
  simp (disch := omega) only [↓bc_26, ↓br_26_5, ↓bc_30, ↓bx_30, bl_30, ↓b_t0, ↓b_t1, ↓b_t2, ↓b_t3, ↓b_t4, ↓b_t5, ↓b_t6, Nat.zero_add, Nat.le_refl, b_rs, b_rn, b_r2, b_ss, b_sn, b_bt, b_bf, b_b0, b_b1, b_bw, b_shl, b_or, b_iv, b_jv, b_sI, b_sJ, ↓z_hl, z_b0, z_b1, z_b2, b_and1c, b_and1z, if_true, if_false, nI_add, pk_mul, b_cl, b_lt, b_le, b_eq, b_eq0, b_le0, b_0lt, b_0le, b_lt0]
  rw [if_neg (by omega), if_neg (by omega)]
theorem s_Af_sellN26 {X : Nat × (Nat → Int32)} {tx : List Int32} {D : Nat} {m j : Nat → Nat → Nat} {w : (Nat × Nat) × Bool} {s : Nat → Nat} (hF : c_F m 4 s) (hA : c_A m 26 s) (hS : i_S s) (hI : i_D s) (hD : 3 ≤ D) {q e : Nat} (hq : q < s 1) (he : e < s 3) (hw : w_whyBuy s q e ≠ 0) : a_ex X tx a_T D 70 [.ref 26, .int (nI q), .int (nI e)] (b_h m j w) = some ((b_h m j w), some (.int (nI (w_whyBuy s q e)))) := by
  have hE := i_S_E hS
  have hM := i_S_M hS
  have hw2 : w_whyBuy s q e < 4294967296 := by
    unfold w_whyBuy; split; · decide
    split; · decide
    split <;> decide
  obtain ⟨d, rfl⟩ : ∃ d, D = d + 1 := ⟨D - 1, by omega⟩
  rw [e_Af_sell, q_Af_sell_0]
  have s1 := s_Af_whyNotBuy26 (X := X) (tx := tx) (D := d) (j := j) (w := w) hF hA hS hI (by omega) (q := q) (e := e) (by omega) (by omega)
  rw [if_pos ⟨hq, he⟩] at s1
  simp (disch := omega) only [s1, ↓bc_26, ↓br_26_6, ↓bc_31, ↓bx_31, bl_31, ↓br_26_0, ↓bc_4, ↓br_26_2, ↓bc_27, ↓bx_27, bl_27, ↓br_26_7, ↓bc_32, ↓bx_32, bl_32, ↓br_26_3, ↓bc_28, ↓bx_28, bl_28, ↓br_26_11, ↓bc_36, ↓bx_36, bl_36, ↓b_t0, ↓b_t1, ↓b_t2, ↓b_t3, ↓b_t4, ↓b_t5, ↓b_t6, Nat.zero_add, Nat.le_refl, b_rs, b_rn, b_r2, b_ss, b_sn, b_bt, b_bf, b_b0, b_b1, b_bw, b_shl, b_or, b_iv, b_jv, b_sI, b_sJ, ↓z_hl, z_b0, z_b1, z_b2, b_and1c, b_and1z, if_true, if_false, nI_add, pk_mul, b_cl, b_lt, b_le, b_eq, b_eq0, b_le0, b_0lt, b_0le, b_lt0]
  rw [if_neg hw]
theorem s_Af_sell26 {X : Nat × (Nat → Int32)} {tx : List Int32} {D : Nat} {m j : Nat → Nat → Nat} {w : (Nat × Nat) × Bool} {s : Nat → Nat} (hF : c_F m 4 s) (hA : c_A m 26 s) (hS : i_S s) (hI : i_D s) (hD : 3 ≤ D) {q e : Nat} (hq : q < s 1) (he : e < s 3) (hw : w_whyBuy s q e = 0) :
    ∃ m2, a_ex X tx a_T D 70 [.ref 26, .int (nI q), .int (nI e)] (b_h m j w) = some (b_h m2 j w, some (.int (nI 0))) ∧ z_fr 26 37 m m2 ∧ c_A m2 26 (w_buys s q e) := by
  have hE := i_S_E hS
  have hM := i_S_M hS
  obtain ⟨h1, h2, h3⟩ := w_whyBuy0 hI hq he hw
  refine ⟨b_r (b_r (b_r (b_r m 27 (b_s (b_s (m 27) (s (241 + e)) (s (159 + s (241 + e)) + s (251 + e))) q (s (159 + q) - s (251 + e)))) 31 (b_s (m 31) e q)) 28 (b_s (m 28) q (m 28 q + 1))) 36 (b_s (m 36) e (m 36 e + 1)), ?_, ?_, ?_⟩
  · obtain ⟨d, rfl⟩ : ∃ d, D = d + 1 := ⟨D - 1, by omega⟩
    rw [e_Af_sell, q_Af_sell_0]
    have g1 := c_A26_ha hA e he
    have g2 := c_A26_co hA q hq
    have g3 := c_A26_co hA (s (241 + e)) h1
    have g4 := c_A26_pr hA e he
    have g5 := i_coin hI (i := q) (by omega)
    have s1 := s_Af_whyNotBuy26 (X := X) (tx := tx) (D := d) (j := j) (w := w) hF hA hS hI (by omega) (q := q) (e := e) (by omega) (by omega)
    rw [if_pos ⟨hq, he⟩, hw] at s1
    rw [bc_26, s1, z_b1, if_pos (show nI 0 = (0 : Int32) by decide +kernel)]
    simp (disch := omega) only [g1, g2, g3, g4, s_Fa_isMan hF hS, decide_eq_false_iff_not, b_sub, ↓bc_26, ↓br_26_6, ↓bc_31, ↓bx_31, bl_31, ↓br_26_0, ↓bc_4, ↓br_26_2, ↓bc_27, ↓bx_27, bl_27, ↓br_26_7, ↓bc_32, ↓bx_32, bl_32, ↓br_26_3, ↓bc_28, ↓bx_28, bl_28, ↓br_26_11, ↓bc_36, ↓bx_36, bl_36, ↓b_t0, ↓b_t1, ↓b_t2, ↓b_t3, ↓b_t4, ↓b_t5, ↓b_t6, Nat.zero_add, Nat.le_refl, b_rs, b_rn, b_r2, b_ss, b_sn, b_bt, b_bf, b_b0, b_b1, b_bw, b_shl, b_or, b_iv, b_jv, b_sI, b_sJ, ↓z_hl, z_b0, z_b1, z_b2, b_and1c, b_and1z, if_true, if_false, nI_add, pk_mul, b_cl, b_lt, b_le, b_eq, b_eq0, b_le0, b_0lt, b_0le, b_lt0]
    rw [if_neg (fun h => h h1), q_Af_sell_30]
    simp (disch := omega) only [g1, g2, g3, g4, b_sub, ↓bc_26, ↓br_26_6, ↓bc_31, ↓bx_31, bl_31, ↓br_26_0, ↓bc_4, ↓br_26_2, ↓bc_27, ↓bx_27, bl_27, ↓br_26_7, ↓bc_32, ↓bx_32, bl_32, ↓br_26_3, ↓bc_28, ↓bx_28, bl_28, ↓br_26_11, ↓bc_36, ↓bx_36, bl_36, ↓b_t0, ↓b_t1, ↓b_t2, ↓b_t3, ↓b_t4, ↓b_t5, ↓b_t6, Nat.zero_add, Nat.le_refl, b_rs, b_rn, b_r2, b_ss, b_sn, b_bt, b_bf, b_b0, b_b1, b_bw, b_shl, b_or, b_iv, b_jv, b_sI, b_sJ, ↓z_hl, z_b0, z_b1, z_b2, b_and1c, b_and1z, if_true, if_false, nI_add, pk_mul, b_cl, b_lt, b_le, b_eq, b_eq0, b_le0, b_0lt, b_0le, b_lt0]
  · exact z_fr_r (z_fr_r (z_fr_r (z_fr_r z_fr_rf (by decide)) (by decide)) (by decide)) (by decide)
  · unfold c_A
    simp (disch := omega) only [b_rs, b_rn]
    have u : ∀ i, (i < 159 ∨ (171 ≤ i ∧ i < 241) ∨ (251 ≤ i ∧ i < 282) ∨ 292 ≤ i) → w_buys s q e i = s i := fun i hi => w_buys_lo hi (by omega) (by omega) (by omega)
    rw [u 1 (by omega), u 3 (by omega), u 0 (by omega)]
    refine ⟨by rw [u _ (by omega)]; exact c_A26_da hA, ?_, ?_, ?_, ?_, ?_, ?_, ?_, ?_, ?_, ?_, ?_⟩
    · intro i hi
      by_cases c1 : i = q
      · subst c1; rw [b_ss, w_buys_cq h2 (by omega) (by omega) (by omega)]
      · rw [b_sn c1]
        by_cases c2 : i = s (241 + e)
        · subst c2; rw [b_ss, w_buys_ch h2 (by omega) (by omega) (by omega)]
        · rw [b_sn c2, w_buys_cn (by omega) c1 c2 (by omega) (by omega) (by omega)]; exact c_A26_co hA i hi
    · intro i hi
      by_cases c1 : i = q
      · subst c1; rw [b_ss, w_buys_bo, show m 28 i = s (165 + i) from c_A26_bo hA i hi]
      · rw [b_sn c1, w_buys_bn (by omega) c1 (by omega) (by omega) (by omega)]; exact c_A26_bo hA i hi
    · intro i hi; rw [u _ (by omega)]; exact c_A26_pp hA i hi
    · intro t ht k hk; rw [u _ (by omega)]; exact c_A26_op hA t ht k hk
    · intro i hi
      by_cases c1 : i = e
      · subst c1; rw [b_ss, w_buys_ha (by omega) (by omega)]
      · rw [b_sn c1, w_buys_hn (by omega) (by omega) (by omega) (by omega) c1]; exact c_A26_ha hA i hi
    · intro i hi; rw [u _ (by omega)]; exact c_A26_pr hA i hi
    · intro i hi
      rw [u (261 + i) (by omega)]
      by_cases c1 : i = e
      · subst c1
        have := c_A26_pl hA i hi
        rw [if_neg (by omega)] at this
        rw [w_buys_ha (by omega) (by omega), if_neg (by omega)]
        exact this
      · rw [w_buys_hn (by omega) (by omega) (by omega) (by omega) c1]; exact c_A26_pl hA i hi
    · intro i hi
      rw [u (271 + i) (by omega)]
      by_cases c1 : i = e
      · subst c1
        have := c_A26_pd hA i hi
        rw [if_neg (by omega)] at this
        rw [w_buys_ha (by omega) (by omega), if_neg (by omega)]
        exact this
      · rw [w_buys_hn (by omega) (by omega) (by omega) (by omega) c1]; exact c_A26_pd hA i hi
    · intro i hi; rw [u _ (by omega)]; exact c_A26_we hA i hi
    · intro i hi
      by_cases c1 : i = e
      · subst c1; rw [b_ss, w_buys_so (by omega) (by omega) (by omega), show m 36 i = s (282 + i) from c_A26_so hA i hi]
      · rw [b_sn c1, w_buys_sn (by omega) c1 (by omega) (by omega) (by omega)]; exact c_A26_so hA i hi
    · intro i hi hp k hk
      by_cases c1 : i = e
      · subst c1; rw [w_buys_ha (by omega) (by omega)] at hp; omega
      · rw [w_buys_hn (by omega) (by omega) (by omega) (by omega) c1] at hp
        have := i_S_K hS
        rw [u _ (by omega)]; exact c_A26_sh hA i hi hp k hk
theorem s_Af_setAmount38 {X : Nat × (Nat → Int32)} {tx : List Int32} {D : Nat} {m j : Nat → Nat → Nat} {w : (Nat × Nat) × Bool} (hD : 1 ≤ D) {t k x : Nat} (ht : t < 8) (hk : k < 6) : a_ex X tx a_T D 50 [.ref 38, .int (nI t), .int (nI k), .int (nI x)] (b_h m j w) = some ((b_h (b_r m 42 (b_s (m 42) (t * 6 + k) x)) j w), none) := by
  obtain ⟨d, rfl⟩ : ∃ d, D = d + 1 := ⟨D - 1, by omega⟩
  rw [e_Af_setAmount, q_Af_setAmount_0]
  simp (disch := omega) only [↓bc_38, ↓br_38_5, ↓bc_42, ↓bx_42, bl_42, ↓b_t0, ↓b_t1, ↓b_t2, ↓b_t3, ↓b_t4, ↓b_t5, ↓b_t6, Nat.zero_add, Nat.le_refl, b_rs, b_rn, b_r2, b_ss, b_sn, b_bt, b_bf, b_b0, b_b1, b_bw, b_shl, b_or, b_iv, b_jv, b_sI, b_sJ, ↓z_hl, z_b0, z_b1, z_b2, b_and1c, b_and1z, if_true, if_false, nI_add, pk_mul, b_cl, b_lt, b_le, b_eq, b_eq0, b_le0, b_0lt, b_0le, b_lt0]
  rw [if_neg (by omega), if_neg (by omega)]
theorem s_Af_sellN38 {X : Nat × (Nat → Int32)} {tx : List Int32} {D : Nat} {m j : Nat → Nat → Nat} {w : (Nat × Nat) × Bool} {s : Nat → Nat} (hF : c_F m 4 s) (hA : c_A m 38 s) (hS : i_S s) (hI : i_D s) (hD : 3 ≤ D) {q e : Nat} (hq : q < s 1) (he : e < s 3) (hw : w_whyBuy s q e ≠ 0) : a_ex X tx a_T D 70 [.ref 38, .int (nI q), .int (nI e)] (b_h m j w) = some ((b_h m j w), some (.int (nI (w_whyBuy s q e)))) := by
  have hE := i_S_E hS
  have hM := i_S_M hS
  have hw2 : w_whyBuy s q e < 4294967296 := by
    unfold w_whyBuy; split; · decide
    split; · decide
    split <;> decide
  obtain ⟨d, rfl⟩ : ∃ d, D = d + 1 := ⟨D - 1, by omega⟩
  rw [e_Af_sell, q_Af_sell_0]
  have s1 := s_Af_whyNotBuy38 (X := X) (tx := tx) (D := d) (j := j) (w := w) hF hA hS hI (by omega) (q := q) (e := e) (by omega) (by omega)
  rw [if_pos ⟨hq, he⟩] at s1
  simp (disch := omega) only [s1, ↓bc_38, ↓br_38_6, ↓bc_43, ↓bx_43, bl_43, ↓br_38_0, ↓bc_4, ↓br_38_2, ↓bc_39, ↓bx_39, bl_39, ↓br_38_7, ↓bc_44, ↓bx_44, bl_44, ↓br_38_3, ↓bc_40, ↓bx_40, bl_40, ↓br_38_11, ↓bc_48, ↓bx_48, bl_48, ↓b_t0, ↓b_t1, ↓b_t2, ↓b_t3, ↓b_t4, ↓b_t5, ↓b_t6, Nat.zero_add, Nat.le_refl, b_rs, b_rn, b_r2, b_ss, b_sn, b_bt, b_bf, b_b0, b_b1, b_bw, b_shl, b_or, b_iv, b_jv, b_sI, b_sJ, ↓z_hl, z_b0, z_b1, z_b2, b_and1c, b_and1z, if_true, if_false, nI_add, pk_mul, b_cl, b_lt, b_le, b_eq, b_eq0, b_le0, b_0lt, b_0le, b_lt0]
  rw [if_neg hw]
theorem s_Af_sell38 {X : Nat × (Nat → Int32)} {tx : List Int32} {D : Nat} {m j : Nat → Nat → Nat} {w : (Nat × Nat) × Bool} {s : Nat → Nat} (hF : c_F m 4 s) (hA : c_A m 38 s) (hS : i_S s) (hI : i_D s) (hD : 3 ≤ D) {q e : Nat} (hq : q < s 1) (he : e < s 3) (hw : w_whyBuy s q e = 0) :
    ∃ m2, a_ex X tx a_T D 70 [.ref 38, .int (nI q), .int (nI e)] (b_h m j w) = some (b_h m2 j w, some (.int (nI 0))) ∧ z_fr 38 49 m m2 ∧ c_A m2 38 (w_buys s q e) := by
  have hE := i_S_E hS
  have hM := i_S_M hS
  obtain ⟨h1, h2, h3⟩ := w_whyBuy0 hI hq he hw
  refine ⟨b_r (b_r (b_r (b_r m 39 (b_s (b_s (m 39) (s (241 + e)) (s (159 + s (241 + e)) + s (251 + e))) q (s (159 + q) - s (251 + e)))) 43 (b_s (m 43) e q)) 40 (b_s (m 40) q (m 40 q + 1))) 48 (b_s (m 48) e (m 48 e + 1)), ?_, ?_, ?_⟩
  · obtain ⟨d, rfl⟩ : ∃ d, D = d + 1 := ⟨D - 1, by omega⟩
    rw [e_Af_sell, q_Af_sell_0]
    have g1 := c_A38_ha hA e he
    have g2 := c_A38_co hA q hq
    have g3 := c_A38_co hA (s (241 + e)) h1
    have g4 := c_A38_pr hA e he
    have g5 := i_coin hI (i := q) (by omega)
    have s1 := s_Af_whyNotBuy38 (X := X) (tx := tx) (D := d) (j := j) (w := w) hF hA hS hI (by omega) (q := q) (e := e) (by omega) (by omega)
    rw [if_pos ⟨hq, he⟩, hw] at s1
    rw [bc_38, s1, z_b1, if_pos (show nI 0 = (0 : Int32) by decide +kernel)]
    simp (disch := omega) only [g1, g2, g3, g4, s_Fa_isMan hF hS, decide_eq_false_iff_not, b_sub, ↓bc_38, ↓br_38_6, ↓bc_43, ↓bx_43, bl_43, ↓br_38_0, ↓bc_4, ↓br_38_2, ↓bc_39, ↓bx_39, bl_39, ↓br_38_7, ↓bc_44, ↓bx_44, bl_44, ↓br_38_3, ↓bc_40, ↓bx_40, bl_40, ↓br_38_11, ↓bc_48, ↓bx_48, bl_48, ↓b_t0, ↓b_t1, ↓b_t2, ↓b_t3, ↓b_t4, ↓b_t5, ↓b_t6, Nat.zero_add, Nat.le_refl, b_rs, b_rn, b_r2, b_ss, b_sn, b_bt, b_bf, b_b0, b_b1, b_bw, b_shl, b_or, b_iv, b_jv, b_sI, b_sJ, ↓z_hl, z_b0, z_b1, z_b2, b_and1c, b_and1z, if_true, if_false, nI_add, pk_mul, b_cl, b_lt, b_le, b_eq, b_eq0, b_le0, b_0lt, b_0le, b_lt0]
    rw [if_neg (fun h => h h1), q_Af_sell_30]
    simp (disch := omega) only [g1, g2, g3, g4, b_sub, ↓bc_38, ↓br_38_6, ↓bc_43, ↓bx_43, bl_43, ↓br_38_0, ↓bc_4, ↓br_38_2, ↓bc_39, ↓bx_39, bl_39, ↓br_38_7, ↓bc_44, ↓bx_44, bl_44, ↓br_38_3, ↓bc_40, ↓bx_40, bl_40, ↓br_38_11, ↓bc_48, ↓bx_48, bl_48, ↓b_t0, ↓b_t1, ↓b_t2, ↓b_t3, ↓b_t4, ↓b_t5, ↓b_t6, Nat.zero_add, Nat.le_refl, b_rs, b_rn, b_r2, b_ss, b_sn, b_bt, b_bf, b_b0, b_b1, b_bw, b_shl, b_or, b_iv, b_jv, b_sI, b_sJ, ↓z_hl, z_b0, z_b1, z_b2, b_and1c, b_and1z, if_true, if_false, nI_add, pk_mul, b_cl, b_lt, b_le, b_eq, b_eq0, b_le0, b_0lt, b_0le, b_lt0]
  · exact z_fr_r (z_fr_r (z_fr_r (z_fr_r z_fr_rf (by decide)) (by decide)) (by decide)) (by decide)
  · unfold c_A
    simp (disch := omega) only [b_rs, b_rn]
    have u : ∀ i, (i < 159 ∨ (171 ≤ i ∧ i < 241) ∨ (251 ≤ i ∧ i < 282) ∨ 292 ≤ i) → w_buys s q e i = s i := fun i hi => w_buys_lo hi (by omega) (by omega) (by omega)
    rw [u 1 (by omega), u 3 (by omega), u 0 (by omega)]
    refine ⟨by rw [u _ (by omega)]; exact c_A38_da hA, ?_, ?_, ?_, ?_, ?_, ?_, ?_, ?_, ?_, ?_, ?_⟩
    · intro i hi
      by_cases c1 : i = q
      · subst c1; rw [b_ss, w_buys_cq h2 (by omega) (by omega) (by omega)]
      · rw [b_sn c1]
        by_cases c2 : i = s (241 + e)
        · subst c2; rw [b_ss, w_buys_ch h2 (by omega) (by omega) (by omega)]
        · rw [b_sn c2, w_buys_cn (by omega) c1 c2 (by omega) (by omega) (by omega)]; exact c_A38_co hA i hi
    · intro i hi
      by_cases c1 : i = q
      · subst c1; rw [b_ss, w_buys_bo, show m 40 i = s (165 + i) from c_A38_bo hA i hi]
      · rw [b_sn c1, w_buys_bn (by omega) c1 (by omega) (by omega) (by omega)]; exact c_A38_bo hA i hi
    · intro i hi; rw [u _ (by omega)]; exact c_A38_pp hA i hi
    · intro t ht k hk; rw [u _ (by omega)]; exact c_A38_op hA t ht k hk
    · intro i hi
      by_cases c1 : i = e
      · subst c1; rw [b_ss, w_buys_ha (by omega) (by omega)]
      · rw [b_sn c1, w_buys_hn (by omega) (by omega) (by omega) (by omega) c1]; exact c_A38_ha hA i hi
    · intro i hi; rw [u _ (by omega)]; exact c_A38_pr hA i hi
    · intro i hi
      rw [u (261 + i) (by omega)]
      by_cases c1 : i = e
      · subst c1
        have := c_A38_pl hA i hi
        rw [if_neg (by omega)] at this
        rw [w_buys_ha (by omega) (by omega), if_neg (by omega)]
        exact this
      · rw [w_buys_hn (by omega) (by omega) (by omega) (by omega) c1]; exact c_A38_pl hA i hi
    · intro i hi
      rw [u (271 + i) (by omega)]
      by_cases c1 : i = e
      · subst c1
        have := c_A38_pd hA i hi
        rw [if_neg (by omega)] at this
        rw [w_buys_ha (by omega) (by omega), if_neg (by omega)]
        exact this
      · rw [w_buys_hn (by omega) (by omega) (by omega) (by omega) c1]; exact c_A38_pd hA i hi
    · intro i hi; rw [u _ (by omega)]; exact c_A38_we hA i hi
    · intro i hi
      by_cases c1 : i = e
      · subst c1; rw [b_ss, w_buys_so (by omega) (by omega) (by omega), show m 48 i = s (282 + i) from c_A38_so hA i hi]
      · rw [b_sn c1, w_buys_sn (by omega) c1 (by omega) (by omega) (by omega)]; exact c_A38_so hA i hi
    · intro i hi hp k hk
      by_cases c1 : i = e
      · subst c1; rw [w_buys_ha (by omega) (by omega)] at hp; omega
      · rw [w_buys_hn (by omega) (by omega) (by omega) (by omega) c1] at hp
        have := i_S_K hS
        rw [u _ (by omega)]; exact c_A38_sh hA i hi hp k hk
