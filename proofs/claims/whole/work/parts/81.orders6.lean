/-! ORDERS: the row -/
def w_dif (A P : Nat) : Nat := A &&& (P ^^^ 4294967295)
theorem w_dif_bt {A P i : Nat} (hi : i < 32) : (w_dif A P).testBit i = (A.testBit i && !(P.testBit i)) := z_and_xor_bt hi
theorem w_dif_le {A P : Nat} : w_dif A P ≤ A := Nat.and_le_left
theorem w_dif_or {A P e : Nat} (hA : A < 1024) : w_dif A (P ||| 2 ^ e) = w_rm (w_dif A P) e := by
  refine z_ext10 (Nat.lt_of_le_of_lt w_dif_le hA) (Nat.lt_of_le_of_lt w_rm_le (Nat.lt_of_le_of_lt w_dif_le hA)) fun i hi => ?_
  rw [w_dif_bt (by omega), w_or_bt, w_rm_bt (by omega), w_dif_bt (by omega)]
  by_cases c : i = e
  · rw [c, decide_eq_true rfl, Bool.or_true, Bool.not_true, Bool.and_false, Bool.and_false]
  · rw [decide_eq_false c, decide_eq_false (fun g => c g.symm), Bool.or_false, Bool.not_false, Bool.and_true]
theorem w_dif_dj {A P : Nat} : w_dj P (w_dif A P) := fun i hi h => by rw [w_dif_bt (by omega), h, Bool.not_true, Bool.and_false]
theorem w_dif_0 {A : Nat} (hA : A < 1024) : w_dif A 0 = A := by
  refine z_ext10 (Nat.lt_of_le_of_lt w_dif_le hA) hA fun i hi => ?_
  rw [w_dif_bt (by omega), Nat.zero_testBit, Bool.not_false, Bool.and_true]
theorem w_dif_self {A : Nat} (hA : A < 1024) : w_dif A A = 0 := by
  refine z_ext10 (Nat.lt_of_le_of_lt w_dif_le hA) (by decide) fun i hi => ?_
  rw [w_dif_bt (by omega), Nat.zero_testBit]
  cases A.testBit i <;> rfl
/-- the next of the row -/
def w_can1 (fb : Nat → Nat → Bool) (A P e : Nat) : Bool := (w_dif A P).testBit e && w_cn (w_fp fb (P ||| 2 ^ e)) (w_rm (w_dif A P) e)
def w_nxe (fb : Nat → Nat → Bool) (A P : Nat) : Nat := z_fst (w_can1 fb A P) 10 0
def w_seq (fb : Nat → Nat → Bool) (A : Nat) : Nat → Nat × (Nat → Nat)
  | 0 => (0, fun _ => 0)
  | i + 1 => ((w_seq fb A i).1 ||| 2 ^ w_nxe fb A (w_seq fb A i).1, b_s (w_seq fb A i).2 i (w_nxe fb A (w_seq fb A i).1))
theorem w_nxe_spec {fb : Nat → Nat → Bool} {A P : Nat} (hA : A < 1024) (hP : P < 1024) (h0 : w_dif A P ≠ 0) (hc : w_cn (w_fp fb P) (w_dif A P) = true) : w_nxe fb A P < 10 ∧ w_can1 fb A P (w_nxe fb A P) = true ∧ ∀ e, e < w_nxe fb A P → w_can1 fb A P e = false := by
  obtain ⟨h1, h2, h3, h4⟩ := z_fst_spec (w_can1 fb A P) 10 0
  have hd : w_dif A P < 1024 := Nat.lt_of_le_of_lt w_dif_le hA
  obtain ⟨e, g1, g2, g3, g4⟩ := (w_cn_first hP 10 (w_dif A P) hd (w_pc_le _) h0).mp hc
  have g5 : w_can1 fb A P e = true := by
    unfold w_can1
    rw [g2, g4]
    rfl
  have g6 : w_nxe fb A P ≤ e := Nat.le_of_not_lt fun c => by
    have := h3 e (Nat.zero_le _) c
    rw [g5] at this
    exact absurd this (by decide)
  have g7 : w_nxe fb A P < 10 := by omega
  exact ⟨g7, h4 (by rw [Nat.zero_add]; exact g7), fun e he => h3 e (Nat.zero_le _) he⟩
theorem w_pc_dif {A P : Nat} (hA : A < 1024) (hP : P < 1024) (h : ∀ i, i < 10 → P.testBit i = true → A.testBit i = true) : w_pc (w_dif A P) + w_pc P = w_pc A := by
  unfold w_pc
  rw [← z_sum_add]
  refine z_sum_congr 10 fun i hi => ?_
  rw [w_dif_bt (by omega)]
  cases c : P.testBit i with
  | true => rw [h i hi c]; rfl
  | false => rw [Bool.not_false, Bool.and_true, b_bf, Nat.add_zero]
theorem w_seq_ok {fb : Nat → Nat → Bool} {A : Nat} (hA : A < 1024) (hc : w_cn fb A = true) : ∀ i, i ≤ w_pc A → (w_seq fb A i).1 < 1024 ∧ w_pc (w_seq fb A i).1 = i ∧ (∀ q, q < 10 → ((w_seq fb A i).1).testBit q = true → A.testBit q = true) ∧ w_cn (w_fp fb (w_seq fb A i).1) (w_dif A (w_seq fb A i).1) = true
  | 0, _ => ⟨by show (0 : Nat) < 1024; decide, by show w_pc 0 = 0; decide +kernel, fun q _ h => by rw [show (w_seq fb A 0).1 = 0 from rfl, Nat.zero_testBit] at h; exact absurd h (by decide), by rw [show (w_seq fb A 0).1 = 0 from rfl, w_fp0, w_dif_0 hA]; exact hc⟩
  | i + 1, hi => by
    obtain ⟨h1, h2, h3, h4⟩ := w_seq_ok hA hc i (by omega)
    have h5 := w_pc_dif hA h1 h3
    have h0 : w_dif A (w_seq fb A i).1 ≠ 0 := fun g => by
      rw [g] at h5
      have : w_pc 0 = 0 := by decide +kernel
      omega
    obtain ⟨g1, g2, g3⟩ := w_nxe_spec hA h1 h0 h4
    have e1 : (w_seq fb A (i + 1)).1 = (w_seq fb A i).1 ||| 2 ^ w_nxe fb A (w_seq fb A i).1 := rfl
    unfold w_can1 at g2
    rw [Bool.and_eq_true, w_dif_bt (by omega), Bool.and_eq_true, Bool.not_eq_true'] at g2
    rw [e1]
    refine ⟨w_or_lt h1 g1, by rw [w_pc_or _ g1 _ h1 g2.1.2, h2], fun q hq hb => ?_, ?_⟩
    · rw [w_or_bt, Bool.or_eq_true, decide_eq_true_eq] at hb
      rcases hb with hb | hb
      · exact h3 q hq hb
      · rw [← hb]; exact g2.1.1
    · rw [w_dif_or hA]
      exact g2.2
theorem w_seq_ne {fb : Nat → Nat → Bool} {A i : Nat} (hA : A < 1024) (hc : w_cn fb A = true) (hi : i < w_pc A) : w_dif A (w_seq fb A i).1 ≠ 0 ∧ (w_seq fb A i).1 ≠ A := by
  obtain ⟨h1, h2, h3, h4⟩ := w_seq_ok hA hc i (by omega)
  have h5 := w_pc_dif hA h1 h3
  refine ⟨fun g => ?_, fun g => by rw [g] at h2; omega⟩
  rw [g] at h5
  have : w_pc 0 = 0 := by decide +kernel
  omega
theorem w_seq_end {fb : Nat → Nat → Bool} {A : Nat} (hA : A < 1024) (hc : w_cn fb A = true) : w_dif A (w_seq fb A (w_pc A)).1 = 0 ∧ (w_seq fb A (w_pc A)).1 = A := by
  obtain ⟨h1, h2, h3, h4⟩ := w_seq_ok hA hc (w_pc A) (Nat.le_refl _)
  have h5 := w_pc_dif hA h1 h3
  have h6 : w_dif A (w_seq fb A (w_pc A)).1 = 0 := w_pc_0 _ (Nat.lt_of_le_of_lt w_dif_le hA) (by omega)
  refine ⟨h6, z_ext10 h1 hA fun q hq => ?_⟩
  have h7 := w_dif_bt (A := A) (P := (w_seq fb A (w_pc A)).1) (i := q) (by omega)
  rw [h6, Nat.zero_testBit] at h7
  cases c : ((w_seq fb A (w_pc A)).1).testBit q with
  | true => exact (h3 q hq c).symm
  | false => rw [c, Bool.not_false, Bool.and_true] at h7; exact h7
section OF
variable {X : Nat × (Nat → Int32)} {tx : List Int32} {D : Nat} {m j : Nat → Nat → Nat} {w : (Nat × Nat) × Bool} {s : Nat → Nat}
theorem s_Or_tellRow (hF : c_F m 4 s) (hS : i_S s) (hD : 6 ≤ D) {A r : Nat} (hA : A < 2 ^ s 3) (hr : ∀ k, k < 6 → s (r + k) ≤ 99) (h65 : ∀ k, k < 6 → m 165 k = s (r + k)) (hc : w_cn (w_fbh s r) A = true) : ∃ m2, a_ex X tx a_T D 116 [.ref 162, .int (nI A)] (b_h m j w) = some (b_h m2 j w, none) ∧ z_fr 162 165 m m2 ∧ m2 162 3 = w_pc A ∧ ∀ i, i < w_pc A → m2 163 i = (w_seq (w_fbh s r) A (w_pc A)).2 i := by
  obtain ⟨d, rfl⟩ : ∃ d, D = d + 1 := ⟨D - 1, by omega⟩
  have hE := i_S_E hS
  have hPw : 2 ^ s 3 ≤ 1024 := Nat.pow_le_pow_right (n := 2) (by decide) hE
  have hA1 : A < 1024 := by omega
  have hpA := w_pc_le A
  rw [e_Or_tellRow, q_Or_tellRow_0]
  simp (disch := omega) only [↓bc_162, ↓br_162_0, ↓bc_4, ↓br_162_2, ↓bc_163, ↓bx_163, bl_163, ↓b_t0, ↓b_t1, ↓b_t2, ↓b_t3, ↓b_t4, ↓b_t5, ↓b_t6, Nat.zero_add, Nat.le_refl, b_rs, b_rn, b_r2, b_ss, b_sn, b_bt, b_bf, b_b0, b_b1, b_bw, b_shl, b_or, b_iv, b_jv, b_sI, b_sJ, ↓z_hl, z_b0, z_b1, z_b2, b_and1c, b_and1z, if_true, if_false, nI_add, pk_mul, b_cl, b_lt, b_le, b_eq, b_eq0, b_le0, b_0lt, b_0le, b_lt0]
  rw [← l_Or_tellRow_7]
  refine z_runT (Q := fun q => ∃ m2, q = some (b_h m2 j w, none) ∧ z_fr 162 165 m m2 ∧ m2 162 3 = w_pc A ∧ ∀ i, i < w_pc A → m2 163 i = (w_seq (w_fbh s r) A (w_pc A)).2 i) (fun k c L h => ∃ i m3, h = b_h m3 j w ∧ i ≤ w_pc A ∧ z_fr 162 165 m m3 ∧ m3 162 3 = i ∧ (∀ n, n < i → m3 163 n = (w_seq (w_fbh s r) A i).2 n) ∧ (∀ k, k < 6 → m3 165 k = w_lf (s (r + k)) (w_cs s (w_seq (w_fbh s r) A i).1 k)) ∧
    ((∃ u4 u5, c = 7 ∧ k + 20 * i = 300 ∧ L = [.ref 162, .int (nI A), .int (nI (w_dif A (w_seq (w_fbh s r) A i).1)), .int (nI i), u4, u5]) ∨
     (∃ e, c = 16 ∧ k + 20 * i + e + 1 = 300 ∧ i < w_pc A ∧ e ≤ w_nxe (w_fbh s r) A (w_seq (w_fbh s r) A i).1 ∧ L = [.ref 162, .int (nI A), .int (nI (w_dif A (w_seq (w_fbh s r) A i).1)), .int (nI i), .int (nI 4294967295), .int (nI e)]) ∨
     (∃ e, c = 16 ∧ k + 20 * i + e + 2 = 300 ∧ i < w_pc A ∧ e = w_nxe (w_fbh s r) A (w_seq (w_fbh s r) A i).1 ∧ L = [.ref 162, .int (nI A), .int (nI (w_dif A (w_seq (w_fbh s r) A i).1)), .int (nI i), .int (nI e), .int (nI (e + 1))]))) 0 ?_ 300 7 _ _ ⟨0, _, rfl, by omega, z_fr_r z_fr_rf (by omega), by rw [b_rs, b_ss], fun n hn => absurd hn (Nat.not_lt_zero n), fun k hk => by rw [b_rn (by decide), show (w_seq (w_fbh s r) A 0).1 = 0 from rfl, w_cs_0, w_lf0]; exact h65 k hk, Or.inl ⟨_, _, rfl, by omega, by rw [show (w_seq (w_fbh s r) A 0).1 = 0 from rfl, w_dif_0 hA1]⟩⟩ _ (z_fu (by omega))
  rintro k c L h ⟨i, m3, rfl, hi, hm, h3, h63, g65, ⟨u4, u5, rfl, hk, rfl⟩ | ⟨e, rfl, hk, hi2, he, rfl⟩ | ⟨e, rfl, hk, hi2, he, rfl⟩⟩ f _
  · rw [l_Or_tellRow_7, q_Or_tellRow_7]
    by_cases c : i = w_pc A
    · left
      subst c
      refine ⟨m3, ?_, hm, h3, h63⟩
      rw [(w_seq_end hA1 hc).1]
      by_cases c2 : w_pc A = 10
      · rw [c2]
        simp (disch := omega) only [↓bc_162, ↓br_162_0, ↓bc_4, ↓br_162_2, ↓bc_163, ↓bx_163, bl_163, ↓b_t0, ↓b_t1, ↓b_t2, ↓b_t3, ↓b_t4, ↓b_t5, ↓b_t6, Nat.zero_add, Nat.le_refl, b_rs, b_rn, b_r2, b_ss, b_sn, b_bt, b_bf, b_b0, b_b1, b_bw, b_shl, b_or, b_iv, b_jv, b_sI, b_sJ, ↓z_hl, z_b0, z_b1, z_b2, b_and1c, b_and1z, if_true, if_false, nI_add, pk_mul, b_cl, b_lt, b_le, b_eq, b_eq0, b_le0, b_0lt, b_0le, b_lt0]
      · simp (disch := omega) only [↓bc_162, ↓br_162_0, ↓bc_4, ↓br_162_2, ↓bc_163, ↓bx_163, bl_163, ↓b_t0, ↓b_t1, ↓b_t2, ↓b_t3, ↓b_t4, ↓b_t5, ↓b_t6, Nat.zero_add, Nat.le_refl, b_rs, b_rn, b_r2, b_ss, b_sn, b_bt, b_bf, b_b0, b_b1, b_bw, b_shl, b_or, b_iv, b_jv, b_sI, b_sJ, ↓z_hl, z_b0, z_b1, z_b2, b_and1c, b_and1z, if_true, if_false, nI_add, pk_mul, b_cl, b_lt, b_le, b_eq, b_eq0, b_le0, b_0lt, b_0le, b_lt0]
        rw [if_neg (by omega)]
    · right
      obtain ⟨z1, z2⟩ := w_seq_ne hA1 hc (i := i) (by omega)
      have hd : w_dif A (w_seq (w_fbh s r) A i).1 ≤ A := w_dif_le
      refine ⟨k - 1, 16, [.ref 162, .int (nI A), .int (nI (w_dif A (w_seq (w_fbh s r) A i).1)), .int (nI i), .int (nI 4294967295), .int (nI 0)], b_h m3 j w, by omega, ⟨i, m3, rfl, hi, hm, h3, h63, g65, Or.inr (Or.inl ⟨0, rfl, by omega, by omega, Nat.zero_le _, rfl⟩)⟩, Or.inr ?_⟩
      rw [l_Or_tellRow_16]
      simp (disch := omega) only [↓bc_162, ↓br_162_0, ↓bc_4, ↓br_162_2, ↓bc_163, ↓bx_163, bl_163, ↓b_t0, ↓b_t1, ↓b_t2, ↓b_t3, ↓b_t4, ↓b_t5, ↓b_t6, Nat.zero_add, Nat.le_refl, b_rs, b_rn, b_r2, b_ss, b_sn, b_bt, b_bf, b_b0, b_b1, b_bw, b_shl, b_or, b_iv, b_jv, b_sI, b_sJ, ↓z_hl, z_b0, z_b1, z_b2, b_and1c, b_and1z, if_true, if_false, nI_add, pk_mul, b_cl, b_lt, b_le, b_eq, b_eq0, b_le0, b_0lt, b_0le, b_lt0]
      rw [if_neg (by omega), if_neg z1]
  · have e4 : m3 4 3 = s 3 := by rw [hm 4 (by omega)]; exact c_F4_E hF
    have hF3 : c_F m3 4 s := c_F_ext (fun c p1 p2 => hm c (by omega)) (fun _ _ => rfl) hS hF
    obtain ⟨o1, o2, o3, o4⟩ := w_seq_ok hA1 hc i hi
    obtain ⟨z1, z2⟩ := w_seq_ne hA1 hc (i := i) hi2
    obtain ⟨v1, v2, v3⟩ := w_nxe_spec hA1 o1 z1 o4
    generalize hP : (w_seq (w_fbh s r) A i).1 = P at *
    generalize hV : w_nxe (w_fbh s r) A P = v at *
    have hd : w_dif A P ≤ A := w_dif_le
    have vb : (w_dif A P).testBit v = true := by
      unfold w_can1 at v2
      rw [Bool.and_eq_true] at v2
      exact v2.1
    have hvE : v < s 3 := z_btE (a := w_dif A P) (by omega) vb
    rw [l_Or_tellRow_16, q_Or_tellRow_16]
    right
    cases hb : (w_dif A P).testBit e with
    | false =>
      have hne : e ≠ v := fun g => by rw [g, vb] at hb; exact absurd hb (by decide)
      refine ⟨k - 1, 16, [.ref 162, .int (nI A), .int (nI (w_dif A P)), .int (nI i), .int (nI 4294967295), .int (nI (e + 1))], b_h m3 j w, by omega, ⟨i, m3, rfl, hi, hm, h3, h63, by rw [hP]; exact g65, Or.inr (Or.inl ⟨e + 1, rfl, by omega, hi2, by rw [hP, hV]; omega, by rw [hP]⟩)⟩, Or.inl ?_⟩
      simp (disch := omega) only [e4, s_EM_isIn, hb, ↓bc_162, ↓br_162_0, ↓bc_4, ↓br_162_2, ↓bc_163, ↓bx_163, bl_163, ↓b_t0, ↓b_t1, ↓b_t2, ↓b_t3, ↓b_t4, ↓b_t5, ↓b_t6, Nat.zero_add, Nat.le_refl, b_rs, b_rn, b_r2, b_ss, b_sn, b_bt, b_bf, b_b0, b_b1, b_bw, b_shl, b_or, b_iv, b_jv, b_sI, b_sJ, ↓z_hl, z_b0, z_b1, z_b2, b_and1c, b_and1z, if_true, if_false, nI_add, pk_mul, b_cl, b_lt, b_le, b_eq, b_eq0, b_le0, b_0lt, b_0le, b_lt0]
      rw [if_neg (by omega)]
    | true =>
      obtain ⟨m4, s1, k1, k2⟩ := s_Or_mayBeFirst (X := X) (tx := tx) (D := d) (m := m3) (j := j) (w := w) hF3 hS (by omega) (S := w_dif A P) (P := P) (r := r) (e := e) (by omega) o1 w_dif_dj hr g65 (by omega) hb
      have hc1 : w_can1 (w_fbh s r) A P e = w_cn (w_fp (w_fbh s r) (P ||| 2 ^ e)) (w_rm (w_dif A P) e) := by
        unfold w_can1
        rw [hb, Bool.true_and]
      rw [← hc1] at s1
      have hm4 : z_fr 162 165 m m4 := fun c hc => by rw [k1 c (by omega), hm c hc]
      have q3 : m4 162 3 = i := by rw [k1 162 (by omega)]; exact h3
      have q63 : ∀ n, n < i → m4 163 n = (w_seq (w_fbh s r) A i).2 n := fun n hn => by rw [k1 163 (by omega)]; exact h63 n hn
      by_cases c : e = v
      · rw [c, v2, ← c] at s1
        refine ⟨k - 1, 16, [.ref 162, .int (nI A), .int (nI (w_dif A P)), .int (nI i), .int (nI e), .int (nI (e + 1))], b_h m4 j w, by omega, ⟨i, m4, rfl, hi, hm4, q3, q63, by rw [hP]; exact k2, Or.inr (Or.inr ⟨e, rfl, by omega, hi2, by rw [hP, hV, c], by rw [hP]⟩)⟩, Or.inl ?_⟩
        simp (disch := omega) only [e4, s_EM_isIn, hb, b_xor, b_and, w_rm_eq, s1, Nat.one_ne_zero, ↓bc_162, ↓br_162_0, ↓bc_4, ↓br_162_2, ↓bc_163, ↓bx_163, bl_163, ↓b_t0, ↓b_t1, ↓b_t2, ↓b_t3, ↓b_t4, ↓b_t5, ↓b_t6, Nat.zero_add, Nat.le_refl, b_rs, b_rn, b_r2, b_ss, b_sn, b_bt, b_bf, b_b0, b_b1, b_bw, b_shl, b_or, b_iv, b_jv, b_sI, b_sJ, ↓z_hl, z_b0, z_b1, z_b2, b_and1c, b_and1z, if_true, if_false, nI_add, pk_mul, b_cl, b_lt, b_le, b_eq, b_eq0, b_le0, b_0lt, b_0le, b_lt0]
        rw [if_neg (by omega)]
      · rw [v3 e (by omega)] at s1
        refine ⟨k - 1, 16, [.ref 162, .int (nI A), .int (nI (w_dif A P)), .int (nI i), .int (nI 4294967295), .int (nI (e + 1))], b_h m4 j w, by omega, ⟨i, m4, rfl, hi, hm4, q3, q63, by rw [hP]; exact k2, Or.inr (Or.inl ⟨e + 1, rfl, by omega, hi2, by rw [hP, hV]; omega, by rw [hP]⟩)⟩, Or.inl ?_⟩
        simp (disch := omega) only [e4, s_EM_isIn, hb, b_xor, b_and, w_rm_eq, s1, Nat.one_ne_zero, ↓bc_162, ↓br_162_0, ↓bc_4, ↓br_162_2, ↓bc_163, ↓bx_163, bl_163, ↓b_t0, ↓b_t1, ↓b_t2, ↓b_t3, ↓b_t4, ↓b_t5, ↓b_t6, Nat.zero_add, Nat.le_refl, b_rs, b_rn, b_r2, b_ss, b_sn, b_bt, b_bf, b_b0, b_b1, b_bw, b_shl, b_or, b_iv, b_jv, b_sI, b_sJ, ↓z_hl, z_b0, z_b1, z_b2, b_and1c, b_and1z, if_true, if_false, nI_add, pk_mul, b_cl, b_lt, b_le, b_eq, b_eq0, b_le0, b_0lt, b_0le, b_lt0]
        rw [if_neg (by omega)]
  · have e4 : m3 4 3 = s 3 := by rw [hm 4 (by omega)]; exact c_F4_E hF
    obtain ⟨o1, o2, o3, o4⟩ := w_seq_ok hA1 hc i hi
    obtain ⟨z1, z2⟩ := w_seq_ne hA1 hc (i := i) hi2
    obtain ⟨v1, v2, v3⟩ := w_nxe_spec hA1 o1 z1 o4
    have es : w_seq (w_fbh s r) A (i + 1) = ((w_seq (w_fbh s r) A i).1 ||| 2 ^ w_nxe (w_fbh s r) A (w_seq (w_fbh s r) A i).1, b_s (w_seq (w_fbh s r) A i).2 i (w_nxe (w_fbh s r) A (w_seq (w_fbh s r) A i).1)) := rfl
    rw [← he] at v1 v2 v3 es
    generalize hP : (w_seq (w_fbh s r) A i).1 = P at *
    have eq1 : (w_seq (w_fbh s r) A (i + 1)).1 = P ||| 2 ^ e := by rw [es]
    have hd : w_dif A P ≤ A := w_dif_le
    have vb : (w_dif A P).testBit e = true := by
      unfold w_can1 at v2
      rw [Bool.and_eq_true] at v2
      exact v2.1
    have hvE : e < s 3 := z_btE (a := w_dif A P) (by omega) vb
    have hdj1 : w_dj P (2 ^ e) := fun q hq h => by
      rw [Nat.testBit_two_pow]
      exact decide_eq_false fun g => by rw [g] at vb; rw [w_dif_dj q hq h] at vb; exact absurd vb (by decide)
    have hcs : ∀ k, w_cs s (P ||| 2 ^ e) k = w_cs s P k + s (87 + 6 * e + k) := fun k => by rw [w_cs_or hE hdj1, w_cs_one hvE]
    have hF4 : c_F (b_r (b_r m3 163 (b_s (m3 163) i e)) 162 (b_s (m3 162) 3 (i + 1))) 4 s := c_F_ext (fun c p1 p2 => by rw [b_rn (by omega), b_rn (by omega)]; exact hm c (by omega)) (fun _ _ => rfl) hS hF
    obtain ⟨m4, s1, k1, k2⟩ := s_Or_take (X := X) (tx := tx) (D := d) (m := b_r (b_r m3 163 (b_s (m3 163) i e)) 162 (b_s (m3 162) 3 (i + 1))) (j := j) (w := w) hF4 hS (by omega) (P := P) (r := r) (e := e) hr (fun k hk => by rw [b_rn (by decide), b_rn (by decide)]; exact g65 k hk) hvE
    rw [l_Or_tellRow_16, q_Or_tellRow_16]
    right
    refine ⟨300 - 20 * (i + 1), 7, [.ref 162, .int (nI A), .int (nI (w_rm (w_dif A P) e)), .int (nI (i + 1)), .int (nI e), .int (nI (e + 1))], b_h m4 j w, by omega, ⟨i + 1, m4, rfl, by omega, fun c hc => by rw [k1 c (by omega), b_rn (by omega), b_rn (by omega), hm c hc], by rw [k1 162 (by omega), b_rs, b_ss], fun n hn => ?_, fun k hk => ?_, Or.inl ⟨_, _, rfl, by omega, by rw [eq1, w_dif_or hA1]⟩⟩, Or.inl ?_⟩
    · rw [es, k1 163 (by omega), b_rn (by decide), b_rs]
      show _ = b_s (w_seq (w_fbh s r) A i).2 i e n
      by_cases c5 : n = i
      · rw [c5, b_ss, b_ss]
      · rw [b_sn c5, b_sn c5]; exact h63 n (by omega)
    · rw [es]
      show _ = w_lf (s (r + k)) (w_cs s (P ||| 2 ^ e) k)
      rw [hcs]
      exact k2 k hk
    · have x43 : a_rn X tx (a_ex X tx a_T d) (a_go X tx (a_ex X tx a_T d) k_Or_tellRow_0 f) k_Or_tellRow_43 0 [.ref 162, .int (nI A), .int (nI (w_dif A P)), .int (nI i), .int (nI e), .int (nI (e + 1))] [] (b_h m3 j w) = a_go X tx (a_ex X tx a_T d) k_Or_tellRow_0 f 7 [.ref 162, .int (nI A), .int (nI (w_rm (w_dif A P) e)), .int (nI (i + 1)), .int (nI e), .int (nI (e + 1))] (b_h m4 j w) := by
        rw [q_Or_tellRow_43]
        simp (disch := omega) only [s1, b_xor, b_and, w_rm_eq, ↓bc_162, ↓br_162_0, ↓bc_4, ↓br_162_2, ↓bc_163, ↓bx_163, bl_163, ↓b_t0, ↓b_t1, ↓b_t2, ↓b_t3, ↓b_t4, ↓b_t5, ↓b_t6, Nat.zero_add, Nat.le_refl, b_rs, b_rn, b_r2, b_ss, b_sn, b_bt, b_bf, b_b0, b_b1, b_bw, b_shl, b_or, b_iv, b_jv, b_sI, b_sJ, ↓z_hl, z_b0, z_b1, z_b2, b_and1c, b_and1z, if_true, if_false, nI_add, pk_mul, b_cl, b_lt, b_le, b_eq, b_eq0, b_le0, b_0lt, b_0le, b_lt0]
        rw [if_neg (by omega)]
      simp (disch := omega) only [e4, x43, ↓bc_162, ↓br_162_0, ↓bc_4, ↓br_162_2, ↓bc_163, ↓bx_163, bl_163, ↓b_t0, ↓b_t1, ↓b_t2, ↓b_t3, ↓b_t4, ↓b_t5, ↓b_t6, Nat.zero_add, Nat.le_refl, b_rs, b_rn, b_r2, b_ss, b_sn, b_bt, b_bf, b_b0, b_b1, b_bw, b_shl, b_or, b_iv, b_jv, b_sI, b_sJ, ↓z_hl, z_b0, z_b1, z_b2, b_and1c, b_and1z, if_true, if_false, nI_add, pk_mul, b_cl, b_lt, b_le, b_eq, b_eq0, b_le0, b_0lt, b_0le, b_lt0]
      rw [if_neg (show ¬ e = 4294967295 by omega)]
      split <;> rfl
theorem s_Or_leastCoin (hF : c_F m 4 s) (hA : c_A m 26 s) (hS : i_S s) (hI : i_D s) (hD : 7 ≤ D) {t : Nat} (ht : t < 8) : ∃ m2, a_ex X tx a_T D 105 [.ref 162, .int (nI t)] (b_h m j w) = some (b_h m2 j w, some (.int (nI (if w_cst s (177 + 6 * t) = 4294967295 then 4294967295 else w_prc s (w_cst s (177 + 6 * t)))))) ∧ z_fr 162 165 m m2 ∧ (w_cst s (177 + 6 * t) = 4294967295 → m2 162 3 = m 162 3 ∧ m2 163 = m 163) ∧ (w_cst s (177 + 6 * t) ≠ 4294967295 → m2 162 3 = w_pc (w_cst s (177 + 6 * t)) ∧ ∀ i, i < w_pc (w_cst s (177 + 6 * t)) → m2 163 i = (w_seq (w_fbh s (177 + 6 * t)) (w_cst s (177 + 6 * t)) (w_pc (w_cst s (177 + 6 * t)))).2 i) := by
  obtain ⟨d, rfl⟩ : ∃ d, D = d + 1 := ⟨D - 1, by omega⟩
  have hE := i_S_E hS
  have hr : ∀ k, k < 6 → s (177 + 6 * t + k) ≤ 99 := fun k hk => i_D_op hI t ht k hk
  have hop := w_open_le hI ht
  obtain ⟨m1, e1, g1, g2⟩ := s_Or_leaveAsNow (X := X) (tx := tx) (D := d) (m := m) (j := j) (w := w) hF hA hS (by omega) ht
  have hF1 : c_F m1 4 s := c_F_ext (fun c p1 p2 => g1 c (by omega)) (fun _ _ => rfl) hS hF
  have hA1 : c_A m1 26 s := c_A_ext (fun c p1 p2 => g1 c (by omega)) hA
  have s2 := s_Af_fitting (X := X) (tx := tx) (D := d) (m := m1) (j := j) (w := w) hF1 hA1 hS hI (by omega) ht
  have s3 := s_Af_allOpen26 (X := X) (tx := tx) (D := d) (m := m1) (j := j) (w := w) hF1 hA1 hS hI (by omega) ht
  have key : ∃ b m2, (w_open s t = 0 → b = 1) ∧ (w_open s t ≠ 0 → b = 0) ∧ a_ex X tx a_T d 108 [.ref 162, .int (nI (w_fitting s t)), .int (nI b)] (b_h m1 j w) = some (b_h m2 j w, some (.int (nI (w_cst s (177 + 6 * t))))) ∧ z_fr 164 164 m1 m2 := by
    by_cases c : w_open s t = 0
    · refine ⟨1, m1, fun _ => rfl, fun g => absurd c g, ?_, z_fr_rf⟩
      rw [w_cst_zero c]
      exact s_Or_cheapestSet1 (by omega)
    · obtain ⟨m2, k1, k2⟩ := s_Or_cheapestSet0 (X := X) (tx := tx) (D := d) (m := m1) (j := j) (w := w) hF1 hA1 hS hI (by omega) ht c g2
      exact ⟨0, m2, fun g => absurd g c, fun _ => rfl, k1, k2⟩
  obtain ⟨b, m2, b1, b2, e4, g4⟩ := key
  have hF2 : c_F m2 4 s := c_F_ext (fun c p1 p2 => g4 c (by omega)) (fun _ _ => rfl) hS hF1
  have hlt := w_bst_lt (Q := w_okk s (177 + 6 * t)) (pr := w_prc s) 1024
  have hB : w_cst s (177 + 6 * t) = w_bst (w_okk s (177 + 6 * t)) (w_prc s) 1024 := rfl
  rw [← hB] at hlt
  rw [e_Or_leastCoin, q_Or_leastCoin_0]
  by_cases c2 : w_cst s (177 + 6 * t) = 4294967295
  · refine ⟨m2, ?_, fun c hc => by rw [g4 c (by omega), g1 c (by omega)], fun _ => ⟨by rw [g4 162 (by omega), g1 162 (by omega)], by rw [g4 163 (by omega), g1 163 (by omega)]⟩, fun g => absurd c2 g⟩
    rw [if_pos c2]
    rw [c2] at e4
    by_cases c : w_open s t = 0
    · rw [b1 c] at e4
      rw [c] at s3
      simp (disch := omega) only [e1, s2, s3, e4, ↓bc_162, ↓br_162_1, ↓bc_26, ↓b_t0, ↓b_t1, ↓b_t2, ↓b_t3, ↓b_t4, ↓b_t5, ↓b_t6, Nat.zero_add, Nat.le_refl, b_rs, b_rn, b_r2, b_ss, b_sn, b_bt, b_bf, b_b0, b_b1, b_bw, b_shl, b_or, b_iv, b_jv, b_sI, b_sJ, ↓z_hl, z_b0, z_b1, z_b2, b_and1c, b_and1z, if_true, if_false, nI_add, pk_mul, b_cl, b_lt, b_le, b_eq, b_eq0, b_le0, b_0lt, b_0le, b_lt0]
    · rw [b2 c] at e4
      simp (disch := omega) only [e1, s2, s3, e4, ↓bc_162, ↓br_162_1, ↓bc_26, ↓b_t0, ↓b_t1, ↓b_t2, ↓b_t3, ↓b_t4, ↓b_t5, ↓b_t6, Nat.zero_add, Nat.le_refl, b_rs, b_rn, b_r2, b_ss, b_sn, b_bt, b_bf, b_b0, b_b1, b_bw, b_shl, b_or, b_iv, b_jv, b_sI, b_sJ, ↓z_hl, z_b0, z_b1, z_b2, b_and1c, b_and1z, if_true, if_false, nI_add, pk_mul, b_cl, b_lt, b_le, b_eq, b_eq0, b_le0, b_0lt, b_0le, b_lt0]
      rw [if_neg c]
  · obtain ⟨hl, hq⟩ := hlt.resolve_left c2
    unfold w_okk w_okc at hq
    rw [Bool.and_eq_true, Bool.and_eq_true, decide_eq_true_eq, w_and_nx hl] at hq
    have hl2 := z_sub_le hq.1
    have hl3 := w_left_lt (s := s)
    have hl4 : 2 ^ s 3 ≥ 1 := Nat.one_le_two_pow
    obtain ⟨m3, e5, g5, g6, g7⟩ := s_Or_tellRow (X := X) (tx := tx) (D := d) (m := m2) (j := j) (w := w) hF2 hS (by omega) (A := w_cst s (177 + 6 * t)) (r := 177 + 6 * t) (by omega) hr (fun k hk => by rw [g4 165 (by omega)]; exact g2 k hk) hq.2.1
    have fr : z_fr 162 165 m m3 := fun c hc => by rw [g5 c hc, g4 c (by omega), g1 c (by omega)]
    have hF3 : c_F m3 4 s := c_F_ext (fun c p1 p2 => fr c (by omega)) (fun _ _ => rfl) hS hF
    have hA3 : c_A m3 26 s := c_A_ext (fun c p1 p2 => fr c (by omega)) hA
    have s6 := s_Or_coinOf (X := X) (tx := tx) (D := d) (m := m3) (j := j) (w := w) hF3 hA3 hS hI (by omega) (S := w_cst s (177 + 6 * t)) hl
    have s6 : a_ex X tx a_T d 109 [.ref 162, .int (nI (w_cst s (177 + 6 * t)))] (b_h m3 j w) = some (b_h m3 j w, some (.int (nI (w_prc s (w_cst s (177 + 6 * t)))))) := s6
    refine ⟨m3, ?_, fr, fun g => absurd g c2, fun _ => ⟨g6, g7⟩⟩
    rw [if_neg c2]
    by_cases c : w_open s t = 0
    · rw [b1 c] at e4
      rw [c] at s3
      simp (disch := omega) only [e1, s2, s3, e4, e5, s6, ↓bc_162, ↓br_162_1, ↓bc_26, ↓b_t0, ↓b_t1, ↓b_t2, ↓b_t3, ↓b_t4, ↓b_t5, ↓b_t6, Nat.zero_add, Nat.le_refl, b_rs, b_rn, b_r2, b_ss, b_sn, b_bt, b_bf, b_b0, b_b1, b_bw, b_shl, b_or, b_iv, b_jv, b_sI, b_sJ, ↓z_hl, z_b0, z_b1, z_b2, b_and1c, b_and1z, if_true, if_false, nI_add, pk_mul, b_cl, b_lt, b_le, b_eq, b_eq0, b_le0, b_0lt, b_0le, b_lt0]
      rw [if_neg (by omega)]
    · rw [b2 c] at e4
      simp (disch := omega) only [e1, s2, s3, e4, e5, s6, ↓bc_162, ↓br_162_1, ↓bc_26, ↓b_t0, ↓b_t1, ↓b_t2, ↓b_t3, ↓b_t4, ↓b_t5, ↓b_t6, Nat.zero_add, Nat.le_refl, b_rs, b_rn, b_r2, b_ss, b_sn, b_bt, b_bf, b_b0, b_b1, b_bw, b_shl, b_or, b_iv, b_jv, b_sI, b_sJ, ↓z_hl, z_b0, z_b1, z_b2, b_and1c, b_and1z, if_true, if_false, nI_add, pk_mul, b_cl, b_lt, b_le, b_eq, b_eq0, b_le0, b_0lt, b_0le, b_lt0]
      rw [if_neg c, if_neg (by omega)]
end OF
