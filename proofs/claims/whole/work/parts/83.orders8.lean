/-! ORDERS: the reference's rows -/
theorem w_sub_or {A P e : Nat} (hA : A < 1024) (hP : ∀ i, P.testBit i = true → A.testBit i = true) (he : A.testBit e = true) : ∀ i, (P ||| 2 ^ e).testBit i = true → A.testBit i = true := fun i hi => by
  rw [w_or_bt, Bool.or_eq_true, decide_eq_true_eq] at hi
  rcases hi with h | h
  · exact hP i h
  · rw [← h]; exact he
/-- whether what is wanting of A may come behind S -/
def w_lea (fb : Nat → Nat → Bool) (A S : Nat) : Bool := decide (S &&& (A ^^^ 4294967295) = 0) && w_cn (w_fp fb S) (w_dif A S)
def w_lpa (fb : Nat → Nat → Bool) (A S e : Nat) : Bool := decide (S = A) || z_any (fun e => (w_dif A S).testBit e && w_lea fb A (S ||| 2 ^ e) && fb e S) e
theorem w_lpa_1 {fb : Nat → Nat → Bool} {A S e : Nat} : w_lpa fb A S (e + 1) = (w_lpa fb A S e || ((w_dif A S).testBit e && w_lea fb A (S ||| 2 ^ e) && fb e S)) := by
  unfold w_lpa
  rw [show z_any (fun e => (w_dif A S).testBit e && w_lea fb A (S ||| 2 ^ e) && fb e S) (e + 1) = (z_any (fun e => (w_dif A S).testBit e && w_lea fb A (S ||| 2 ^ e) && fb e S) e || ((w_dif A S).testBit e && w_lea fb A (S ||| 2 ^ e) && fb e S)) from rfl, Bool.or_assoc]
theorem w_lpa_t {fb : Nat → Nat → Bool} {A S e : Nat} (h : w_lpa fb A S e = true) : ∀ n, w_lpa fb A S (e + n) = true
  | 0 => h
  | n + 1 => by
    rw [← Nat.add_assoc, w_lpa_1, w_lpa_t h n]; rfl
theorem w_dif_n0 {A S : Nat} (hA : A < 1024) (hS : S < 1024) (hsub : ∀ i, S.testBit i = true → A.testBit i = true) (h : S ≠ A) : w_dif A S ≠ 0 := fun g => h (z_ext10 hS hA fun i hi => by
  have h7 := w_dif_bt (A := A) (P := S) (i := i) (by omega)
  rw [g, Nat.zero_testBit] at h7
  cases c : S.testBit i with
  | true => exact (hsub i c).symm
  | false => rw [c, Bool.not_false, Bool.and_true] at h7; exact h7)
theorem w_lea_or {fb : Nat → Nat → Bool} {A S e : Nat} (hA : A < 1024) (hS : S < 1024) (hsub : ∀ i, S.testBit i = true → A.testBit i = true) (hb : (w_dif A S).testBit e = true) : w_lea fb A (S ||| 2 ^ e) = w_cn (w_fp fb (S ||| 2 ^ e)) (w_rm (w_dif A S) e) := by
  have he := z_bt10 (Nat.lt_of_le_of_lt w_dif_le hA) hb
  rw [w_dif_bt (by omega), Bool.and_eq_true] at hb
  unfold w_lea
  rw [w_dif_or hA, decide_eq_true ((w_and_nx (w_or_lt hS he)).mpr (z_and_sub.mpr (w_sub_or hA hsub hb.1))), Bool.true_and]
theorem w_lpa_end {fb : Nat → Nat → Bool} {A S n : Nat} (hn : n ≤ 10) (hA : A < 2 ^ n) (hS : S < 1024) (hsub : ∀ i, S.testBit i = true → A.testBit i = true) : w_lpa fb A S n = w_lea fb A S := by
  have hP : 2 ^ n ≤ 1024 := Nat.pow_le_pow_right (n := 2) (by decide) hn
  have hA1 : A < 1024 := by omega
  have e1 : w_lea fb A S = w_cn (w_fp fb S) (w_dif A S) := by
    unfold w_lea
    rw [decide_eq_true ((w_and_nx hS).mpr (z_and_sub.mpr hsub)), Bool.true_and]
  rw [e1]
  unfold w_lpa
  by_cases c : S = A
  · rw [c, w_dif_self hA1, decide_eq_true rfl]
    rfl
  · rw [decide_eq_false c, Bool.false_or, Bool.eq_iff_iff, z_any_iff, w_cn_first hS 10 (w_dif A S) (Nat.lt_of_le_of_lt w_dif_le hA1) (w_pc_le _) (w_dif_n0 hA1 hS hsub c)]
    constructor
    · rintro ⟨e, h1, h2⟩
      have h2 : ((w_dif A S).testBit e && w_lea fb A (S ||| 2 ^ e) && fb e S) = true := h2
      rw [Bool.and_eq_true, Bool.and_eq_true] at h2
      rw [w_lea_or hA1 hS hsub h2.1.1] at h2
      exact ⟨e, by omega, h2.1.1, h2.2, h2.1.2⟩
    · rintro ⟨e, h1, h2, h3, h4⟩
      refine ⟨e, z_btE (Nat.lt_of_le_of_lt w_dif_le hA) h2, ?_⟩
      show ((w_dif A S).testBit e && w_lea fb A (S ||| 2 ^ e) && fb e S) = true
      rw [w_lea_or hA1 hS hsub h2, h2, h3, h4]
      rfl
theorem w_dif_eq {A P : Nat} : A &&& (P ^^^ 4294967295) = w_dif A P := z_id rfl
section OH
variable {X : Nat × (Nat → Int32)} {tx : List Int32} {D : Nat} {m j : Nat → Nat → Nat} {w : (Nat × Nat) × Bool}
theorem s_Mo_orders2 {d : Nat} {u4 : Value} (hS : i_S (m 236)) (hd : 3 ≤ d) {r A : Nat} (hr0 : r + 6 ≤ 533) (hr : ∀ k, k < 6 → m 236 (r + k) ≤ 99) (hA : A < 2 ^ m 236 3) : ∀ f, 1000 + 20000 < f → ∃ m2 x f2, 1000 ≤ f2 ∧ a_go X tx (a_ex X tx a_T d) k_Mo_orders_0 f 2 [.ref 234, .int (nI r), .int (nI A), .int (nI A), u4] (b_h m j w) = a_go X tx (a_ex X tx a_T d) k_Mo_orders_0 (f2 + 1) 73 [.ref 234, .int (nI r), .int (nI A), .int (nI 0), x] (b_h (b_r m2 234 (b_s (m2 234) 26 0)) j w) ∧ z_fr 245 245 m m2 ∧ ∀ S, S ≤ A → m2 245 S = b_b (w_lea (w_fbh (m 236) r) A S) := by
  have hE := i_S_E hS
  have hPw : 2 ^ m 236 3 ≤ 1024 := Nat.pow_le_pow_right (n := 2) (by decide) hE
  have hA1 : A < 1024 := by omega
  have n1 : (nI 4294967295 < 0) = True := b_lt0n (by decide) (by decide)
  intro f0 hf0
  refine z_runT (Q := fun q => ∃ m2 x f2, 1000 ≤ f2 ∧ q = a_go X tx (a_ex X tx a_T d) k_Mo_orders_0 (f2 + 1) 73 [.ref 234, .int (nI r), .int (nI A), .int (nI 0), x] (b_h (b_r m2 234 (b_s (m2 234) 26 0)) j w) ∧ z_fr 245 245 m m2 ∧ ∀ S, S ≤ A → m2 245 S = b_b (w_lea (w_fbh (m 236) r) A S)) (fun k c L h => ∃ n m3, h = b_h m3 j w ∧ z_fr 245 245 m m3 ∧ n ≤ A + 1 ∧ (∀ T, n ≤ T → T ≤ A → m3 245 T = b_b (w_lea (w_fbh (m 236) r) A T)) ∧
    ((∃ u4, c = 2 ∧ k = 12 * n + 1 ∧ L = [.ref 234, .int (nI r), .int (nI A), .int (nI (w_pd n)), u4]) ∨
     (∃ S e, c = 23 ∧ n = S + 1 ∧ k + e = 12 * n ∧ e ≤ m 236 3 ∧ (∀ i, S.testBit i = true → A.testBit i = true) ∧ m3 245 S = b_b (w_lpa (w_fbh (m 236) r) A S e) ∧ L = [.ref 234, .int (nI r), .int (nI A), .int (nI S), .int (nI e)]))) 1000 ?_ (12 * (A + 1) + 1) 2 _ _ ⟨A + 1, m, rfl, z_fr_rf, Nat.le_refl _, fun T h1 h2 => absurd h2 (by omega), Or.inl ⟨u4, rfl, rfl, rfl⟩⟩ f0 (by omega)
  rintro k c L h ⟨n, m3, rfl, hm, hn, hv, ⟨u4, rfl, hk, rfl⟩ | ⟨S, e, rfl, rfl, hk, he, hsub, hp, rfl⟩⟩ f hf
  · rw [l_Mo_orders_2, q_Mo_orders_2]
    by_cases c : n = 0
    · left
      subst c
      refine ⟨m3, u4, f, hf, ?_, hm, fun S hS2 => hv S (Nat.zero_le _) hS2⟩
      rw [l_Mo_orders_73, show w_pd 0 = 4294967295 from rfl]
      simp (disch := omega) only [n1, ↓bc_234, ↓br_234_27, ↓bc_245, ↓bx_245, bl_245, bk_245, ↓br_234_6, ↓bc_236, ↓bx_236, bl_236, ↓br_234_25, ↓bc_244, ↓bx_244, bl_244, ↓b_t0, ↓b_t1, ↓b_t2, ↓b_t3, ↓b_t4, ↓b_t5, ↓b_t6, Nat.zero_add, Nat.le_refl, b_rs, b_rn, b_r2, b_ss, b_sn, b_bt, b_bf, b_b0, b_b1, b_bw, b_shl, b_or, b_iv, b_jv, b_sI, b_sJ, ↓z_hl, z_b0, z_b1, z_b2, b_and1c, b_and1z, if_true, if_false, nI_add, pk_mul, b_cl, b_lt, b_le, b_eq, b_eq0, b_le0, b_0lt, b_0le, b_lt0]
    · right
      obtain ⟨S, rfl⟩ : ∃ S, n = S + 1 := ⟨n - 1, by omega⟩
      have p1 : w_pd (S + 1) = S := rfl
      rw [p1]
      have x1 : nI S + nI 4294967295 = nI (w_pd S) := b_pd (by omega)
      have x2 : nI (S + 4294967295) = nI (w_pd S) := by rw [← x1, nI_add]
      have hx : S &&& (A ^^^ 4294967295) ≤ S := Nat.and_le_left
      by_cases c2 : S &&& (A ^^^ 4294967295) = 0
      · have hsub := z_and_sub.mp ((w_and_nx (by omega)).mp c2)
        refine ⟨k - 1, 23, [.ref 234, .int (nI r), .int (nI A), .int (nI S), .int (nI 0)], b_h (b_r m3 245 (b_s (m3 245) S (b_b (decide (S = A))))) j w, by omega, ⟨S + 1, _, rfl, z_fr_r hm (by omega), hn, fun T h1 h2 => by rw [b_rs, b_sn (by omega)]; exact hv T h1 h2, Or.inr ⟨S, 0, rfl, rfl, by omega, Nat.zero_le _, hsub, by rw [b_rs, b_ss]; congr 1; exact (Bool.or_false _).symm, rfl⟩⟩, Or.inr ?_⟩
        rw [l_Mo_orders_23]
        by_cases c3 : S = A
        · rw [decide_eq_true c3, b_bt]
          simp (disch := omega) only [b_xor, b_and, b_bz245t, b_bz245f, ↓bc_234, ↓br_234_27, ↓bc_245, ↓bx_245, bl_245, bk_245, ↓br_234_6, ↓bc_236, ↓bx_236, bl_236, ↓br_234_25, ↓bc_244, ↓bx_244, bl_244, ↓b_t0, ↓b_t1, ↓b_t2, ↓b_t3, ↓b_t4, ↓b_t5, ↓b_t6, Nat.zero_add, Nat.le_refl, b_rs, b_rn, b_r2, b_ss, b_sn, b_bt, b_bf, b_b0, b_b1, b_bw, b_shl, b_or, b_iv, b_jv, b_sI, b_sJ, ↓z_hl, z_b0, z_b1, z_b2, b_and1c, b_and1z, if_true, if_false, nI_add, pk_mul, b_cl, b_lt, b_le, b_eq, b_eq0, b_le0, b_0lt, b_0le, b_lt0]
          rw [if_pos c3, if_pos c2]
        · rw [decide_eq_false c3, b_bf]
          simp (disch := omega) only [b_xor, b_and, b_bz245t, b_bz245f, ↓bc_234, ↓br_234_27, ↓bc_245, ↓bx_245, bl_245, bk_245, ↓br_234_6, ↓bc_236, ↓bx_236, bl_236, ↓br_234_25, ↓bc_244, ↓bx_244, bl_244, ↓b_t0, ↓b_t1, ↓b_t2, ↓b_t3, ↓b_t4, ↓b_t5, ↓b_t6, Nat.zero_add, Nat.le_refl, b_rs, b_rn, b_r2, b_ss, b_sn, b_bt, b_bf, b_b0, b_b1, b_bw, b_shl, b_or, b_iv, b_jv, b_sI, b_sJ, ↓z_hl, z_b0, z_b1, z_b2, b_and1c, b_and1z, if_true, if_false, nI_add, pk_mul, b_cl, b_lt, b_le, b_eq, b_eq0, b_le0, b_0lt, b_0le, b_lt0]
          rw [if_neg c3, if_pos c2]
      · have c3 : S ≠ A := fun g => c2 ((w_and_nx (by omega)).mpr (by rw [g, Nat.and_self]))
        have e1 : w_lea (w_fbh (m 236) r) A S = false := by unfold w_lea; rw [decide_eq_false c2]; rfl
        refine ⟨12 * S + 1, 2, [.ref 234, .int (nI r), .int (nI A), .int (nI (w_pd S)), u4], b_h (b_r m3 245 (b_s (m3 245) S 0)) j w, by omega, ⟨S, _, rfl, z_fr_r hm (by omega), by omega, fun T h1 h2 => ?_, Or.inl ⟨u4, rfl, rfl, rfl⟩⟩, Or.inl ?_⟩
        · rw [b_rs]
          by_cases c4 : T = S
          · rw [c4, b_ss, e1]; rfl
          · rw [b_sn c4]; exact hv T (by omega) h2
        · simp (disch := omega) only [b_xor, b_and, b_bz245t, b_bz245f, x1, x2, ↓bc_234, ↓br_234_27, ↓bc_245, ↓bx_245, bl_245, bk_245, ↓br_234_6, ↓bc_236, ↓bx_236, bl_236, ↓br_234_25, ↓bc_244, ↓bx_244, bl_244, ↓b_t0, ↓b_t1, ↓b_t2, ↓b_t3, ↓b_t4, ↓b_t5, ↓b_t6, Nat.zero_add, Nat.le_refl, b_rs, b_rn, b_r2, b_ss, b_sn, b_bt, b_bf, b_b0, b_b1, b_bw, b_shl, b_or, b_iv, b_jv, b_sI, b_sJ, ↓z_hl, z_b0, z_b1, z_b2, b_and1c, b_and1z, if_true, if_false, nI_add, pk_mul, b_cl, b_lt, b_le, b_eq, b_eq0, b_le0, b_0lt, b_0le, b_lt0]
          rw [if_neg c3, if_neg c2]
  · have g6 : m3 236 = m 236 := hm 236 (by omega)
    have e3 : m3 236 3 = m 236 3 := by rw [g6]
    have x1 : nI S + nI 4294967295 = nI (w_pd S) := b_pd (by omega)
    have x2 : nI (S + 4294967295) = nI (w_pd S) := by rw [← x1, nI_add]
    rw [l_Mo_orders_23, q_Mo_orders_23]
    right
    have hd1 : w_dif A S ≤ A := w_dif_le
    have out : w_lpa (w_fbh (m 236) r) A S e = w_lea (w_fbh (m 236) r) A S → ∀ T, S ≤ T → T ≤ A → m3 245 T = b_b (w_lea (w_fbh (m 236) r) A T) := fun g T h1 h2 => by
      by_cases c4 : T = S
      · rw [c4, ← g]; exact hp
      · exact hv T (by omega) h2
    by_cases c : e = m 236 3
    · subst c
      have hpe := w_lpa_end (fb := w_fbh (m 236) r) hE hA (show S < 1024 by omega) hsub
      refine ⟨12 * S + 1, 2, [.ref 234, .int (nI r), .int (nI A), .int (nI (w_pd S)), .int (nI (m 236 3))], b_h m3 j w, by omega, ⟨S, m3, rfl, hm, by omega, out hpe, Or.inl ⟨_, rfl, rfl, rfl⟩⟩, Or.inl ?_⟩
      simp (disch := omega) only [e3, x1, x2, ↓bc_234, ↓br_234_27, ↓bc_245, ↓bx_245, bl_245, bk_245, ↓br_234_6, ↓bc_236, ↓bx_236, bl_236, ↓br_234_25, ↓bc_244, ↓bx_244, bl_244, ↓b_t0, ↓b_t1, ↓b_t2, ↓b_t3, ↓b_t4, ↓b_t5, ↓b_t6, Nat.zero_add, Nat.le_refl, b_rs, b_rn, b_r2, b_ss, b_sn, b_bt, b_bf, b_b0, b_b1, b_bw, b_shl, b_or, b_iv, b_jv, b_sI, b_sJ, ↓z_hl, z_b0, z_b1, z_b2, b_and1c, b_and1z, if_true, if_false, nI_add, pk_mul, b_cl, b_lt, b_le, b_eq, b_eq0, b_le0, b_0lt, b_0le, b_lt0]
    · cases hpar : w_lpa (w_fbh (m 236) r) A S e with
      | true =>
        rw [hpar] at hp out
        have hfin : w_lea (w_fbh (m 236) r) A S = true := by
          rw [← w_lpa_end hE hA (by omega) hsub]
          have := w_lpa_t hpar (m 236 3 - e)
          rwa [show e + (m 236 3 - e) = m 236 3 by omega] at this
        refine ⟨12 * S + 1, 2, [.ref 234, .int (nI r), .int (nI A), .int (nI (w_pd S)), .int (nI e)], b_h m3 j w, by omega, ⟨S, m3, rfl, hm, by omega, out hfin.symm, Or.inl ⟨_, rfl, rfl, rfl⟩⟩, Or.inl ?_⟩
        simp (disch := omega) only [e3, hp, bk_245, true_or, x1, x2, Nat.one_ne_zero, ↓bc_234, ↓br_234_27, ↓bc_245, ↓bx_245, bl_245, bk_245, ↓br_234_6, ↓bc_236, ↓bx_236, bl_236, ↓br_234_25, ↓bc_244, ↓bx_244, bl_244, ↓b_t0, ↓b_t1, ↓b_t2, ↓b_t3, ↓b_t4, ↓b_t5, ↓b_t6, Nat.zero_add, Nat.le_refl, b_rs, b_rn, b_r2, b_ss, b_sn, b_bt, b_bf, b_b0, b_b1, b_bw, b_shl, b_or, b_iv, b_jv, b_sI, b_sJ, ↓z_hl, z_b0, z_b1, z_b2, b_and1c, b_and1z, if_true, if_false, nI_add, pk_mul, b_cl, b_lt, b_le, b_eq, b_eq0, b_le0, b_0lt, b_0le, b_lt0]
        rw [if_neg (by omega)]
      | false =>
        rw [hpar] at hp
        have h1 := w_lpa_1 (fb := w_fbh (m 236) r) (A := A) (S := S) (e := e)
        rw [hpar, Bool.false_or] at h1
        cases hb : (w_dif A S).testBit e with
        | false =>
          rw [hb, Bool.false_and, Bool.false_and] at h1
          refine ⟨k - 1, 23, [.ref 234, .int (nI r), .int (nI A), .int (nI S), .int (nI (e + 1))], b_h (b_r m3 245 (b_s (m3 245) S 0)) j w, by omega, ⟨S + 1, _, rfl, z_fr_r hm (by omega), hn, fun T g1 g2 => by rw [b_rs, b_sn (by omega)]; exact hv T g1 g2, Or.inr ⟨S, e + 1, rfl, rfl, by omega, by omega, hsub, by rw [b_rs, b_ss, h1]; rfl, rfl⟩⟩, Or.inl ?_⟩
          simp (disch := omega) only [e3, hp, bk_245, true_or, s_Mo_bitOf, b_xor, b_and, w_dif_eq, hb, b_bz245f, b_bz245t, ↓bc_234, ↓br_234_27, ↓bc_245, ↓bx_245, bl_245, bk_245, ↓br_234_6, ↓bc_236, ↓bx_236, bl_236, ↓br_234_25, ↓bc_244, ↓bx_244, bl_244, ↓b_t0, ↓b_t1, ↓b_t2, ↓b_t3, ↓b_t4, ↓b_t5, ↓b_t6, Nat.zero_add, Nat.le_refl, b_rs, b_rn, b_r2, b_ss, b_sn, b_bt, b_bf, b_b0, b_b1, b_bw, b_shl, b_or, b_iv, b_jv, b_sI, b_sJ, ↓z_hl, z_b0, z_b1, z_b2, b_and1c, b_and1z, if_true, if_false, nI_add, pk_mul, b_cl, b_lt, b_le, b_eq, b_eq0, b_le0, b_0lt, b_0le, b_lt0]
          rw [if_neg (by omega)]
        | true =>
          have hb2 := hb
          rw [w_dif_bt (by omega), Bool.and_eq_true, Bool.not_eq_true'] at hb2
          have hle1 : S ||| 2 ^ e ≤ A := z_sub_le (z_and_sub.mpr (w_sub_or hA1 hsub hb2.1))
          have hpo := w_pc_or e (by omega) S (by omega) hb2.2
          have hlt : S < S ||| 2 ^ e := by
            have h5 : S ≤ S ||| 2 ^ e := Nat.left_le_or
            have h6 : S ≠ S ||| 2 ^ e := fun g => by rw [← g] at hpo; omega
            omega
          have hvT := hv (S ||| 2 ^ e) (by omega) hle1
          rw [hb, Bool.true_and] at h1
          have s1 := s_Mo_fitsBehind (X := X) (tx := tx) (D := d) (m := m3) (j := j) (w := w) (by rw [g6]; exact hS) (by omega) (e := e) (r := r) (S := S) hr0 (by rw [g6]; exact hr) (by omega) (by omega)
          rw [g6] at s1
          cases hc : w_lea (w_fbh (m 236) r) A (S ||| 2 ^ e) with
          | false =>
            rw [hc] at hvT
            rw [hc, Bool.false_and] at h1
            refine ⟨k - 1, 23, [.ref 234, .int (nI r), .int (nI A), .int (nI S), .int (nI (e + 1))], b_h (b_r m3 245 (b_s (m3 245) S 0)) j w, by omega, ⟨S + 1, _, rfl, z_fr_r hm (by omega), hn, fun T g1 g2 => by rw [b_rs, b_sn (by omega)]; exact hv T g1 g2, Or.inr ⟨S, e + 1, rfl, rfl, by omega, by omega, hsub, by rw [b_rs, b_ss, h1]; rfl, rfl⟩⟩, Or.inl ?_⟩
            simp (disch := omega) only [e3, hp, bk_245, true_or, s_Mo_bitOf, b_xor, b_and, w_dif_eq, hb, hvT, b_bz245f, b_bz245t, Nat.one_ne_zero, ↓bc_234, ↓br_234_27, ↓bc_245, ↓bx_245, bl_245, bk_245, ↓br_234_6, ↓bc_236, ↓bx_236, bl_236, ↓br_234_25, ↓bc_244, ↓bx_244, bl_244, ↓b_t0, ↓b_t1, ↓b_t2, ↓b_t3, ↓b_t4, ↓b_t5, ↓b_t6, Nat.zero_add, Nat.le_refl, b_rs, b_rn, b_r2, b_ss, b_sn, b_bt, b_bf, b_b0, b_b1, b_bw, b_shl, b_or, b_iv, b_jv, b_sI, b_sJ, ↓z_hl, z_b0, z_b1, z_b2, b_and1c, b_and1z, if_true, if_false, nI_add, pk_mul, b_cl, b_lt, b_le, b_eq, b_eq0, b_le0, b_0lt, b_0le, b_lt0]
            rw [if_neg (by omega)]
          | true =>
            rw [hc] at hvT
            rw [hc, Bool.true_and] at h1
            refine ⟨k - 1, 23, [.ref 234, .int (nI r), .int (nI A), .int (nI S), .int (nI (e + 1))], b_h (b_r m3 245 (b_s (m3 245) S (b_b (w_fbh (m 236) r e S)))) j w, by omega, ⟨S + 1, _, rfl, z_fr_r hm (by omega), hn, fun T g1 g2 => by rw [b_rs, b_sn (by omega)]; exact hv T g1 g2, Or.inr ⟨S, e + 1, rfl, rfl, by omega, by omega, hsub, by rw [b_rs, b_ss, h1], rfl⟩⟩, Or.inl ?_⟩
            cases hfb : w_fbh (m 236) r e S with
            | false =>
              rw [hfb] at s1
              simp (disch := omega) only [e3, hp, bk_245, true_or, s_Mo_bitOf, b_xor, b_and, w_dif_eq, hb, hvT, s1, b_bz245f, b_bz245t, Nat.one_ne_zero, ↓bc_234, ↓br_234_27, ↓bc_245, ↓bx_245, bl_245, bk_245, ↓br_234_6, ↓bc_236, ↓bx_236, bl_236, ↓br_234_25, ↓bc_244, ↓bx_244, bl_244, ↓b_t0, ↓b_t1, ↓b_t2, ↓b_t3, ↓b_t4, ↓b_t5, ↓b_t6, Nat.zero_add, Nat.le_refl, b_rs, b_rn, b_r2, b_ss, b_sn, b_bt, b_bf, b_b0, b_b1, b_bw, b_shl, b_or, b_iv, b_jv, b_sI, b_sJ, ↓z_hl, z_b0, z_b1, z_b2, b_and1c, b_and1z, if_true, if_false, nI_add, pk_mul, b_cl, b_lt, b_le, b_eq, b_eq0, b_le0, b_0lt, b_0le, b_lt0]
              rw [if_neg (by omega)]
            | true =>
              rw [hfb] at s1
              simp (disch := omega) only [e3, hp, bk_245, true_or, s_Mo_bitOf, b_xor, b_and, w_dif_eq, hb, hvT, s1, b_bz245f, b_bz245t, Nat.one_ne_zero, ↓bc_234, ↓br_234_27, ↓bc_245, ↓bx_245, bl_245, bk_245, ↓br_234_6, ↓bc_236, ↓bx_236, bl_236, ↓br_234_25, ↓bc_244, ↓bx_244, bl_244, ↓b_t0, ↓b_t1, ↓b_t2, ↓b_t3, ↓b_t4, ↓b_t5, ↓b_t6, Nat.zero_add, Nat.le_refl, b_rs, b_rn, b_r2, b_ss, b_sn, b_bt, b_bf, b_b0, b_b1, b_bw, b_shl, b_or, b_iv, b_jv, b_sI, b_sJ, ↓z_hl, z_b0, z_b1, z_b2, b_and1c, b_and1z, if_true, if_false, nI_add, pk_mul, b_cl, b_lt, b_le, b_eq, b_eq0, b_le0, b_0lt, b_0le, b_lt0]
              rw [if_neg (by omega)]
theorem s_Mo_orders73 {d : Nat} {u4 : Value} (hS : i_S (m 236)) (hd : 3 ≤ d) {r A : Nat} (hr0 : r + 6 ≤ 533) (hr : ∀ k, k < 6 → m 236 (r + k) ≤ 99) (hA : A < 2 ^ m 236 3) (hc : w_cn (w_fbh (m 236) r) A = true) (h26 : m 234 26 = 0) (h45 : ∀ S, S ≤ A → m 245 S = b_b (w_lea (w_fbh (m 236) r) A S)) : ∀ f, 0 + 500 < f → ∃ m2, a_go X tx (a_ex X tx a_T d) k_Mo_orders_0 f 73 [.ref 234, .int (nI r), .int (nI A), .int (nI 0), u4] (b_h m j w) = some (b_h m2 j w, none) ∧ (∀ c, c ≠ 234 → c ≠ 244 → m2 c = m c) ∧ (∀ k, k ≠ 26 → m2 234 k = m 234 k) ∧ m2 234 26 = w_pc A ∧ ∀ i, i < w_pc A → m2 244 i = (w_seq (w_fbh (m 236) r) A (w_pc A)).2 i := by
  have hE := i_S_E hS
  have hPw : 2 ^ m 236 3 ≤ 1024 := Nat.pow_le_pow_right (n := 2) (by decide) hE
  have hA1 : A < 1024 := by omega
  have hpA := w_pc_le A
  intro f0 hf0
  refine z_runT (Q := fun q => ∃ m2, q = some (b_h m2 j w, none) ∧ (∀ c, c ≠ 234 → c ≠ 244 → m2 c = m c) ∧ (∀ k, k ≠ 26 → m2 234 k = m 234 k) ∧ m2 234 26 = w_pc A ∧ ∀ i, i < w_pc A → m2 244 i = (w_seq (w_fbh (m 236) r) A (w_pc A)).2 i) (fun k c L h => ∃ i m3, h = b_h m3 j w ∧ i ≤ w_pc A ∧ (∀ c, c ≠ 234 → c ≠ 244 → m3 c = m c) ∧ (∀ k, k ≠ 26 → m3 234 k = m 234 k) ∧ m3 234 26 = i ∧ (∀ n, n < i → m3 244 n = (w_seq (w_fbh (m 236) r) A i).2 n) ∧
    ((∃ u4, c = 73 ∧ k + 20 * i = 300 ∧ L = [.ref 234, .int (nI r), .int (nI A), .int (nI (w_seq (w_fbh (m 236) r) A i).1), u4]) ∨
     (∃ e, c = 78 ∧ k + 20 * i + e + 1 = 300 ∧ i < w_pc A ∧ e ≤ w_nxe (w_fbh (m 236) r) A (w_seq (w_fbh (m 236) r) A i).1 ∧ L = [.ref 234, .int (nI r), .int (nI A), .int (nI (w_seq (w_fbh (m 236) r) A i).1), .int (nI e)]))) 0 ?_ 300 73 _ _ ⟨0, m, rfl, by omega, fun _ _ _ => rfl, fun _ _ => rfl, h26, fun n hn => absurd hn (Nat.not_lt_zero n), Or.inl ⟨u4, rfl, by omega, rfl⟩⟩ f0 (by omega)
  rintro k c L h ⟨i, m3, rfl, hi, hm, hm4, g26, g44, ⟨u4, rfl, hk, rfl⟩ | ⟨e, rfl, hk, hi2, he, rfl⟩⟩ f _
  · rw [l_Mo_orders_73, q_Mo_orders_73]
    obtain ⟨o1, o2, o3, o4⟩ := w_seq_ok hA1 hc i hi
    by_cases c : i = w_pc A
    · left
      subst c
      refine ⟨m3, ?_, hm, hm4, g26, g44⟩
      rw [(w_seq_end hA1 hc).2, if_pos rfl]
    · right
      obtain ⟨z1, z2⟩ := w_seq_ne hA1 hc (i := i) (by omega)
      refine ⟨k - 1, 78, [.ref 234, .int (nI r), .int (nI A), .int (nI (w_seq (w_fbh (m 236) r) A i).1), .int (nI 0)], b_h m3 j w, by omega, ⟨i, m3, rfl, hi, hm, hm4, g26, g44, Or.inr ⟨0, rfl, by omega, by omega, Nat.zero_le _, rfl⟩⟩, Or.inr ?_⟩
      rw [l_Mo_orders_78]
      simp (disch := omega) only [↓bc_234, ↓br_234_27, ↓bc_245, ↓bx_245, bl_245, bk_245, ↓br_234_6, ↓bc_236, ↓bx_236, bl_236, ↓br_234_25, ↓bc_244, ↓bx_244, bl_244, ↓b_t0, ↓b_t1, ↓b_t2, ↓b_t3, ↓b_t4, ↓b_t5, ↓b_t6, Nat.zero_add, Nat.le_refl, b_rs, b_rn, b_r2, b_ss, b_sn, b_bt, b_bf, b_b0, b_b1, b_bw, b_shl, b_or, b_iv, b_jv, b_sI, b_sJ, ↓z_hl, z_b0, z_b1, z_b2, b_and1c, b_and1z, if_true, if_false, nI_add, pk_mul, b_cl, b_lt, b_le, b_eq, b_eq0, b_le0, b_0lt, b_0le, b_lt0]
      rw [if_neg z2]
  · have g6 : m3 236 = m 236 := hm 236 (by omega) (by omega)
    obtain ⟨o1, o2, o3, o4⟩ := w_seq_ok hA1 hc i hi
    obtain ⟨z1, z2⟩ := w_seq_ne hA1 hc (i := i) hi2
    obtain ⟨v1, v2, v3⟩ := w_nxe_spec hA1 o1 z1 o4
    have es : w_seq (w_fbh (m 236) r) A (i + 1) = ((w_seq (w_fbh (m 236) r) A i).1 ||| 2 ^ w_nxe (w_fbh (m 236) r) A (w_seq (w_fbh (m 236) r) A i).1, b_s (w_seq (w_fbh (m 236) r) A i).2 i (w_nxe (w_fbh (m 236) r) A (w_seq (w_fbh (m 236) r) A i).1)) := rfl
    generalize hV : w_nxe (w_fbh (m 236) r) A (w_seq (w_fbh (m 236) r) A i).1 = v at v1 v2 v3 es he
    generalize hP : (w_seq (w_fbh (m 236) r) A i).1 = P at *
    have osub : ∀ q, P.testBit q = true → A.testBit q = true := fun q hq => o3 q (z_bt10 o1 hq) hq
    have hd1 : w_dif A P ≤ A := w_dif_le
    have vb : (w_dif A P).testBit v = true := by
      unfold w_can1 at v2
      rw [Bool.and_eq_true] at v2
      exact v2.1
    have hvE : v < m 236 3 := z_btE (a := w_dif A P) (by omega) vb
    rw [l_Mo_orders_78, q_Mo_orders_78]
    right
    cases hb : (w_dif A P).testBit e with
    | false =>
      have hne : e ≠ v := fun g => by rw [g, vb] at hb; exact absurd hb (by decide)
      refine ⟨k - 1, 78, [.ref 234, .int (nI r), .int (nI A), .int (nI P), .int (nI (e + 1))], b_h m3 j w, by omega, ⟨i, m3, rfl, hi, hm, hm4, g26, g44, Or.inr ⟨e + 1, rfl, by omega, hi2, by rw [hP, hV]; omega, by rw [hP]⟩⟩, Or.inl ?_⟩
      simp (disch := omega) only [s_Mo_bitOf, b_xor, b_and, w_dif_eq, hb, ↓bc_234, ↓br_234_27, ↓bc_245, ↓bx_245, bl_245, bk_245, ↓br_234_6, ↓bc_236, ↓bx_236, bl_236, ↓br_234_25, ↓bc_244, ↓bx_244, bl_244, ↓b_t0, ↓b_t1, ↓b_t2, ↓b_t3, ↓b_t4, ↓b_t5, ↓b_t6, Nat.zero_add, Nat.le_refl, b_rs, b_rn, b_r2, b_ss, b_sn, b_bt, b_bf, b_b0, b_b1, b_bw, b_shl, b_or, b_iv, b_jv, b_sI, b_sJ, ↓z_hl, z_b0, z_b1, z_b2, b_and1c, b_and1z, if_true, if_false, nI_add, pk_mul, b_cl, b_lt, b_le, b_eq, b_eq0, b_le0, b_0lt, b_0le, b_lt0]
    | true =>
      have hb2 := hb
      rw [w_dif_bt (by omega), Bool.and_eq_true, Bool.not_eq_true'] at hb2
      have hle1 : P ||| 2 ^ e ≤ A := z_sub_le (z_and_sub.mpr (w_sub_or hA1 osub hb2.1))
      have hvT : m3 245 (P ||| 2 ^ e) = b_b (w_lea (w_fbh (m 236) r) A (P ||| 2 ^ e)) := by rw [hm 245 (by omega) (by omega)]; exact h45 _ hle1
      rw [w_lea_or hA1 o1 osub hb] at hvT
      have hc1 : w_can1 (w_fbh (m 236) r) A P e = w_cn (w_fp (w_fbh (m 236) r) (P ||| 2 ^ e)) (w_rm (w_dif A P) e) := by
        unfold w_can1
        rw [hb, Bool.true_and]
      rw [← hc1] at hvT
      by_cases c : e = v
      · subst c
        rw [v2] at hvT
        have hfit : w_fbh (m 236) r e P = true := by
          have := w_cn_each (w_fp_anti (w_fbh_anti hE) o1) 10 (w_dif A P) (by omega) (w_pc_le _) o4 e vb
          unfold w_fp at this
          rwa [Nat.or_zero] at this
        have s1 := s_Mo_fitsBehind (X := X) (tx := tx) (D := d) (m := m3) (j := j) (w := w) (by rw [g6]; exact hS) (by omega) (e := e) (r := r) (S := P) hr0 (by rw [g6]; exact hr) (by omega) (by omega)
        rw [g6, hfit] at s1
        have eq1 : (w_seq (w_fbh (m 236) r) A (i + 1)).1 = P ||| 2 ^ e := by rw [es]
        refine ⟨300 - 20 * (i + 1), 73, [.ref 234, .int (nI r), .int (nI A), .int (nI (P ||| 2 ^ e)), .int (nI e)], b_h (b_r (b_r m3 244 (b_s (m3 244) i e)) 234 (b_s (m3 234) 26 (i + 1))) j w, by omega, ⟨i + 1, _, rfl, by omega, fun c p1 p2 => by rw [b_rn p1, b_rn p2]; exact hm c p1 p2, fun k hk => by rw [b_rs, b_sn hk]; exact hm4 k hk, by rw [b_rs, b_ss], fun n hn => ?_, Or.inl ⟨_, rfl, by omega, by rw [eq1]⟩⟩, Or.inl ?_⟩
        · rw [es, b_rn (by decide), b_rs]
          show _ = b_s (w_seq (w_fbh (m 236) r) A i).2 i e n
          by_cases c5 : n = i
          · rw [c5, b_ss, b_ss]
          · rw [b_sn c5, b_sn c5]; exact g44 n (by omega)
        · simp (disch := omega) only [s_Mo_bitOf, b_xor, b_and, w_dif_eq, hb, hvT, bk_245, true_or, s1, g26, Nat.one_ne_zero, ↓bc_234, ↓br_234_27, ↓bc_245, ↓bx_245, bl_245, bk_245, ↓br_234_6, ↓bc_236, ↓bx_236, bl_236, ↓br_234_25, ↓bc_244, ↓bx_244, bl_244, ↓b_t0, ↓b_t1, ↓b_t2, ↓b_t3, ↓b_t4, ↓b_t5, ↓b_t6, Nat.zero_add, Nat.le_refl, b_rs, b_rn, b_r2, b_ss, b_sn, b_bt, b_bf, b_b0, b_b1, b_bw, b_shl, b_or, b_iv, b_jv, b_sI, b_sJ, ↓z_hl, z_b0, z_b1, z_b2, b_and1c, b_and1z, if_true, if_false, nI_add, pk_mul, b_cl, b_lt, b_le, b_eq, b_eq0, b_le0, b_0lt, b_0le, b_lt0]
      · rw [v3 e (by omega)] at hvT
        refine ⟨k - 1, 78, [.ref 234, .int (nI r), .int (nI A), .int (nI P), .int (nI (e + 1))], b_h m3 j w, by omega, ⟨i, m3, rfl, hi, hm, hm4, g26, g44, Or.inr ⟨e + 1, rfl, by omega, hi2, by rw [hP, hV]; omega, by rw [hP]⟩⟩, Or.inl ?_⟩
        simp (disch := omega) only [s_Mo_bitOf, b_xor, b_and, w_dif_eq, hb, hvT, bk_245, true_or, Nat.one_ne_zero, ↓bc_234, ↓br_234_27, ↓bc_245, ↓bx_245, bl_245, bk_245, ↓br_234_6, ↓bc_236, ↓bx_236, bl_236, ↓br_234_25, ↓bc_244, ↓bx_244, bl_244, ↓b_t0, ↓b_t1, ↓b_t2, ↓b_t3, ↓b_t4, ↓b_t5, ↓b_t6, Nat.zero_add, Nat.le_refl, b_rs, b_rn, b_r2, b_ss, b_sn, b_bt, b_bf, b_b0, b_b1, b_bw, b_shl, b_or, b_iv, b_jv, b_sI, b_sJ, ↓z_hl, z_b0, z_b1, z_b2, b_and1c, b_and1z, if_true, if_false, nI_add, pk_mul, b_cl, b_lt, b_le, b_eq, b_eq0, b_le0, b_0lt, b_0le, b_lt0]
theorem s_Mo_orders (hS : i_S (m 236)) (hD : 4 ≤ D) {r A : Nat} (hr0 : r + 6 ≤ 533) (hr : ∀ k, k < 6 → m 236 (r + k) ≤ 99) (hA : A < 2 ^ m 236 3) (hc : w_cn (w_fbh (m 236) r) A = true) : ∃ m2, a_ex X tx a_T D 265 [.ref 234, .int (nI r), .int (nI A)] (b_h m j w) = some (b_h m2 j w, none) ∧ (∀ c, c ≠ 234 → c ≠ 244 → c ≠ 245 → m2 c = m c) ∧ (∀ k, k ≠ 26 → m2 234 k = m 234 k) ∧ m2 234 26 = w_pc A ∧ ∀ i, i < w_pc A → m2 244 i = (w_seq (w_fbh (m 236) r) A (w_pc A)).2 i := by
  obtain ⟨d, rfl⟩ : ∃ d, D = d + 1 := ⟨D - 1, by omega⟩
  have hE := i_S_E hS
  have hPw : 2 ^ m 236 3 ≤ 1024 := Nat.pow_le_pow_right (n := 2) (by decide) hE
  rw [e_Mo_orders, q_Mo_orders_0, ← l_Mo_orders_2]
  obtain ⟨m2, x, f, hf, e1, g1, g2⟩ := s_Mo_orders2 (X := X) (tx := tx) (d := d) (m := m) (j := j) (w := w) (u4 := .retAddr 0) hS (by omega) hr0 hr hA _ (z_fu (by omega))
  have g6 : (b_r m2 234 (b_s (m2 234) 26 0)) 236 = m 236 := by rw [b_rn (by decide)]; exact g1 236 (by omega)
  obtain ⟨m3, e2, k1, k2, k3, k4⟩ := s_Mo_orders73 (X := X) (tx := tx) (d := d) (m := b_r m2 234 (b_s (m2 234) 26 0)) (j := j) (w := w) (u4 := x) (by rw [g6]; exact hS) (by omega) (r := r) (A := A) hr0 (by rw [g6]; exact hr) (by rw [g6]; exact hA) (by rw [g6]; exact hc) (by rw [b_rs, b_ss]) (by rw [g6, b_rn (by decide)]; exact g2) (f + 1) (by omega)
  rw [g6] at k4
  exact ⟨m3, e1.trans e2, fun c p1 p2 p3 => by rw [k1 c p1 p2, b_rn p1, g1 c (by omega)], fun k hk => by rw [k2 k hk, b_rs, b_sn hk, g1 234 (by omega)], k3, k4⟩
end OH
