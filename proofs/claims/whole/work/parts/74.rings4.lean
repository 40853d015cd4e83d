/-! RINGS: the reference's side -/
section RK
variable {X : Nat × (Nat → Int32)} {tx : List Int32} {D : Nat} {m j : Nat → Nat → Nat} {w : (Nat × Nat) × Bool}
theorem s_Mo_pointsTo (hS : i_S (m 236)) (hI : i_D (m 236)) (hD : 5 ≤ D) {L q : Nat} (hq : q < 6) (hL : L < 64) (h48 : ∀ i, i < 6 → m 248 i = w_br (m 236) i) (hc : ∀ o, o < 6 → L.testBit o = true → w_br (m 236) o ≠ 4294967295) : a_ex X tx a_T D 285 [.ref 234, .int (nI q), .int (nI L)] (b_h m j w) = some ((b_h m j w), some (.int (nI (w_pt (m 236) L q)))) := by
  obtain ⟨d, rfl⟩ : ∃ d, D = d + 1 := ⟨D - 1, by omega⟩
  rw [e_Mo_pointsTo, q_Mo_pointsTo_0]
  have hE := i_S_E hS
  have n1 : (nI 4294967295 < 0) = True := b_lt0n (by decide) (by decide)
  rw [← l_Mo_pointsTo_4]
  refine z_run (Q := fun r => r = some (b_h m j w, some (.int (nI (w_pt (m 236) L q))))) (fun k L2 h => ∃ o, k + o = 6 ∧ L2 = [.ref 234, .int (nI q), .int (nI L), .int (nI (w_favn (m 236) L q o)), .int (nI o)] ∧ h = b_h m j w) 0 ?_ 6 _ _ ⟨0, by omega, rfl, rfl⟩ _ (z_fu (by omega))
  rintro k L2 h ⟨o, hk, rfl, rfl⟩ f _
  rw [l_Mo_pointsTo_4, q_Mo_pointsTo_4]
  by_cases c : o = 6
  · left
    subst c
    simp (disch := omega) only [↓bc_234, ↓br_234_37, ↓bc_248, ↓bx_248, bl_248, ↓b_t0, ↓b_t1, ↓b_t2, ↓b_t3, ↓b_t4, ↓b_t5, ↓b_t6, Nat.zero_add, Nat.le_refl, b_rs, b_rn, b_r2, b_ss, b_sn, b_bt, b_bf, b_b0, b_b1, b_bw, b_shl, b_or, b_iv, b_jv, b_sI, b_sJ, ↓z_hl, z_b0, z_b1, z_b2, b_and1c, b_and1z, if_true, if_false, nI_add, pk_mul, b_cl, b_lt, b_le, b_eq, b_eq0, b_le0, b_0lt, b_0le, b_lt0]
    rfl
  · right
    have hw : w_favn (m 236) L q (o + 1) = if L.testBit o = true ∧ (w_favn (m 236) L q o = 4294967295 ∨ w_like (m 236) q (w_br (m 236) (w_favn (m 236) L q o)) < w_like (m 236) q (w_br (m 236) o) ∨ (w_like (m 236) q (w_br (m 236) o) = w_like (m 236) q (w_br (m 236) (w_favn (m 236) L q o)) ∧ w_br (m 236) o < w_br (m 236) (w_favn (m 236) L q o))) then o else w_favn (m 236) L q o := rfl
    have hlt := w_favn_lt (s := m 236) (L := L) (q := q) o
    have h48o := h48 o (by omega)
    cases ho : L.testBit o with
    | false =>
      have e5 : w_favn (m 236) L q (o + 1) = w_favn (m 236) L q o := by rw [hw, if_neg (fun g => by rw [ho] at g; exact absurd g.1 (by decide))]
      refine ⟨k - 1, [.ref 234, .int (nI q), .int (nI L), .int (nI (w_favn (m 236) L q o)), .int (nI (o + 1))], _, by omega, ⟨o + 1, by omega, by rw [e5], rfl⟩, ?_⟩
      simp (disch := omega) only [s_Mo_bitOf, ho, ↓bc_234, ↓br_234_37, ↓bc_248, ↓bx_248, bl_248, ↓b_t0, ↓b_t1, ↓b_t2, ↓b_t3, ↓b_t4, ↓b_t5, ↓b_t6, Nat.zero_add, Nat.le_refl, b_rs, b_rn, b_r2, b_ss, b_sn, b_bt, b_bf, b_b0, b_b1, b_bw, b_shl, b_or, b_iv, b_jv, b_sI, b_sJ, ↓z_hl, z_b0, z_b1, z_b2, b_and1c, b_and1z, if_true, if_false, nI_add, pk_mul, b_cl, b_lt, b_le, b_eq, b_eq0, b_le0, b_0lt, b_0le, b_lt0]
      rw [if_neg (by omega)]
    | true =>
      have hne := hc o (by omega) ho
      obtain ⟨hbl, hbh⟩ := w_br_lt hne
      have s1 := s_Mo_likesOf (X := X) (tx := tx) (D := d) (m := m) (j := j) (w := w) hS hI (by omega) (q := q) (e := w_br (m 236) o) (by omega) hbl
      have hl54 : w_like (m 236) q (w_br (m 236) o) ≤ 54 := w_liken_le hS (by omega) _
      by_cases c2 : w_favn (m 236) L q o = 4294967295
      · have e5 : w_favn (m 236) L q (o + 1) = o := by rw [hw, if_pos ⟨ho, Or.inl c2⟩]
        refine ⟨k - 1, [.ref 234, .int (nI q), .int (nI L), .int (nI o), .int (nI (o + 1))], _, by omega, ⟨o + 1, by omega, by rw [e5], rfl⟩, ?_⟩
        rw [c2]
        simp (disch := omega) only [s_Mo_bitOf, ho, n1, Nat.one_ne_zero, ↓bc_234, ↓br_234_37, ↓bc_248, ↓bx_248, bl_248, ↓b_t0, ↓b_t1, ↓b_t2, ↓b_t3, ↓b_t4, ↓b_t5, ↓b_t6, Nat.zero_add, Nat.le_refl, b_rs, b_rn, b_r2, b_ss, b_sn, b_bt, b_bf, b_b0, b_b1, b_bw, b_shl, b_or, b_iv, b_jv, b_sI, b_sJ, ↓z_hl, z_b0, z_b1, z_b2, b_and1c, b_and1z, if_true, if_false, nI_add, pk_mul, b_cl, b_lt, b_le, b_eq, b_eq0, b_le0, b_0lt, b_0le, b_lt0]
        rw [if_neg (by omega)]
      · have hlt2 : w_favn (m 236) L q o < o ∧ L.testBit (w_favn (m 236) L q o) = true := by
          rcases hlt with g | g
          · exact absurd g c2
          · exact g
        have h48f := h48 (w_favn (m 236) L q o) (by omega)
        have hnf := hc (w_favn (m 236) L q o) (by omega) hlt2.2
        obtain ⟨hbf, hbf2⟩ := w_br_lt hnf
        have s2 := s_Mo_likesOf (X := X) (tx := tx) (D := d) (m := m) (j := j) (w := w) hS hI (by omega) (q := q) (e := w_br (m 236) (w_favn (m 236) L q o)) (by omega) hbf
        have hl55 : w_like (m 236) q (w_br (m 236) (w_favn (m 236) L q o)) ≤ 54 := w_liken_le hS (by omega) _
        generalize w_favn (m 236) L q o = F at *
        generalize w_br (m 236) F = B at *
        generalize w_br (m 236) o = A at *
        generalize w_like (m 236) q A = P at *
        generalize w_like (m 236) q B = Q at *
        by_cases c3 : Q < P
        · have e5 : w_favn (m 236) L q (o + 1) = o := by rw [hw, if_pos ⟨ho, Or.inr (Or.inl c3)⟩]
          refine ⟨k - 1, [.ref 234, .int (nI q), .int (nI L), .int (nI o), .int (nI (o + 1))], _, by omega, ⟨o + 1, by omega, by rw [e5], rfl⟩, ?_⟩
          simp (disch := omega) only [s_Mo_bitOf, ho, h48o, h48f, s1, s2, Nat.one_ne_zero, ↓bc_234, ↓br_234_37, ↓bc_248, ↓bx_248, bl_248, ↓b_t0, ↓b_t1, ↓b_t2, ↓b_t3, ↓b_t4, ↓b_t5, ↓b_t6, Nat.zero_add, Nat.le_refl, b_rs, b_rn, b_r2, b_ss, b_sn, b_bt, b_bf, b_b0, b_b1, b_bw, b_shl, b_or, b_iv, b_jv, b_sI, b_sJ, ↓z_hl, z_b0, z_b1, z_b2, b_and1c, b_and1z, if_true, if_false, nI_add, pk_mul, b_cl, b_lt, b_le, b_eq, b_eq0, b_le0, b_0lt, b_0le, b_lt0]
          rw [if_neg (by omega), if_pos c3]
        · by_cases c4 : P = Q ∧ A < B
          · have e5 : w_favn (m 236) L q (o + 1) = o := by rw [hw, if_pos ⟨ho, Or.inr (Or.inr c4)⟩]
            refine ⟨k - 1, [.ref 234, .int (nI q), .int (nI L), .int (nI o), .int (nI (o + 1))], _, by omega, ⟨o + 1, by omega, by rw [e5], rfl⟩, ?_⟩
            simp (disch := omega) only [s_Mo_bitOf, ho, h48o, h48f, s1, s2, Nat.one_ne_zero, ↓bc_234, ↓br_234_37, ↓bc_248, ↓bx_248, bl_248, ↓b_t0, ↓b_t1, ↓b_t2, ↓b_t3, ↓b_t4, ↓b_t5, ↓b_t6, Nat.zero_add, Nat.le_refl, b_rs, b_rn, b_r2, b_ss, b_sn, b_bt, b_bf, b_b0, b_b1, b_bw, b_shl, b_or, b_iv, b_jv, b_sI, b_sJ, ↓z_hl, z_b0, z_b1, z_b2, b_and1c, b_and1z, if_true, if_false, nI_add, pk_mul, b_cl, b_lt, b_le, b_eq, b_eq0, b_le0, b_0lt, b_0le, b_lt0]
            rw [if_neg (by omega), if_neg c3, if_pos c4.1, if_neg (by omega)]
          · have e5 : w_favn (m 236) L q (o + 1) = F := by
              rw [hw, if_neg]
              rintro ⟨_, g | g | g⟩
              · exact c2 g
              · exact c3 g
              · exact c4 g
            refine ⟨k - 1, [.ref 234, .int (nI q), .int (nI L), .int (nI F), .int (nI (o + 1))], _, by omega, ⟨o + 1, by omega, by rw [e5], rfl⟩, ?_⟩
            simp (disch := omega) only [s_Mo_bitOf, ho, h48o, h48f, s1, s2, Nat.one_ne_zero, ↓bc_234, ↓br_234_37, ↓bc_248, ↓bx_248, bl_248, ↓b_t0, ↓b_t1, ↓b_t2, ↓b_t3, ↓b_t4, ↓b_t5, ↓b_t6, Nat.zero_add, Nat.le_refl, b_rs, b_rn, b_r2, b_ss, b_sn, b_bt, b_bf, b_b0, b_b1, b_bw, b_shl, b_or, b_iv, b_jv, b_sI, b_sJ, ↓z_hl, z_b0, z_b1, z_b2, b_and1c, b_and1z, if_true, if_false, nI_add, pk_mul, b_cl, b_lt, b_le, b_eq, b_eq0, b_le0, b_0lt, b_0le, b_lt0]
            rw [if_neg (by omega), if_neg c3]
            by_cases c5 : P = Q
            · rw [if_pos c5, if_pos (by omega)]
            · rw [if_neg c5]
theorem s_Mo_comesBack {s : Nat → Nat} (hD : 1 ≤ D) {L q : Nat} (hq : q < 6) (hb : L.testBit q = true) (h50 : ∀ i, i < 6 → L.testBit i = true → m 250 i = w_pt s L i) : a_ex X tx a_T D 286 [.ref 234, .int (nI q)] (b_h m j w) = some ((b_h m j w), some (.int (nI (b_b (decide (w_at (w_pt s L) q 6 = q)))))) := by
  obtain ⟨d, rfl⟩ : ∃ d, D = d + 1 := ⟨D - 1, by omega⟩
  rw [e_Mo_comesBack, q_Mo_comesBack_0]
  have hin := w_at_in (f := w_pt s L) hq hb (fun q g1 g2 => w_pt_in g2 g1)
  have h0 := h50 q hq hb
  have hp := (w_pt_in (s := s) (q := q) hb hq).1
  simp (disch := omega) only [h0, ↓bc_234, ↓br_234_39, ↓bc_250, ↓bx_250, bl_250, ↓b_t0, ↓b_t1, ↓b_t2, ↓b_t3, ↓b_t4, ↓b_t5, ↓b_t6, Nat.zero_add, Nat.le_refl, b_rs, b_rn, b_r2, b_ss, b_sn, b_bt, b_bf, b_b0, b_b1, b_bw, b_shl, b_or, b_iv, b_jv, b_sI, b_sJ, ↓z_hl, z_b0, z_b1, z_b2, b_and1c, b_and1z, if_true, if_false, nI_add, pk_mul, b_cl, b_lt, b_le, b_eq, b_eq0, b_le0, b_0lt, b_0le, b_lt0]
  rw [← l_Mo_comesBack_7]
  refine z_run (Q := fun r => r = some (b_h m j w, some (.int (nI (b_b (decide (w_at (w_pt s L) q 6 = q))))))) (fun k L2 h => ∃ i, k + i = 6 ∧ L2 = [.ref 234, .int (nI q), .int (nI (w_at (w_pt s L) q i)), .int (nI i)] ∧ h = b_h m j w) 0 ?_ 6 _ _ ⟨0, by omega, rfl, rfl⟩ _ (z_fu (by omega))
  rintro k L2 h ⟨i, hk, rfl, rfl⟩ f _
  rw [l_Mo_comesBack_7, q_Mo_comesBack_7]
  obtain ⟨h1, h2⟩ := hin i
  by_cases c2 : w_at (w_pt s L) q i = q
  · left
    rw [w_at_6 (by omega) c2, decide_eq_true rfl, c2]
    by_cases c : i = 6
    · subst c
      simp (disch := omega) only [↓bc_234, ↓br_234_39, ↓bc_250, ↓bx_250, bl_250, ↓b_t0, ↓b_t1, ↓b_t2, ↓b_t3, ↓b_t4, ↓b_t5, ↓b_t6, Nat.zero_add, Nat.le_refl, b_rs, b_rn, b_r2, b_ss, b_sn, b_bt, b_bf, b_b0, b_b1, b_bw, b_shl, b_or, b_iv, b_jv, b_sI, b_sJ, ↓z_hl, z_b0, z_b1, z_b2, b_and1c, b_and1z, if_true, if_false, nI_add, pk_mul, b_cl, b_lt, b_le, b_eq, b_eq0, b_le0, b_0lt, b_0le, b_lt0]
    · simp (disch := omega) only [↓bc_234, ↓br_234_39, ↓bc_250, ↓bx_250, bl_250, ↓b_t0, ↓b_t1, ↓b_t2, ↓b_t3, ↓b_t4, ↓b_t5, ↓b_t6, Nat.zero_add, Nat.le_refl, b_rs, b_rn, b_r2, b_ss, b_sn, b_bt, b_bf, b_b0, b_b1, b_bw, b_shl, b_or, b_iv, b_jv, b_sI, b_sJ, ↓z_hl, z_b0, z_b1, z_b2, b_and1c, b_and1z, if_true, if_false, nI_add, pk_mul, b_cl, b_lt, b_le, b_eq, b_eq0, b_le0, b_0lt, b_0le, b_lt0]
      rw [if_neg (by omega)]
  · by_cases c : i = 6
    · left
      subst c
      rw [decide_eq_false c2]
      simp (disch := omega) only [↓bc_234, ↓br_234_39, ↓bc_250, ↓bx_250, bl_250, ↓b_t0, ↓b_t1, ↓b_t2, ↓b_t3, ↓b_t4, ↓b_t5, ↓b_t6, Nat.zero_add, Nat.le_refl, b_rs, b_rn, b_r2, b_ss, b_sn, b_bt, b_bf, b_b0, b_b1, b_bw, b_shl, b_or, b_iv, b_jv, b_sI, b_sJ, ↓z_hl, z_b0, z_b1, z_b2, b_and1c, b_and1z, if_true, if_false, nI_add, pk_mul, b_cl, b_lt, b_le, b_eq, b_eq0, b_le0, b_0lt, b_0le, b_lt0]
      rw [if_neg c2]
    · right
      have e1 : w_at (w_pt s L) q (i + 1) = w_pt s L (w_at (w_pt s L) q i) := by
        show (if w_at (w_pt s L) q i = q then q else w_pt s L (w_at (w_pt s L) q i)) = _
        rw [if_neg c2]
      have h4 := h50 _ h1 h2
      refine ⟨k - 1, [.ref 234, .int (nI q), .int (nI (w_pt s L (w_at (w_pt s L) q i))), .int (nI (i + 1))], _, by omega, ⟨i + 1, by omega, by rw [e1], rfl⟩, ?_⟩
      simp (disch := omega) only [h4, ↓bc_234, ↓br_234_39, ↓bc_250, ↓bx_250, bl_250, ↓b_t0, ↓b_t1, ↓b_t2, ↓b_t3, ↓b_t4, ↓b_t5, ↓b_t6, Nat.zero_add, Nat.le_refl, b_rs, b_rn, b_r2, b_ss, b_sn, b_bt, b_bf, b_b0, b_b1, b_bw, b_shl, b_or, b_iv, b_jv, b_sI, b_sJ, ↓z_hl, z_b0, z_b1, z_b2, b_and1c, b_and1z, if_true, if_false, nI_add, pk_mul, b_cl, b_lt, b_le, b_eq, b_eq0, b_le0, b_0lt, b_0le, b_lt0]
      rw [if_neg (by omega), if_neg c2]
theorem s_Mo_rings4 {d : Nat} {u3 : Value} (hS : i_S (m 236)) (hI : i_D (m 236)) : ∀ f, 2000 + 500 < f → ∃ m2 x y f2, 2000 ≤ f2 ∧ a_go X tx (a_ex X tx a_T d) k_Mo_rings_0 f 4 [.ref 234, .int (nI 0), .int (nI 0), u3] (b_h m j w) = a_go X tx (a_ex X tx a_T d) k_Mo_rings_0 (f2 + 1) 62 [.ref 234, .int (nI (w_l0 (m 236))), .int (nI y), x] (b_h m2 j w) ∧ z_fr 248 249 m m2 ∧ (∀ q, q < 6 → m2 248 q = w_br (m 236) q) ∧ ∀ q, q < 6 → m2 249 q = 4294967295 := by
  have hM := i_S_M hS
  have hE := i_S_E hS
  have n1 : (nI 4294967295 < 0) = True := b_lt0n (by decide) (by decide)
  intro f0 hf0
  refine z_runT (Q := fun r => ∃ m2 x y f2, 2000 ≤ f2 ∧ r = a_go X tx (a_ex X tx a_T d) k_Mo_rings_0 (f2 + 1) 62 [.ref 234, .int (nI (w_l0 (m 236))), .int (nI y), x] (b_h m2 j w) ∧ z_fr 248 249 m m2 ∧ (∀ q, q < 6 → m2 248 q = w_br (m 236) q) ∧ ∀ q, q < 6 → m2 249 q = 4294967295) (fun k c L h => ∃ q m3, h = b_h m3 j w ∧ z_fr 248 249 m m3 ∧ (∀ i, i < q → m3 248 i = w_br (m 236) i) ∧ (∀ i, i < q → m3 249 i = 4294967295) ∧
    ((∃ x, c = 4 ∧ k + 30 * q = 400 ∧ q ≤ 6 ∧ L = [.ref 234, .int (nI (z_set (fun q => decide (w_br (m 236) q ≠ 4294967295)) q)), .int (nI q), x]) ∨
     (∃ n, c = 24 ∧ k + 30 * q + (m 236 3 - n) + 1 = 400 ∧ q < 6 ∧ n ≤ m 236 3 ∧ L = [.ref 234, .int (nI (z_set (fun q => decide (w_br (m 236) q ≠ 4294967295)) q)), .int (nI q), .int (nI (w_pd n))] ∧ m3 249 q = 4294967295 ∧ m3 248 q = w_bra (m 236) q (m 236 3 - n)))) 2000 ?_ 400 4 _ _ ⟨0, m, rfl, z_fr_rf, fun i hi => absurd hi (Nat.not_lt_zero i), fun i hi => absurd hi (Nat.not_lt_zero i), Or.inl ⟨u3, rfl, by omega, by omega, rfl⟩⟩ f0 (by omega)
  rintro k c L h ⟨q, m3, rfl, hm, h48, h49, ⟨x, rfl, hk, hq, rfl⟩ | ⟨n, rfl, hk, hq, hn, rfl, h9q, h8q⟩⟩ f hf
  · have g6 : m3 236 = m 236 := hm 236 (by omega)
    have e3 : m3 236 3 = m 236 3 := by rw [g6]
    rw [l_Mo_rings_4, q_Mo_rings_4]
    by_cases c : q = 6
    · left
      subst c
      refine ⟨m3, x, 6, f, hf, ?_, hm, h48, h49⟩
      rw [l_Mo_rings_62]
      simp (disch := omega) only [↓bc_234, ↓br_234_38, ↓bc_249, ↓bx_249, bl_249, ↓br_234_37, ↓bc_248, ↓bx_248, bl_248, ↓br_234_6, ↓bc_236, ↓bx_236, bl_236, ↓br_234_39, ↓bc_250, ↓bx_250, bl_250, ↓b_t0, ↓b_t1, ↓b_t2, ↓b_t3, ↓b_t4, ↓b_t5, ↓b_t6, Nat.zero_add, Nat.le_refl, b_rs, b_rn, b_r2, b_ss, b_sn, b_bt, b_bf, b_b0, b_b1, b_bw, b_shl, b_or, b_iv, b_jv, b_sI, b_sJ, ↓z_hl, z_b0, z_b1, z_b2, b_and1c, b_and1z, if_true, if_false, nI_add, pk_mul, b_cl, b_lt, b_le, b_eq, b_eq0, b_le0, b_0lt, b_0le, b_lt0]
      rfl
    · right
      refine ⟨k - 1, 24, [.ref 234, .int (nI (z_set (fun q => decide (w_br (m 236) q ≠ 4294967295)) q)), .int (nI q), .int (nI (w_pd (m 236 3)))], b_h (b_r (b_r m3 249 (b_s (m3 249) q 4294967295)) 248 (b_s (m3 248) q 4294967295)) j w, by omega, ⟨q, _, rfl, z_fr_r (z_fr_r hm (by omega)) (by omega), fun i hi => ?_, fun i hi => ?_, Or.inr ⟨m 236 3, rfl, by omega, by omega, Nat.le_refl _, rfl, ?_, ?_⟩⟩, Or.inr ?_⟩
      · rw [b_rs, b_sn (by omega)]; exact h48 i hi
      · rw [b_rn (by decide), b_rs, b_sn (by omega)]; exact h49 i hi
      · rw [b_rn (by decide), b_rs, b_ss]
      · rw [b_rs, b_ss, Nat.sub_self]; rfl
      · rw [l_Mo_rings_24]
        have x3 : (b_r (b_r m3 249 (b_s (m3 249) q 4294967295)) 248 (b_s (m3 248) q 4294967295)) 236 3 = m 236 3 := by rw [b_rn (by decide), b_rn (by decide), g6]
        simp (disch := omega) only [e3, x3, b_pd2 (n := m 236 3), ↓bc_234, ↓br_234_38, ↓bc_249, ↓bx_249, bl_249, ↓br_234_37, ↓bc_248, ↓bx_248, bl_248, ↓br_234_6, ↓bc_236, ↓bx_236, bl_236, ↓br_234_39, ↓bc_250, ↓bx_250, bl_250, ↓b_t0, ↓b_t1, ↓b_t2, ↓b_t3, ↓b_t4, ↓b_t5, ↓b_t6, Nat.zero_add, Nat.le_refl, b_rs, b_rn, b_r2, b_ss, b_sn, b_bt, b_bf, b_b0, b_b1, b_bw, b_shl, b_or, b_iv, b_jv, b_sI, b_sJ, ↓z_hl, z_b0, z_b1, z_b2, b_and1c, b_and1z, if_true, if_false, nI_add, pk_mul, b_cl, b_lt, b_le, b_eq, b_eq0, b_le0, b_0lt, b_0le, b_lt0]
        rw [if_neg (by omega)]
  · have g6 : m3 236 = m 236 := hm 236 (by omega)
    have e1 : m3 236 1 = m 236 1 := by rw [g6]
    have hz := z_set_lt (fun q => decide (w_br (m 236) q ≠ 4294967295)) q
    have hp2 : 2 ^ q ≤ 2 ^ 6 := Nat.pow_le_pow_right (by decide) (by omega)
    have all9 : ∀ i, i < q + 1 → m3 249 i = 4294967295 := fun i hi => by
      by_cases c2 : i = q
      · rw [c2, h9q]
      · exact h49 i (by omega)
    have fin : ∀ y, m3 248 q = w_br (m 236) q → a_rn X tx (a_ex X tx a_T d) (a_go X tx (a_ex X tx a_T d) k_Mo_rings_0 f) k_Mo_rings_47 0 [.ref 234, .int (nI (z_set (fun q => decide (w_br (m 236) q ≠ 4294967295)) q)), .int (nI q), .int (nI y)] [] (b_h m3 j w) = a_go X tx (a_ex X tx a_T d) k_Mo_rings_0 f 4 [.ref 234, .int (nI (z_set (fun q => decide (w_br (m 236) q ≠ 4294967295)) (q + 1))), .int (nI (q + 1)), .int (nI y)] (b_h m3 j w) := fun y h8 => by
      rw [q_Mo_rings_47]
      by_cases c : w_br (m 236) q = 4294967295
      · have hz2 : z_set (fun q => decide (w_br (m 236) q ≠ 4294967295)) (q + 1) = z_set (fun q => decide (w_br (m 236) q ≠ 4294967295)) q := z_set_f (decide_eq_false (fun g => g c))
        rw [c] at h8
        rw [hz2]
        simp (disch := omega) only [h8, n1, Nat.or_zero, ↓bc_234, ↓br_234_38, ↓bc_249, ↓bx_249, bl_249, ↓br_234_37, ↓bc_248, ↓bx_248, bl_248, ↓br_234_6, ↓bc_236, ↓bx_236, bl_236, ↓br_234_39, ↓bc_250, ↓bx_250, bl_250, ↓b_t0, ↓b_t1, ↓b_t2, ↓b_t3, ↓b_t4, ↓b_t5, ↓b_t6, Nat.zero_add, Nat.le_refl, b_rs, b_rn, b_r2, b_ss, b_sn, b_bt, b_bf, b_b0, b_b1, b_bw, b_shl, b_or, b_iv, b_jv, b_sI, b_sJ, ↓z_hl, z_b0, z_b1, z_b2, b_and1c, b_and1z, if_true, if_false, nI_add, pk_mul, b_cl, b_lt, b_le, b_eq, b_eq0, b_le0, b_0lt, b_0le, b_lt0]
      · have hz2 : z_set (fun q => decide (w_br (m 236) q ≠ 4294967295)) (q + 1) = z_set (fun q => decide (w_br (m 236) q ≠ 4294967295)) q ||| 2 ^ q := z_set_t (decide_eq_true c)
        have hbl := (w_br_lt c).1
        rw [hz2]
        simp (disch := omega) only [h8, ↓bc_234, ↓br_234_38, ↓bc_249, ↓bx_249, bl_249, ↓br_234_37, ↓bc_248, ↓bx_248, bl_248, ↓br_234_6, ↓bc_236, ↓bx_236, bl_236, ↓br_234_39, ↓bc_250, ↓bx_250, bl_250, ↓b_t0, ↓b_t1, ↓b_t2, ↓b_t3, ↓b_t4, ↓b_t5, ↓b_t6, Nat.zero_add, Nat.le_refl, b_rs, b_rn, b_r2, b_ss, b_sn, b_bt, b_bf, b_b0, b_b1, b_bw, b_shl, b_or, b_iv, b_jv, b_sI, b_sJ, ↓z_hl, z_b0, z_b1, z_b2, b_and1c, b_and1z, if_true, if_false, nI_add, pk_mul, b_cl, b_lt, b_le, b_eq, b_eq0, b_le0, b_0lt, b_0le, b_lt0]
    have all8 : m3 248 q = w_br (m 236) q → ∀ i, i < q + 1 → m3 248 i = w_br (m 236) i := fun h8 i hi => by
      by_cases c2 : i = q
      · rw [c2, h8]
      · exact h48 i (by omega)
    rw [l_Mo_rings_24, q_Mo_rings_24]
    right
    by_cases c : n = 0
    · subst c
      have h8 : m3 248 q = w_br (m 236) q := by rw [h8q, Nat.sub_zero]; rfl
      refine ⟨400 - 30 * (q + 1), 4, [.ref 234, .int (nI (z_set (fun q => decide (w_br (m 236) q ≠ 4294967295)) (q + 1))), .int (nI (q + 1)), .int (nI 4294967295)], b_h m3 j w, by omega, ⟨q + 1, m3, rfl, hm, all8 h8, all9, Or.inl ⟨_, rfl, by omega, by omega, rfl⟩⟩, Or.inl ?_⟩
      rw [show w_pd 0 = 4294967295 from rfl, if_pos (by rw [n1]; trivial)]
      exact fin 4294967295 h8
    · obtain ⟨e, rfl⟩ : ∃ e, n = e + 1 := ⟨n - 1, by omega⟩
      have p1 : w_pd (e + 1) = e := rfl
      rw [p1]
      by_cases c2 : q < m 236 1
      · have hw : w_bra (m 236) q (m 236 3 - e) = if m 236 (241 + e) = q then e else w_bra (m 236) q (m 236 3 - (e + 1)) := by
          have h1 : w_bra (m 236) q (m 236 3 - (e + 1) + 1) = if m 236 (241 + (m 236 3 - (m 236 3 - (e + 1) + 1))) = q then m 236 3 - (m 236 3 - (e + 1) + 1) else w_bra (m 236) q (m 236 3 - (e + 1)) := rfl
          rw [show m 236 3 - (m 236 3 - (e + 1) + 1) = e by omega, show m 236 3 - (e + 1) + 1 = m 236 3 - e by omega] at h1
          exact h1
        have hl := i_hlt hS hI (e := e) (by omega)
        have e5 : m3 236 (241 + e) = m 236 (241 + e) := by rw [g6]
        have x1 : nI e + nI 4294967295 = nI (w_pd e) := b_pd (by omega)
        have x2 : nI (e + 4294967295) = nI (w_pd e) := by rw [← x1, nI_add]
        by_cases c3 : m 236 (241 + e) = q
        · rw [if_pos c3] at hw
          refine ⟨k - 1, 24, [.ref 234, .int (nI (z_set (fun q => decide (w_br (m 236) q ≠ 4294967295)) q)), .int (nI q), .int (nI (w_pd e))], b_h (b_r m3 248 (b_s (m3 248) q e)) j w, by omega, ⟨q, _, rfl, z_fr_r hm (by omega), fun i hi => ?_, fun i hi => ?_, Or.inr ⟨e, rfl, by omega, by omega, by omega, rfl, ?_, ?_⟩⟩, Or.inl ?_⟩
          · rw [b_rs, b_sn (by omega)]; exact h48 i hi
          · rw [b_rn (by decide)]; exact h49 i hi
          · rw [b_rn (by decide)]; exact h9q
          · rw [b_rs, b_ss, hw]
          · simp (disch := omega) only [e1, e5, x1, x2, ↓bc_234, ↓br_234_38, ↓bc_249, ↓bx_249, bl_249, ↓br_234_37, ↓bc_248, ↓bx_248, bl_248, ↓br_234_6, ↓bc_236, ↓bx_236, bl_236, ↓br_234_39, ↓bc_250, ↓bx_250, bl_250, ↓b_t0, ↓b_t1, ↓b_t2, ↓b_t3, ↓b_t4, ↓b_t5, ↓b_t6, Nat.zero_add, Nat.le_refl, b_rs, b_rn, b_r2, b_ss, b_sn, b_bt, b_bf, b_b0, b_b1, b_bw, b_shl, b_or, b_iv, b_jv, b_sI, b_sJ, ↓z_hl, z_b0, z_b1, z_b2, b_and1c, b_and1z, if_true, if_false, nI_add, pk_mul, b_cl, b_lt, b_le, b_eq, b_eq0, b_le0, b_0lt, b_0le, b_lt0]
            rw [if_neg (show ¬ m 236 1 ≤ q by omega), if_pos c3]
        · rw [if_neg c3] at hw
          refine ⟨k - 1, 24, [.ref 234, .int (nI (z_set (fun q => decide (w_br (m 236) q ≠ 4294967295)) q)), .int (nI q), .int (nI (w_pd e))], b_h m3 j w, by omega, ⟨q, m3, rfl, hm, h48, h49, Or.inr ⟨e, rfl, by omega, by omega, by omega, rfl, h9q, by rw [h8q, hw]⟩⟩, Or.inl ?_⟩
          simp (disch := omega) only [e1, e5, x1, x2, ↓bc_234, ↓br_234_38, ↓bc_249, ↓bx_249, bl_249, ↓br_234_37, ↓bc_248, ↓bx_248, bl_248, ↓br_234_6, ↓bc_236, ↓bx_236, bl_236, ↓br_234_39, ↓bc_250, ↓bx_250, bl_250, ↓b_t0, ↓b_t1, ↓b_t2, ↓b_t3, ↓b_t4, ↓b_t5, ↓b_t6, Nat.zero_add, Nat.le_refl, b_rs, b_rn, b_r2, b_ss, b_sn, b_bt, b_bf, b_b0, b_b1, b_bw, b_shl, b_or, b_iv, b_jv, b_sI, b_sJ, ↓z_hl, z_b0, z_b1, z_b2, b_and1c, b_and1z, if_true, if_false, nI_add, pk_mul, b_cl, b_lt, b_le, b_eq, b_eq0, b_le0, b_0lt, b_0le, b_lt0]
          rw [if_neg (show ¬ m 236 1 ≤ q by omega), if_neg c3]
      · have hb : ∀ e, e < m 236 3 → m 236 (241 + e) ≠ q := fun e he g => by
          have := i_D_ha hI e he
          omega
        have hbq : w_br (m 236) q = 4294967295 := w_br_none hE hb
        have h8 : w_bra (m 236) q (m 236 3 - (e + 1)) = 4294967295 := by
          rcases w_bra_spec (s := m 236) (q := q) (m 236 3 - (e + 1)) (by omega) with ⟨g, _⟩ | ⟨_, g2, g3, _⟩
          · exact g
          · exact absurd g3 (hb _ g2)
        have h88 : m3 248 q = w_br (m 236) q := by rw [h8q, h8, hbq]
        refine ⟨400 - 30 * (q + 1), 4, [.ref 234, .int (nI (z_set (fun q => decide (w_br (m 236) q ≠ 4294967295)) (q + 1))), .int (nI (q + 1)), .int (nI e)], b_h m3 j w, by omega, ⟨q + 1, m3, rfl, hm, all8 h88, all9, Or.inl ⟨_, rfl, by omega, by omega, rfl⟩⟩, Or.inl ?_⟩
        rw [← fin e h88]
        simp (disch := omega) only [e1, ↓bc_234, ↓br_234_38, ↓bc_249, ↓bx_249, bl_249, ↓br_234_37, ↓bc_248, ↓bx_248, bl_248, ↓br_234_6, ↓bc_236, ↓bx_236, bl_236, ↓br_234_39, ↓bc_250, ↓bx_250, bl_250, ↓b_t0, ↓b_t1, ↓b_t2, ↓b_t3, ↓b_t4, ↓b_t5, ↓b_t6, Nat.zero_add, Nat.le_refl, b_rs, b_rn, b_r2, b_ss, b_sn, b_bt, b_bf, b_b0, b_b1, b_bw, b_shl, b_or, b_iv, b_jv, b_sI, b_sJ, ↓z_hl, z_b0, z_b1, z_b2, b_and1c, b_and1z, if_true, if_false, nI_add, pk_mul, b_cl, b_lt, b_le, b_eq, b_eq0, b_le0, b_0lt, b_0le, b_lt0]
        rw [if_pos (show m 236 1 ≤ q by omega)]
theorem s_Mo_rings62 {d : Nat} {u3 : Value} {y : Nat} (hS : i_S (m 236)) (hI : i_D (m 236)) (hd : 5 ≤ d) (h48 : ∀ q, q < 6 → m 248 q = w_br (m 236) q) (h49 : ∀ q, q < 6 → m 249 q = 4294967295) : ∀ f, 0 + 400 < f → ∃ m2, a_go X tx (a_ex X tx a_T d) k_Mo_rings_0 f 62 [.ref 234, .int (nI (w_l0 (m 236))), .int (nI y), u3] (b_h m j w) = some (b_h m2 j w, none) ∧ z_fr 248 250 m m2 ∧ (∀ q, q < 6 → m2 248 q = w_br (m 236) q) ∧ ∀ q, q < 6 → m2 249 q = (w_rd (m 236) 6).2 q := by
  have hE := i_S_E hS
  have pc0 := w_pc_le6 _ (w_rd_lt (s := m 236) 0)
  intro f0 hf0
  refine z_runT (Q := fun r => ∃ m2, r = some (b_h m2 j w, none) ∧ z_fr 248 250 m m2 ∧ (∀ q, q < 6 → m2 248 q = w_br (m 236) q) ∧ ∀ q, q < 6 → m2 249 q = (w_rd (m 236) 6).2 q) (fun k c L h => ∃ n m3, h = b_h m3 j w ∧ n ≤ 6 ∧ z_fr 248 250 m m3 ∧ (∀ q, q < 6 → m3 248 q = w_br (m 236) q) ∧
    ((∃ y x, c = 62 ∧ k = 60 * w_pc (w_rd (m 236) n).1 ∧ L = [.ref 234, .int (nI (w_rd (m 236) n).1), .int (nI y), x] ∧ ∀ q, q < 6 → m3 249 q = (w_rd (m 236) n).2 q) ∨
     (∃ q x, c = 66 ∧ k + 1 + q = 60 * w_pc (w_rd (m 236) n).1 ∧ (w_rd (m 236) n).1 ≠ 0 ∧ q ≤ 6 ∧ L = [.ref 234, .int (nI (w_rd (m 236) n).1), .int (nI q), x] ∧ (∀ q, q < 6 → m3 249 q = (w_rd (m 236) n).2 q) ∧ ∀ i, i < q → ((w_rd (m 236) n).1).testBit i = true → m3 250 i = w_pt (m 236) (w_rd (m 236) n).1 i) ∨
     (∃ q, c = 87 ∧ k + 10 + q = 60 * w_pc (w_rd (m 236) n).1 ∧ (w_rd (m 236) n).1 ≠ 0 ∧ q ≤ 6 ∧ L = [.ref 234, .int (nI (w_rd (m 236) n).1), .int (nI (z_set (fun q => ((w_rd (m 236) n).1).testBit q && decide (w_at (w_pt (m 236) (w_rd (m 236) n).1) q 6 = q)) q)), .int (nI q)] ∧ (∀ q, q < 6 → m3 249 q = (w_rd (m 236) n).2 q) ∧ ∀ i, i < 6 → ((w_rd (m 236) n).1).testBit i = true → m3 250 i = w_pt (m 236) (w_rd (m 236) n).1 i) ∨
     (∃ q, c = 108 ∧ k + 20 + q = 60 * w_pc (w_rd (m 236) n).1 ∧ (w_rd (m 236) n).1 ≠ 0 ∧ q ≤ 6 ∧ L = [.ref 234, .int (nI (w_rd (m 236) n).1), .int (nI (w_rg (m 236) (w_rd (m 236) n).1)), .int (nI q)] ∧ (∀ i, i < 6 → m3 249 i = if i < q then (w_rd (m 236) (n + 1)).2 i else (w_rd (m 236) n).2 i) ∧ ∀ i, i < 6 → ((w_rd (m 236) n).1).testBit i = true → m3 250 i = w_pt (m 236) (w_rd (m 236) n).1 i))) 0 ?_ (60 * w_pc (w_rd (m 236) 0).1) 62 _ _ ⟨0, m, rfl, by omega, z_fr_rf, h48, Or.inl ⟨y, u3, rfl, rfl, rfl, h49⟩⟩ f0 (by omega)
  rintro k c L h ⟨n, m3, rfl, hn, hm, g48, ⟨y, x, rfl, hk, rfl, g49⟩ | ⟨q, x, rfl, hk, hne, hq, rfl, g49, g50⟩ | ⟨q, rfl, hk, hne, hq, rfl, g49, g50⟩ | ⟨q, rfl, hk, hne, hq, rfl, g49, g50⟩⟩ f hf
  all_goals have g6 : m3 236 = m 236 := hm 236 (by omega)
  all_goals have hlt := w_rd_lt (s := m 236) n
  · rw [l_Mo_rings_62, q_Mo_rings_62]
    by_cases c : (w_rd (m 236) n).1 = 0
    · left
      refine ⟨m3, ?_, hm, g48, fun q hq => by rw [w_rd_last hn c]; exact g49 q hq⟩
      rw [c]
      simp (disch := omega) only [↓bc_234, ↓br_234_38, ↓bc_249, ↓bx_249, bl_249, ↓br_234_37, ↓bc_248, ↓bx_248, bl_248, ↓br_234_6, ↓bc_236, ↓bx_236, bl_236, ↓br_234_39, ↓bc_250, ↓bx_250, bl_250, ↓b_t0, ↓b_t1, ↓b_t2, ↓b_t3, ↓b_t4, ↓b_t5, ↓b_t6, Nat.zero_add, Nat.le_refl, b_rs, b_rn, b_r2, b_ss, b_sn, b_bt, b_bf, b_b0, b_b1, b_bw, b_shl, b_or, b_iv, b_jv, b_sI, b_sJ, ↓z_hl, z_b0, z_b1, z_b2, b_and1c, b_and1z, if_true, if_false, nI_add, pk_mul, b_cl, b_lt, b_le, b_eq, b_eq0, b_le0, b_0lt, b_0le, b_lt0]
    · right
      have hp : w_pc (w_rd (m 236) n).1 ≠ 0 := fun g => c (w_pc_0 _ (by omega) g)
      refine ⟨k - 1, 66, [.ref 234, .int (nI (w_rd (m 236) n).1), .int (nI 0), x], b_h m3 j w, by omega, ⟨n, m3, rfl, hn, hm, g48, Or.inr (Or.inl ⟨0, x, rfl, by omega, c, by omega, rfl, g49, fun i hi => absurd hi (Nat.not_lt_zero i)⟩)⟩, Or.inr ?_⟩
      rw [l_Mo_rings_66]
      simp (disch := omega) only [↓bc_234, ↓br_234_38, ↓bc_249, ↓bx_249, bl_249, ↓br_234_37, ↓bc_248, ↓bx_248, bl_248, ↓br_234_6, ↓bc_236, ↓bx_236, bl_236, ↓br_234_39, ↓bc_250, ↓bx_250, bl_250, ↓b_t0, ↓b_t1, ↓b_t2, ↓b_t3, ↓b_t4, ↓b_t5, ↓b_t6, Nat.zero_add, Nat.le_refl, b_rs, b_rn, b_r2, b_ss, b_sn, b_bt, b_bf, b_b0, b_b1, b_bw, b_shl, b_or, b_iv, b_jv, b_sI, b_sJ, ↓z_hl, z_b0, z_b1, z_b2, b_and1c, b_and1z, if_true, if_false, nI_add, pk_mul, b_cl, b_lt, b_le, b_eq, b_eq0, b_le0, b_0lt, b_0le, b_lt0]
      rw [if_neg c]
  · have hp : w_pc (w_rd (m 236) n).1 ≠ 0 := fun g => hne (w_pc_0 _ (by omega) g)
    have hc : ∀ o, o < 6 → ((w_rd (m 236) n).1).testBit o = true → w_br (m 236) o ≠ 4294967295 := fun o _ ho => (w_l0_bit (w_rd_sub n ho)).2
    rw [l_Mo_rings_66, q_Mo_rings_66]
    right
    by_cases c : q = 6
    · subst c
      refine ⟨k - 3, 87, [.ref 234, .int (nI (w_rd (m 236) n).1), .int (nI 0), .int (nI 0)], b_h m3 j w, by omega, ⟨n, m3, rfl, hn, hm, g48, Or.inr (Or.inr (Or.inl ⟨0, rfl, by omega, hne, by omega, rfl, g49, g50⟩))⟩, Or.inr ?_⟩
      rw [l_Mo_rings_87]
      simp (disch := omega) only [↓bc_234, ↓br_234_38, ↓bc_249, ↓bx_249, bl_249, ↓br_234_37, ↓bc_248, ↓bx_248, bl_248, ↓br_234_6, ↓bc_236, ↓bx_236, bl_236, ↓br_234_39, ↓bc_250, ↓bx_250, bl_250, ↓b_t0, ↓b_t1, ↓b_t2, ↓b_t3, ↓b_t4, ↓b_t5, ↓b_t6, Nat.zero_add, Nat.le_refl, b_rs, b_rn, b_r2, b_ss, b_sn, b_bt, b_bf, b_b0, b_b1, b_bw, b_shl, b_or, b_iv, b_jv, b_sI, b_sJ, ↓z_hl, z_b0, z_b1, z_b2, b_and1c, b_and1z, if_true, if_false, nI_add, pk_mul, b_cl, b_lt, b_le, b_eq, b_eq0, b_le0, b_0lt, b_0le, b_lt0]
    · cases hb : ((w_rd (m 236) n).1).testBit q with
      | false =>
        refine ⟨k - 1, 66, [.ref 234, .int (nI (w_rd (m 236) n).1), .int (nI (q + 1)), x], b_h m3 j w, by omega, ⟨n, m3, rfl, hn, hm, g48, Or.inr (Or.inl ⟨q + 1, x, rfl, by omega, hne, by omega, rfl, g49, fun i hi h2 => ?_⟩)⟩, Or.inl ?_⟩
        · by_cases c2 : i = q
          · rw [c2, hb] at h2; exact absurd h2 (by decide)
          · exact g50 i (by omega) h2
        · simp (disch := omega) only [s_Mo_bitOf, hb, ↓bc_234, ↓br_234_38, ↓bc_249, ↓bx_249, bl_249, ↓br_234_37, ↓bc_248, ↓bx_248, bl_248, ↓br_234_6, ↓bc_236, ↓bx_236, bl_236, ↓br_234_39, ↓bc_250, ↓bx_250, bl_250, ↓b_t0, ↓b_t1, ↓b_t2, ↓b_t3, ↓b_t4, ↓b_t5, ↓b_t6, Nat.zero_add, Nat.le_refl, b_rs, b_rn, b_r2, b_ss, b_sn, b_bt, b_bf, b_b0, b_b1, b_bw, b_shl, b_or, b_iv, b_jv, b_sI, b_sJ, ↓z_hl, z_b0, z_b1, z_b2, b_and1c, b_and1z, if_true, if_false, nI_add, pk_mul, b_cl, b_lt, b_le, b_eq, b_eq0, b_le0, b_0lt, b_0le, b_lt0]
          rw [if_neg (by omega)]
      | true =>
        have s1 := s_Mo_pointsTo (X := X) (tx := tx) (D := d) (m := m3) (j := j) (w := w) (by rw [g6]; exact hS) (by rw [g6]; exact hI) hd (L := (w_rd (m 236) n).1) (q := q) (by omega) hlt (by rw [g6]; exact g48) (by rw [g6]; exact hc)
        rw [g6] at s1
        refine ⟨k - 1, 66, [.ref 234, .int (nI (w_rd (m 236) n).1), .int (nI (q + 1)), x], b_h (b_r m3 250 (b_s (m3 250) q (w_pt (m 236) (w_rd (m 236) n).1 q))) j w, by omega, ⟨n, _, rfl, hn, z_fr_r hm (by omega), fun i hi => by rw [b_rn (by decide)]; exact g48 i hi, Or.inr (Or.inl ⟨q + 1, x, rfl, by omega, hne, by omega, rfl, fun i hi => by rw [b_rn (by decide)]; exact g49 i hi, fun i hi h2 => ?_⟩)⟩, Or.inl ?_⟩
        · by_cases c2 : i = q
          · rw [c2, b_rs, b_ss]
          · rw [b_rs, b_sn c2]; exact g50 i (by omega) h2
        · simp (disch := omega) only [s_Mo_bitOf, hb, s1, Nat.one_ne_zero, ↓bc_234, ↓br_234_38, ↓bc_249, ↓bx_249, bl_249, ↓br_234_37, ↓bc_248, ↓bx_248, bl_248, ↓br_234_6, ↓bc_236, ↓bx_236, bl_236, ↓br_234_39, ↓bc_250, ↓bx_250, bl_250, ↓b_t0, ↓b_t1, ↓b_t2, ↓b_t3, ↓b_t4, ↓b_t5, ↓b_t6, Nat.zero_add, Nat.le_refl, b_rs, b_rn, b_r2, b_ss, b_sn, b_bt, b_bf, b_b0, b_b1, b_bw, b_shl, b_or, b_iv, b_jv, b_sI, b_sJ, ↓z_hl, z_b0, z_b1, z_b2, b_and1c, b_and1z, if_true, if_false, nI_add, pk_mul, b_cl, b_lt, b_le, b_eq, b_eq0, b_le0, b_0lt, b_0le, b_lt0]
          rw [if_neg (by omega)]
  · have hp : w_pc (w_rd (m 236) n).1 ≠ 0 := fun g => hne (w_pc_0 _ (by omega) g)
    rw [l_Mo_rings_87, q_Mo_rings_87]
    right
    by_cases c : q = 6
    · subst c
      have e6 : z_set (fun q => ((w_rd (m 236) n).1).testBit q && decide (w_at (w_pt (m 236) (w_rd (m 236) n).1) q 6 = q)) 6 = w_rg (m 236) (w_rd (m 236) n).1 := rfl
      rw [e6]
      refine ⟨k - 4, 108, [.ref 234, .int (nI (w_rd (m 236) n).1), .int (nI (w_rg (m 236) (w_rd (m 236) n).1)), .int (nI 0)], b_h m3 j w, by omega, ⟨n, m3, rfl, hn, hm, g48, Or.inr (Or.inr (Or.inr ⟨0, rfl, by omega, hne, by omega, rfl, fun i hi => by rw [if_neg (Nat.not_lt_zero i)]; exact g49 i hi, g50⟩))⟩, Or.inr ?_⟩
      rw [l_Mo_rings_108]
      simp (disch := omega) only [↓bc_234, ↓br_234_38, ↓bc_249, ↓bx_249, bl_249, ↓br_234_37, ↓bc_248, ↓bx_248, bl_248, ↓br_234_6, ↓bc_236, ↓bx_236, bl_236, ↓br_234_39, ↓bc_250, ↓bx_250, bl_250, ↓b_t0, ↓b_t1, ↓b_t2, ↓b_t3, ↓b_t4, ↓b_t5, ↓b_t6, Nat.zero_add, Nat.le_refl, b_rs, b_rn, b_r2, b_ss, b_sn, b_bt, b_bf, b_b0, b_b1, b_bw, b_shl, b_or, b_iv, b_jv, b_sI, b_sJ, ↓z_hl, z_b0, z_b1, z_b2, b_and1c, b_and1z, if_true, if_false, nI_add, pk_mul, b_cl, b_lt, b_le, b_eq, b_eq0, b_le0, b_0lt, b_0le, b_lt0]
    · have hz := z_set_lt (fun q => ((w_rd (m 236) n).1).testBit q && decide (w_at (w_pt (m 236) (w_rd (m 236) n).1) q 6 = q)) q
      have hp2 : 2 ^ q ≤ 2 ^ 6 := Nat.pow_le_pow_right (by decide) (by omega)
      cases hb : ((w_rd (m 236) n).1).testBit q with
      | false =>
        have hff : (((w_rd (m 236) n).1).testBit q && decide (w_at (w_pt (m 236) (w_rd (m 236) n).1) q 6 = q)) = false := by rw [hb]; rfl
        refine ⟨k - 1, 87, [.ref 234, .int (nI (w_rd (m 236) n).1), .int (nI (z_set (fun q => ((w_rd (m 236) n).1).testBit q && decide (w_at (w_pt (m 236) (w_rd (m 236) n).1) q 6 = q)) q)), .int (nI (q + 1))], b_h m3 j w, by omega, ⟨n, m3, rfl, hn, hm, g48, Or.inr (Or.inr (Or.inl ⟨q + 1, rfl, by omega, hne, by omega, by rw [z_set_f hff], g49, g50⟩))⟩, Or.inl ?_⟩
        simp (disch := omega) only [s_Mo_bitOf, hb, ↓bc_234, ↓br_234_38, ↓bc_249, ↓bx_249, bl_249, ↓br_234_37, ↓bc_248, ↓bx_248, bl_248, ↓br_234_6, ↓bc_236, ↓bx_236, bl_236, ↓br_234_39, ↓bc_250, ↓bx_250, bl_250, ↓b_t0, ↓b_t1, ↓b_t2, ↓b_t3, ↓b_t4, ↓b_t5, ↓b_t6, Nat.zero_add, Nat.le_refl, b_rs, b_rn, b_r2, b_ss, b_sn, b_bt, b_bf, b_b0, b_b1, b_bw, b_shl, b_or, b_iv, b_jv, b_sI, b_sJ, ↓z_hl, z_b0, z_b1, z_b2, b_and1c, b_and1z, if_true, if_false, nI_add, pk_mul, b_cl, b_lt, b_le, b_eq, b_eq0, b_le0, b_0lt, b_0le, b_lt0]
        rw [if_neg (by omega)]
      | true =>
        have s1 := s_Mo_comesBack (X := X) (tx := tx) (D := d) (m := m3) (j := j) (w := w) (s := m 236) (by omega) (L := (w_rd (m 236) n).1) (q := q) (by omega) hb g50
        by_cases c2 : w_at (w_pt (m 236) (w_rd (m 236) n).1) q 6 = q
        · have ht : (((w_rd (m 236) n).1).testBit q && decide (w_at (w_pt (m 236) (w_rd (m 236) n).1) q 6 = q)) = true := by rw [hb, decide_eq_true c2]; rfl
          rw [decide_eq_true c2] at s1
          refine ⟨k - 1, 87, [.ref 234, .int (nI (w_rd (m 236) n).1), .int (nI (z_set (fun q => ((w_rd (m 236) n).1).testBit q && decide (w_at (w_pt (m 236) (w_rd (m 236) n).1) q 6 = q)) q ||| 2 ^ q)), .int (nI (q + 1))], b_h m3 j w, by omega, ⟨n, m3, rfl, hn, hm, g48, Or.inr (Or.inr (Or.inl ⟨q + 1, rfl, by omega, hne, by omega, by rw [z_set_t ht], g49, g50⟩))⟩, Or.inl ?_⟩
          simp (disch := omega) only [s_Mo_bitOf, hb, s1, Nat.one_ne_zero, ↓bc_234, ↓br_234_38, ↓bc_249, ↓bx_249, bl_249, ↓br_234_37, ↓bc_248, ↓bx_248, bl_248, ↓br_234_6, ↓bc_236, ↓bx_236, bl_236, ↓br_234_39, ↓bc_250, ↓bx_250, bl_250, ↓b_t0, ↓b_t1, ↓b_t2, ↓b_t3, ↓b_t4, ↓b_t5, ↓b_t6, Nat.zero_add, Nat.le_refl, b_rs, b_rn, b_r2, b_ss, b_sn, b_bt, b_bf, b_b0, b_b1, b_bw, b_shl, b_or, b_iv, b_jv, b_sI, b_sJ, ↓z_hl, z_b0, z_b1, z_b2, b_and1c, b_and1z, if_true, if_false, nI_add, pk_mul, b_cl, b_lt, b_le, b_eq, b_eq0, b_le0, b_0lt, b_0le, b_lt0]
          rw [if_neg (by omega)]
        · have hff : (((w_rd (m 236) n).1).testBit q && decide (w_at (w_pt (m 236) (w_rd (m 236) n).1) q 6 = q)) = false := by rw [decide_eq_false c2, Bool.and_false]
          rw [decide_eq_false c2] at s1
          refine ⟨k - 1, 87, [.ref 234, .int (nI (w_rd (m 236) n).1), .int (nI (z_set (fun q => ((w_rd (m 236) n).1).testBit q && decide (w_at (w_pt (m 236) (w_rd (m 236) n).1) q 6 = q)) q)), .int (nI (q + 1))], b_h m3 j w, by omega, ⟨n, m3, rfl, hn, hm, g48, Or.inr (Or.inr (Or.inl ⟨q + 1, rfl, by omega, hne, by omega, by rw [z_set_f hff], g49, g50⟩))⟩, Or.inl ?_⟩
          simp (disch := omega) only [s_Mo_bitOf, hb, s1, Nat.one_ne_zero, ↓bc_234, ↓br_234_38, ↓bc_249, ↓bx_249, bl_249, ↓br_234_37, ↓bc_248, ↓bx_248, bl_248, ↓br_234_6, ↓bc_236, ↓bx_236, bl_236, ↓br_234_39, ↓bc_250, ↓bx_250, bl_250, ↓b_t0, ↓b_t1, ↓b_t2, ↓b_t3, ↓b_t4, ↓b_t5, ↓b_t6, Nat.zero_add, Nat.le_refl, b_rs, b_rn, b_r2, b_ss, b_sn, b_bt, b_bf, b_b0, b_b1, b_bw, b_shl, b_or, b_iv, b_jv, b_sI, b_sJ, ↓z_hl, z_b0, z_b1, z_b2, b_and1c, b_and1z, if_true, if_false, nI_add, pk_mul, b_cl, b_lt, b_le, b_eq, b_eq0, b_le0, b_0lt, b_0le, b_lt0]
          rw [if_neg (by omega)]
  · have hp : w_pc (w_rd (m 236) n).1 ≠ 0 := fun g => hne (w_pc_0 _ (by omega) g)
    have hR := w_rg_lt (s := m 236) (L := (w_rd (m 236) n).1)
    have e1 : ∀ i, (w_rd (m 236) (n + 1)).2 i = if (w_rg (m 236) (w_rd (m 236) n).1).testBit i = true then w_br (m 236) (w_pt (m 236) (w_rd (m 236) n).1 i) else (w_rd (m 236) n).2 i := fun _ => rfl
    have hdec := w_rd_pc (s := m 236) hne
    have e0 : (w_rd (m 236) (n + 1)).1 = (w_rd (m 236) n).1 &&& (w_rg (m 236) (w_rd (m 236) n).1 ^^^ 4294967295) := rfl
    rw [l_Mo_rings_108, q_Mo_rings_108]
    right
    by_cases c : q = 6
    · subst c
      have hn6 : n + 1 ≤ 6 := by
        by_cases c6 : n = 6
        · rw [c6] at hne; exact absurd w_rd_6 hne
        · omega
      refine ⟨60 * w_pc (w_rd (m 236) (n + 1)).1, 62, [.ref 234, .int (nI (w_rd (m 236) (n + 1)).1), .int (nI (w_rg (m 236) (w_rd (m 236) n).1)), .int (nI 6)], b_h m3 j w, by omega, ⟨n + 1, m3, rfl, hn6, hm, g48, Or.inl ⟨_, _, rfl, rfl, rfl, fun i hi => by rw [g49 i hi, if_pos hi]⟩⟩, Or.inl ?_⟩
      rw [e0]
      simp (disch := omega) only [b_xor, b_and, ↓bc_234, ↓br_234_38, ↓bc_249, ↓bx_249, bl_249, ↓br_234_37, ↓bc_248, ↓bx_248, bl_248, ↓br_234_6, ↓bc_236, ↓bx_236, bl_236, ↓br_234_39, ↓bc_250, ↓bx_250, bl_250, ↓b_t0, ↓b_t1, ↓b_t2, ↓b_t3, ↓b_t4, ↓b_t5, ↓b_t6, Nat.zero_add, Nat.le_refl, b_rs, b_rn, b_r2, b_ss, b_sn, b_bt, b_bf, b_b0, b_b1, b_bw, b_shl, b_or, b_iv, b_jv, b_sI, b_sJ, ↓z_hl, z_b0, z_b1, z_b2, b_and1c, b_and1z, if_true, if_false, nI_add, pk_mul, b_cl, b_lt, b_le, b_eq, b_eq0, b_le0, b_0lt, b_0le, b_lt0]
    · cases hb : (w_rg (m 236) (w_rd (m 236) n).1).testBit q with
      | false =>
        have h1 := e1 q
        rw [hb, if_neg (by decide)] at h1
        refine ⟨k - 1, 108, [.ref 234, .int (nI (w_rd (m 236) n).1), .int (nI (w_rg (m 236) (w_rd (m 236) n).1)), .int (nI (q + 1))], b_h m3 j w, by omega, ⟨n, m3, rfl, hn, hm, g48, Or.inr (Or.inr (Or.inr ⟨q + 1, rfl, by omega, hne, by omega, rfl, fun i hi => ?_, g50⟩))⟩, Or.inl ?_⟩
        · rw [g49 i hi]
          by_cases c2 : i = q
          · rw [c2, if_neg (Nat.lt_irrefl _), if_pos (by omega), h1]
          · by_cases c3 : i < q
            · rw [if_pos c3, if_pos (by omega)]
            · rw [if_neg c3, if_neg (by omega)]
        · simp (disch := omega) only [s_Mo_bitOf, hb, ↓bc_234, ↓br_234_38, ↓bc_249, ↓bx_249, bl_249, ↓br_234_37, ↓bc_248, ↓bx_248, bl_248, ↓br_234_6, ↓bc_236, ↓bx_236, bl_236, ↓br_234_39, ↓bc_250, ↓bx_250, bl_250, ↓b_t0, ↓b_t1, ↓b_t2, ↓b_t3, ↓b_t4, ↓b_t5, ↓b_t6, Nat.zero_add, Nat.le_refl, b_rs, b_rn, b_r2, b_ss, b_sn, b_bt, b_bf, b_b0, b_b1, b_bw, b_shl, b_or, b_iv, b_jv, b_sI, b_sJ, ↓z_hl, z_b0, z_b1, z_b2, b_and1c, b_and1z, if_true, if_false, nI_add, pk_mul, b_cl, b_lt, b_le, b_eq, b_eq0, b_le0, b_0lt, b_0le, b_lt0]
          rw [if_neg (by omega)]
      | true =>
        have h1 := e1 q
        rw [hb, if_pos rfl] at h1
        have hb1 := (w_rg_bit.mp hb).2.1
        have h3 := g50 q (by omega) hb1
        have hpt := (w_pt_in (s := m 236) (q := q) hb1 (by omega)).1
        have h4 := g48 (w_pt (m 236) (w_rd (m 236) n).1 q) hpt
        refine ⟨k - 1, 108, [.ref 234, .int (nI (w_rd (m 236) n).1), .int (nI (w_rg (m 236) (w_rd (m 236) n).1)), .int (nI (q + 1))], b_h (b_r m3 249 (b_s (m3 249) q (w_br (m 236) (w_pt (m 236) (w_rd (m 236) n).1 q)))) j w, by omega, ⟨n, _, rfl, hn, z_fr_r hm (by omega), fun i hi => by rw [b_rn (by decide)]; exact g48 i hi, Or.inr (Or.inr (Or.inr ⟨q + 1, rfl, by omega, hne, by omega, rfl, fun i hi => ?_, fun i hi h2 => by rw [b_rn (by decide)]; exact g50 i hi h2⟩))⟩, Or.inl ?_⟩
        · rw [b_rs]
          by_cases c2 : i = q
          · rw [c2, b_ss, if_pos (by omega), h1]
          · rw [b_sn c2, g49 i hi]
            by_cases c3 : i < q
            · rw [if_pos c3, if_pos (by omega)]
            · rw [if_neg c3, if_neg (by omega)]
        · simp (disch := omega) only [s_Mo_bitOf, hb, h3, h4, Nat.one_ne_zero, ↓bc_234, ↓br_234_38, ↓bc_249, ↓bx_249, bl_249, ↓br_234_37, ↓bc_248, ↓bx_248, bl_248, ↓br_234_6, ↓bc_236, ↓bx_236, bl_236, ↓br_234_39, ↓bc_250, ↓bx_250, bl_250, ↓b_t0, ↓b_t1, ↓b_t2, ↓b_t3, ↓b_t4, ↓b_t5, ↓b_t6, Nat.zero_add, Nat.le_refl, b_rs, b_rn, b_r2, b_ss, b_sn, b_bt, b_bf, b_b0, b_b1, b_bw, b_shl, b_or, b_iv, b_jv, b_sI, b_sJ, ↓z_hl, z_b0, z_b1, z_b2, b_and1c, b_and1z, if_true, if_false, nI_add, pk_mul, b_cl, b_lt, b_le, b_eq, b_eq0, b_le0, b_0lt, b_0le, b_lt0]
          rw [if_neg (by omega)]
theorem s_Mo_rings (hS : i_S (m 236)) (hI : i_D (m 236)) (hD : 6 ≤ D) : ∃ m2, a_ex X tx a_T D 284 [.ref 234] (b_h m j w) = some (b_h m2 j w, none) ∧ z_fr 248 250 m m2 ∧ (∀ q, q < 6 → m2 248 q = w_br (m 236) q) ∧ ∀ q, q < 6 → m2 249 q = (w_rd (m 236) 6).2 q := by
  obtain ⟨d, rfl⟩ : ∃ d, D = d + 1 := ⟨D - 1, by omega⟩
  rw [e_Mo_rings, q_Mo_rings_0, ← l_Mo_rings_4]
  obtain ⟨m2, x, y, f, hf, e1, g1, g2, g3⟩ := s_Mo_rings4 (X := X) (tx := tx) (d := d) (m := m) (j := j) (w := w) (u3 := .retAddr 0) hS hI _ (z_fu (by omega))
  have g6 : m2 236 = m 236 := g1 236 (by omega)
  obtain ⟨m3, e2, k1, k2, k3⟩ := s_Mo_rings62 (X := X) (tx := tx) (d := d) (m := m2) (j := j) (w := w) (u3 := x) (y := y) (by rw [g6]; exact hS) (by rw [g6]; exact hI) (by omega) (by rw [g6]; exact g2) g3 (f + 1) (by omega)
  rw [g6] at e2 k2 k3
  exact ⟨m3, e1.trans e2, fun c hc => by rw [k1 c hc, g1 c (by omega)], k2, k3⟩
end RK
