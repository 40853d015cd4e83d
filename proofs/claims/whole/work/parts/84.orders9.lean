/-! ORDERS: ends, both sides -/
theorem w_cst_left {s : Nat → Nat} {r : Nat} (hE : s 3 ≤ 10) : w_bst (w_okk s r) (w_prc s) (w_left s + 1) = w_cst s r := by
  have hP : 2 ^ s 3 ≤ 1024 := Nat.pow_le_pow_right (n := 2) (by decide) hE
  have hP1 : 1 ≤ 2 ^ s 3 := Nat.one_le_two_pow
  have hK := w_left_lt (s := s)
  refine (w_bst_pad 1024 (by omega) fun x h1 h2 => ?_).symm
  cases c : w_okk s r x with
  | false => rfl
  | true =>
    unfold w_okk at c
    rw [Bool.and_eq_true, decide_eq_true_eq, w_and_nx h2] at c
    have := z_sub_le c.1
    omega
section OI
variable {X : Nat × (Nat → Int32)} {tx : List Int32} {D : Nat} {m j : Nat → Nat → Nat} {w : (Nat × Nat) × Bool}
def w_qends (s : Nat → Nat) (t : Nat) : Nat := if w_cst s (177 + 6 * t) = 4294967295 then 4294967295 else w_prc s (w_cst s (177 + 6 * t))
theorem s_Mo_ends37 {d : Nat} (hS : i_S (m 236)) (hI : i_D (m 236)) (hd : 5 ≤ d) {t : Nat} (ht : t < 8) (h43 : ∀ S, S < 2 ^ m 236 3 → m 243 S = b_b (w_cna (w_fbh (m 236) (177 + 6 * t)) (w_left (m 236)) S)) : ∃ m2, a_go X tx (a_ex X tx a_T d) k_Mo_ends_0 (a_f1 + 1) 37 [.ref 234, .int (nI t), .int (nI (177 + 6 * t)), .int (nI (w_left (m 236))), .int (nI 4294967295), .int (nI 0)] (b_h m j w) = some (b_h m2 j w, some (.int (nI (w_qends (m 236) t)))) ∧ (∀ c, c ≠ 234 → c ≠ 244 → c ≠ 245 → m2 c = m c) ∧ (∀ k, k ≠ 26 → m2 234 k = m 234 k) ∧ (w_cst (m 236) (177 + 6 * t) = 4294967295 → m2 234 26 = m 234 26 ∧ m2 244 = m 244) ∧ (w_cst (m 236) (177 + 6 * t) ≠ 4294967295 → m2 234 26 = w_pc (w_cst (m 236) (177 + 6 * t)) ∧ ∀ i, i < w_pc (w_cst (m 236) (177 + 6 * t)) → m2 244 i = (w_seq (w_fbh (m 236) (177 + 6 * t)) (w_cst (m 236) (177 + 6 * t)) (w_pc (w_cst (m 236) (177 + 6 * t)))).2 i) := by
  have hE := i_S_E hS
  have hPw : 2 ^ m 236 3 ≤ 1024 := Nat.pow_le_pow_right (n := 2) (by decide) hE
  have hP1 : 1 ≤ 2 ^ m 236 3 := Nat.one_le_two_pow
  have hK := w_left_lt (s := m 236)
  have hr : ∀ k, k < 6 → m 236 (177 + 6 * t + k) ≤ 99 := fun k hk => i_D_op hI t ht k hk
  have n1 : (nI 4294967295 < 0) = True := b_lt0n (by decide) (by decide)
  have n2 : (0 ≤ nI 4294967295) = False := b_0len (by decide) (by decide)
  refine z_run (Q := fun q => ∃ m2, q = some (b_h m2 j w, some (.int (nI (w_qends (m 236) t)))) ∧ (∀ c, c ≠ 234 → c ≠ 244 → c ≠ 245 → m2 c = m c) ∧ (∀ k, k ≠ 26 → m2 234 k = m 234 k) ∧ (w_cst (m 236) (177 + 6 * t) = 4294967295 → m2 234 26 = m 234 26 ∧ m2 244 = m 244) ∧ (w_cst (m 236) (177 + 6 * t) ≠ 4294967295 → m2 234 26 = w_pc (w_cst (m 236) (177 + 6 * t)) ∧ ∀ i, i < w_pc (w_cst (m 236) (177 + 6 * t)) → m2 244 i = (w_seq (w_fbh (m 236) (177 + 6 * t)) (w_cst (m 236) (177 + 6 * t)) (w_pc (w_cst (m 236) (177 + 6 * t)))).2 i)) (fun k L h => ∃ n, k + n = w_left (m 236) + 1 ∧ L = [.ref 234, .int (nI t), .int (nI (177 + 6 * t)), .int (nI (w_left (m 236))), .int (nI (w_bst (w_okk (m 236) (177 + 6 * t)) (w_prc (m 236)) n)), .int (nI n)] ∧ h = b_h m j w) 0 ?_ (w_left (m 236) + 1) _ _ ⟨0, by omega, rfl, rfl⟩ _ (z_fu (by omega))
  rintro k L h ⟨n, hk, rfl, rfl⟩ f _
  rw [l_Mo_ends_37, q_Mo_ends_37]
  by_cases c : n = w_left (m 236) + 1
  · left
    subst c
    rw [w_cst_left hE]
    have hlt := w_bst_lt (Q := w_okk (m 236) (177 + 6 * t)) (pr := w_prc (m 236)) 1024
    have hB : w_cst (m 236) (177 + 6 * t) = w_bst (w_okk (m 236) (177 + 6 * t)) (w_prc (m 236)) 1024 := rfl
    rw [← hB] at hlt
    unfold w_qends
    by_cases c2 : w_cst (m 236) (177 + 6 * t) = 4294967295
    · refine ⟨m, ?_, fun _ _ _ _ => rfl, fun _ _ => rfl, fun _ => ⟨rfl, rfl⟩, fun g => absurd c2 g⟩
      rw [if_pos c2, c2]
      rw [if_pos (by rw [b_lt (by omega) (by omega)]; omega)]
      simp (disch := omega) only [n2, ↓bc_234, ↓br_234_6, ↓bc_236, ↓bx_236, bl_236, ↓br_234_24, ↓bc_243, ↓bx_243, bl_243, bk_243, ↓b_t0, ↓b_t1, ↓b_t2, ↓b_t3, ↓b_t4, ↓b_t5, ↓b_t6, Nat.zero_add, Nat.le_refl, b_rs, b_rn, b_r2, b_ss, b_sn, b_bt, b_bf, b_b0, b_b1, b_bw, b_shl, b_or, b_iv, b_jv, b_sI, b_sJ, ↓z_hl, z_b0, z_b1, z_b2, b_and1c, b_and1z, if_true, if_false, nI_add, pk_mul, b_cl, b_lt, b_le, b_eq, b_eq0, b_le0, b_0lt, b_0le, b_lt0]
    · obtain ⟨hl, hq⟩ := hlt.resolve_left c2
      unfold w_okk w_okc at hq
      rw [Bool.and_eq_true, Bool.and_eq_true, decide_eq_true_eq, w_and_nx hl] at hq
      have hl2 := z_sub_le hq.1
      obtain ⟨m2, s1, k1, k2, k3, k4⟩ := s_Mo_orders (X := X) (tx := tx) (D := d) (m := m) (j := j) (w := w) hS (by omega) (r := 177 + 6 * t) (A := w_cst (m 236) (177 + 6 * t)) (by omega) hr (by omega) hq.2.1
      have g6 : m2 236 = m 236 := k1 236 (by decide) (by decide) (by decide)
      have s2 := s_Mo_priceOf (X := X) (tx := tx) (D := d) (m := m2) (j := j) (w := w) (by rw [g6]; exact hS) (by rw [g6]; exact hI) (by omega) (S := w_cst (m 236) (177 + 6 * t)) hl
      rw [g6] at s2
      refine ⟨m2, ?_, k1, k2, fun g => absurd g c2, fun _ => ⟨k3, k4⟩⟩
      rw [if_neg c2]
      rw [if_pos (by rw [b_lt (by omega) (by omega)]; omega)]
      simp (disch := omega) only [s1, s2, ↓bc_234, ↓br_234_6, ↓bc_236, ↓bx_236, bl_236, ↓br_234_24, ↓bc_243, ↓bx_243, bl_243, bk_243, ↓b_t0, ↓b_t1, ↓b_t2, ↓b_t3, ↓b_t4, ↓b_t5, ↓b_t6, Nat.zero_add, Nat.le_refl, b_rs, b_rn, b_r2, b_ss, b_sn, b_bt, b_bf, b_b0, b_b1, b_bw, b_shl, b_or, b_iv, b_jv, b_sI, b_sJ, ↓z_hl, z_b0, z_b1, z_b2, b_and1c, b_and1z, if_true, if_false, nI_add, pk_mul, b_cl, b_lt, b_le, b_eq, b_eq0, b_le0, b_0lt, b_0le, b_lt0]
  · right
    have hw := w_bst_1 (Q := w_okk (m 236) (177 + 6 * t)) (pr := w_prc (m 236)) (n := n)
    have hlt := w_bst_lt (Q := w_okk (m 236) (177 + 6 * t)) (pr := w_prc (m 236)) n
    have hx : n &&& (w_left (m 236) ^^^ 4294967295) ≤ n := Nat.and_le_left
    by_cases c1 : n &&& (w_left (m 236) ^^^ 4294967295) = 0
    · have hv := h43 n (by omega)
      have ev : w_cna (w_fbh (m 236) (177 + 6 * t)) (w_left (m 236)) n = w_cn (w_fbh (m 236) (177 + 6 * t)) n := by unfold w_cna; rw [decide_eq_true c1, Bool.true_and]
      rw [ev] at hv
      have hQ : w_okk (m 236) (177 + 6 * t) n = (w_cn (w_fbh (m 236) (177 + 6 * t)) n && z_all (fun k => decide (m 236 (177 + 6 * t + k) ≤ w_cs (m 236) n k)) 6) := by
        unfold w_okk w_okc
        rw [decide_eq_true c1, Bool.true_and]
      cases hc : w_cn (w_fbh (m 236) (177 + 6 * t)) n with
      | false =>
        rw [hc] at hv hQ
        rw [Bool.false_and] at hQ
        refine ⟨k - 1, [.ref 234, .int (nI t), .int (nI (177 + 6 * t)), .int (nI (w_left (m 236))), .int (nI (w_bst (w_okk (m 236) (177 + 6 * t)) (w_prc (m 236)) n)), .int (nI (n + 1))], _, by omega, ⟨n + 1, by omega, by rw [w_bst_f hQ], rfl⟩, ?_⟩
        rw [if_neg (by rw [b_lt (by omega) (by omega)]; omega), b_xor, b_and]
        rw [if_pos (by rw [b_eq0 (by omega)]; exact c1)]
        simp (disch := omega) only [b_xor, b_and, hv, bk_243, true_or, ↓bc_234, ↓br_234_6, ↓bc_236, ↓bx_236, bl_236, ↓br_234_24, ↓bc_243, ↓bx_243, bl_243, bk_243, ↓b_t0, ↓b_t1, ↓b_t2, ↓b_t3, ↓b_t4, ↓b_t5, ↓b_t6, Nat.zero_add, Nat.le_refl, b_rs, b_rn, b_r2, b_ss, b_sn, b_bt, b_bf, b_b0, b_b1, b_bw, b_shl, b_or, b_iv, b_jv, b_sI, b_sJ, ↓z_hl, z_b0, z_b1, z_b2, b_and1c, b_and1z, if_true, if_false, nI_add, pk_mul, b_cl, b_lt, b_le, b_eq, b_eq0, b_le0, b_0lt, b_0le, b_lt0]
      | true =>
        rw [hc] at hv hQ
        rw [Bool.true_and] at hQ
        have s1 := s_Mo_closesAll (X := X) (tx := tx) (D := d) (m := m) (j := j) (w := w) hS (by omega) (r := 177 + 6 * t) (S := n) (by omega) hr (by omega)
        rw [← hQ] at s1
        cases ho : w_okk (m 236) (177 + 6 * t) n with
        | false =>
          rw [ho] at s1
          refine ⟨k - 1, [.ref 234, .int (nI t), .int (nI (177 + 6 * t)), .int (nI (w_left (m 236))), .int (nI (w_bst (w_okk (m 236) (177 + 6 * t)) (w_prc (m 236)) n)), .int (nI (n + 1))], _, by omega, ⟨n + 1, by omega, by rw [w_bst_f ho], rfl⟩, ?_⟩
          rw [if_neg (by rw [b_lt (by omega) (by omega)]; omega), b_xor, b_and]
          rw [if_pos (by rw [b_eq0 (by omega)]; exact c1)]
          simp (disch := omega) only [b_xor, b_and, hv, bk_243, true_or, s1, Nat.one_ne_zero, ↓bc_234, ↓br_234_6, ↓bc_236, ↓bx_236, bl_236, ↓br_234_24, ↓bc_243, ↓bx_243, bl_243, bk_243, ↓b_t0, ↓b_t1, ↓b_t2, ↓b_t3, ↓b_t4, ↓b_t5, ↓b_t6, Nat.zero_add, Nat.le_refl, b_rs, b_rn, b_r2, b_ss, b_sn, b_bt, b_bf, b_b0, b_b1, b_bw, b_shl, b_or, b_iv, b_jv, b_sI, b_sJ, ↓z_hl, z_b0, z_b1, z_b2, b_and1c, b_and1z, if_true, if_false, nI_add, pk_mul, b_cl, b_lt, b_le, b_eq, b_eq0, b_le0, b_0lt, b_0le, b_lt0]
        | true =>
          rw [ho] at s1 hw
          have s2 := s_Mo_priceOf (X := X) (tx := tx) (D := d) (m := m) (j := j) (w := w) hS hI (by omega) (S := n) (by omega)
          have hp1 := w_prc_le hI hE (S := n)
          generalize hB : w_bst (w_okk (m 236) (177 + 6 * t)) (w_prc (m 236)) n = B at hw hlt ⊢
          have hp2 := w_prc_le hI hE (S := B)
          have q1 := w_pc_le n
          have q2 := w_pc_le B
          by_cases c2 : B = 4294967295
          · refine ⟨k - 1, [.ref 234, .int (nI t), .int (nI (177 + 6 * t)), .int (nI (w_left (m 236))), .int (nI (n)), .int (nI (n + 1))], _, by omega, ⟨n + 1, by omega, by rw [hw, if_pos ⟨rfl, Or.inl c2⟩], rfl⟩, ?_⟩
            rw [c2]
            rw [if_neg (by rw [b_lt (by omega) (by omega)]; omega), b_xor, b_and]
            rw [if_pos (by rw [b_eq0 (by omega)]; exact c1)]
            simp (disch := omega) only [b_xor, b_and, hv, bk_243, true_or, s1, n1, Nat.one_ne_zero, ↓bc_234, ↓br_234_6, ↓bc_236, ↓bx_236, bl_236, ↓br_234_24, ↓bc_243, ↓bx_243, bl_243, bk_243, ↓b_t0, ↓b_t1, ↓b_t2, ↓b_t3, ↓b_t4, ↓b_t5, ↓b_t6, Nat.zero_add, Nat.le_refl, b_rs, b_rn, b_r2, b_ss, b_sn, b_bt, b_bf, b_b0, b_b1, b_bw, b_shl, b_or, b_iv, b_jv, b_sI, b_sJ, ↓z_hl, z_b0, z_b1, z_b2, b_and1c, b_and1z, if_true, if_false, nI_add, pk_mul, b_cl, b_lt, b_le, b_eq, b_eq0, b_le0, b_0lt, b_0le, b_lt0]
          · have hBl : B < n := by
              rcases hlt with g | g
              · exact absurd g c2
              · exact g.1
            have s3 := s_Mo_priceOf (X := X) (tx := tx) (D := d) (m := m) (j := j) (w := w) hS hI (by omega) (S := B) (by omega)
            by_cases c3 : w_prc (m 236) n < w_prc (m 236) B
            · refine ⟨k - 1, [.ref 234, .int (nI t), .int (nI (177 + 6 * t)), .int (nI (w_left (m 236))), .int (nI (n)), .int (nI (n + 1))], _, by omega, ⟨n + 1, by omega, by rw [hw, if_pos ⟨rfl, Or.inr (Or.inl c3)⟩], rfl⟩, ?_⟩
              rw [if_neg (by rw [b_lt (by omega) (by omega)]; omega), b_xor, b_and]
              rw [if_pos (by rw [b_eq0 (by omega)]; exact c1)]
              simp (disch := omega) only [b_xor, b_and, hv, bk_243, true_or, s1, s2, s3, Nat.one_ne_zero, ↓bc_234, ↓br_234_6, ↓bc_236, ↓bx_236, bl_236, ↓br_234_24, ↓bc_243, ↓bx_243, bl_243, bk_243, ↓b_t0, ↓b_t1, ↓b_t2, ↓b_t3, ↓b_t4, ↓b_t5, ↓b_t6, Nat.zero_add, Nat.le_refl, b_rs, b_rn, b_r2, b_ss, b_sn, b_bt, b_bf, b_b0, b_b1, b_bw, b_shl, b_or, b_iv, b_jv, b_sI, b_sJ, ↓z_hl, z_b0, z_b1, z_b2, b_and1c, b_and1z, if_true, if_false, nI_add, pk_mul, b_cl, b_lt, b_le, b_eq, b_eq0, b_le0, b_0lt, b_0le, b_lt0]
              rw [if_pos c3]
            · by_cases c4 : w_prc (m 236) n = w_prc (m 236) B
              · by_cases c5 : w_pc n < w_pc B
                · refine ⟨k - 1, [.ref 234, .int (nI t), .int (nI (177 + 6 * t)), .int (nI (w_left (m 236))), .int (nI (n)), .int (nI (n + 1))], _, by omega, ⟨n + 1, by omega, by rw [hw, if_pos ⟨rfl, Or.inr (Or.inr ⟨c4, c5⟩)⟩], rfl⟩, ?_⟩
                  rw [if_neg (by rw [b_lt (by omega) (by omega)]; omega), b_xor, b_and]
                  rw [if_pos (by rw [b_eq0 (by omega)]; exact c1)]
                  simp (disch := omega) only [b_xor, b_and, hv, bk_243, true_or, s1, s2, s3, s_Mo_bits, Nat.one_ne_zero, ↓bc_234, ↓br_234_6, ↓bc_236, ↓bx_236, bl_236, ↓br_234_24, ↓bc_243, ↓bx_243, bl_243, bk_243, ↓b_t0, ↓b_t1, ↓b_t2, ↓b_t3, ↓b_t4, ↓b_t5, ↓b_t6, Nat.zero_add, Nat.le_refl, b_rs, b_rn, b_r2, b_ss, b_sn, b_bt, b_bf, b_b0, b_b1, b_bw, b_shl, b_or, b_iv, b_jv, b_sI, b_sJ, ↓z_hl, z_b0, z_b1, z_b2, b_and1c, b_and1z, if_true, if_false, nI_add, pk_mul, b_cl, b_lt, b_le, b_eq, b_eq0, b_le0, b_0lt, b_0le, b_lt0]
                  rw [if_neg c3, if_pos c4, if_neg (by omega)]
                · refine ⟨k - 1, [.ref 234, .int (nI t), .int (nI (177 + 6 * t)), .int (nI (w_left (m 236))), .int (nI (B)), .int (nI (n + 1))], _, by omega, ⟨n + 1, by omega, by rw [hw, if_neg (fun z => by rcases z with ⟨_, g⟩; rcases g with g | g | g; exact c2 g; exact c3 g; exact c5 g.2)], rfl⟩, ?_⟩
                  rw [if_neg (by rw [b_lt (by omega) (by omega)]; omega), b_xor, b_and]
                  rw [if_pos (by rw [b_eq0 (by omega)]; exact c1)]
                  simp (disch := omega) only [b_xor, b_and, hv, bk_243, true_or, s1, s2, s3, s_Mo_bits, Nat.one_ne_zero, ↓bc_234, ↓br_234_6, ↓bc_236, ↓bx_236, bl_236, ↓br_234_24, ↓bc_243, ↓bx_243, bl_243, bk_243, ↓b_t0, ↓b_t1, ↓b_t2, ↓b_t3, ↓b_t4, ↓b_t5, ↓b_t6, Nat.zero_add, Nat.le_refl, b_rs, b_rn, b_r2, b_ss, b_sn, b_bt, b_bf, b_b0, b_b1, b_bw, b_shl, b_or, b_iv, b_jv, b_sI, b_sJ, ↓z_hl, z_b0, z_b1, z_b2, b_and1c, b_and1z, if_true, if_false, nI_add, pk_mul, b_cl, b_lt, b_le, b_eq, b_eq0, b_le0, b_0lt, b_0le, b_lt0]
                  rw [if_neg c3, if_pos c4, if_pos (by omega)]
              · refine ⟨k - 1, [.ref 234, .int (nI t), .int (nI (177 + 6 * t)), .int (nI (w_left (m 236))), .int (nI (B)), .int (nI (n + 1))], _, by omega, ⟨n + 1, by omega, by rw [hw, if_neg (fun z => by rcases z with ⟨_, g⟩; rcases g with g | g | g; exact c2 g; exact c3 g; exact c4 g.1)], rfl⟩, ?_⟩
                rw [if_neg (by rw [b_lt (by omega) (by omega)]; omega), b_xor, b_and]
                rw [if_pos (by rw [b_eq0 (by omega)]; exact c1)]
                simp (disch := omega) only [b_xor, b_and, hv, bk_243, true_or, s1, s2, s3, Nat.one_ne_zero, ↓bc_234, ↓br_234_6, ↓bc_236, ↓bx_236, bl_236, ↓br_234_24, ↓bc_243, ↓bx_243, bl_243, bk_243, ↓b_t0, ↓b_t1, ↓b_t2, ↓b_t3, ↓b_t4, ↓b_t5, ↓b_t6, Nat.zero_add, Nat.le_refl, b_rs, b_rn, b_r2, b_ss, b_sn, b_bt, b_bf, b_b0, b_b1, b_bw, b_shl, b_or, b_iv, b_jv, b_sI, b_sJ, ↓z_hl, z_b0, z_b1, z_b2, b_and1c, b_and1z, if_true, if_false, nI_add, pk_mul, b_cl, b_lt, b_le, b_eq, b_eq0, b_le0, b_0lt, b_0le, b_lt0]
                rw [if_neg c3, if_neg c4]
    · have hQ : w_okk (m 236) (177 + 6 * t) n = false := by
        unfold w_okk
        rw [decide_eq_false c1, Bool.false_and]
      refine ⟨k - 1, [.ref 234, .int (nI t), .int (nI (177 + 6 * t)), .int (nI (w_left (m 236))), .int (nI (w_bst (w_okk (m 236) (177 + 6 * t)) (w_prc (m 236)) n)), .int (nI (n + 1))], _, by omega, ⟨n + 1, by omega, by rw [w_bst_f hQ], rfl⟩, ?_⟩
      rw [if_neg (by rw [b_lt (by omega) (by omega)]; omega), b_xor, b_and]
      rw [if_neg (by rw [b_eq0 (by omega)]; exact c1)]
      simp (disch := omega) only [b_xor, b_and, ↓bc_234, ↓br_234_6, ↓bc_236, ↓bx_236, bl_236, ↓br_234_24, ↓bc_243, ↓bx_243, bl_243, bk_243, ↓b_t0, ↓b_t1, ↓b_t2, ↓b_t3, ↓b_t4, ↓b_t5, ↓b_t6, Nat.zero_add, Nat.le_refl, b_rs, b_rn, b_r2, b_ss, b_sn, b_bt, b_bf, b_b0, b_b1, b_bw, b_shl, b_or, b_iv, b_jv, b_sI, b_sJ, ↓z_hl, z_b0, z_b1, z_b2, b_and1c, b_and1z, if_true, if_false, nI_add, pk_mul, b_cl, b_lt, b_le, b_eq, b_eq0, b_le0, b_0lt, b_0le, b_lt0]
theorem t_ends (h : r_R m j) (hD : 10 ≤ D) {t : Nat} (ht : t < 4294967296) : w_step X tx D 167 266 [.int (nI t)] m j w := by
  have hS := r_R_st h
  have hI := r_R_dy h
  have hF := r_R_fa h
  have hA := r_R_af h
  have hT := i_S_T hS
  have hE := i_S_E hS
  have hPw : 2 ^ m 236 3 ≤ 1024 := Nat.pow_le_pow_right (n := 2) (by decide) hE
  have hP1 : 1 ≤ 2 ^ m 236 3 := Nat.one_le_two_pow
  have hK := w_left_lt (s := m 236)
  obtain ⟨d, rfl⟩ : ∃ d, D = d + 1 := ⟨D - 1, by omega⟩
  by_cases c : t < m 236 2
  · obtain ⟨m2, e1, g1, g2, g3⟩ := s_Or_leastCoin (X := X) (tx := tx) (D := d) (j := j) (w := w) hF hA hS hI (by omega) (t := t) (by omega)
    have g6 : (b_r m2 234 (b_s (m2 234) 0 0)) 236 = m 236 := by rw [b_rn (by decide)]; exact g1 236 (by omega)
    have hr : ∀ k, k < 6 → m 236 (177 + 6 * t + k) ≤ 99 := fun k hk => i_D_op hI t (by omega) k hk
    obtain ⟨m3, e2, k1, k2⟩ := s_Mo_cans (X := X) (tx := tx) (D := d) (m := b_r m2 234 (b_s (m2 234) 0 0)) (j := j) (w := w) (by rw [g6]; exact hS) (by omega) (r := 177 + 6 * t) (K := w_left (m 236)) (by omega) (by rw [g6]; exact hr) (by omega)
    rw [g6] at k2
    have k6 : m3 236 = m 236 := (k1 236 (by omega)).trans g6
    obtain ⟨m4, e3, n1, n2, n3, n4⟩ := s_Mo_ends37 (X := X) (tx := tx) (d := d) (m := m3) (j := j) (w := w) (by rw [k6]; exact hS) (by rw [k6]; exact hI) (by omega) (t := t) (by omega) (by rw [k6]; exact k2)
    rw [k6] at e3 n3 n4
    have fr : ∀ c, c ≠ 234 → c ≠ 243 → c ≠ 244 → c ≠ 245 → (c < 162 ∨ 165 < c) → m4 c = m c := fun c p1 p2 p3 p4 p5 => by rw [n1 c p1 p3 p4, k1 c (by omega), b_rn p1, g1 c p5]
    have fk : ∀ k, k ≠ 0 → k ≠ 26 → m4 234 k = m 234 k := fun k p1 p2 => by rw [n2 k p2, k1 234 (by omega), b_rs, b_sn p1, g1 234 (by omega)]
    refine ⟨m2, j, m4, j, nI (w_qends (m 236) t), ?_, ?_, ?_⟩
    · rw [e_EM_ends, q_EM_ends_0]
      simp (disch := omega) only [s_Fa_isThing hF hS, decide_eq_false_iff_not, e1, ↓bc_0, ↓br_0_1, ↓bc_4, ↓br_0_9, ↓bc_162, ↓b_t0, ↓b_t1, ↓b_t2, ↓b_t3, ↓b_t4, ↓b_t5, ↓b_t6, Nat.zero_add, Nat.le_refl, b_rs, b_rn, b_r2, b_ss, b_sn, b_bt, b_bf, b_b0, b_b1, b_bw, b_shl, b_or, b_iv, b_jv, b_sI, b_sJ, ↓z_hl, z_b0, z_b1, z_b2, b_and1c, b_and1z, if_true, if_false, nI_add, pk_mul, b_cl, b_lt, b_le, b_eq, b_eq0, b_le0, b_0lt, b_0le, b_lt0]
      rw [if_neg (fun g => g c)]
      rfl
    · rw [e_Mo_ends, q_Mo_ends_0]
      have s1 := s_Mo_isThing (X := X) (tx := tx) (D := d) (m := b_r m2 234 (b_s (m2 234) 0 0)) (j := j) (w := w) (by rw [g6]; exact hS) (by omega) ht
      rw [g6, decide_eq_true c] at s1
      have s2 := s_Mo_putSet (X := X) (tx := tx) (D := d) (m := b_r m2 234 (b_s (m2 234) 0 0)) (j := j) (w := w) (by rw [g6]; exact hS) (by rw [g6]; exact hI) (by omega)
      rw [g6] at s2
      have e0 : (2 ^ m 236 3 - 1) &&& (w_endsOf (m 236) 4294967295 ^^^ 4294967295) = w_left (m 236) := rfl
      have x3 : (b_r m2 234 (b_s (m2 234) 0 0)) 236 3 = m 236 3 := by rw [g6]
      have x4 : m2 236 3 = m 236 3 := by rw [g1 236 (by omega)]
      rw [l_Mo_ends_37] at e3
      simp (disch := omega) only [s1, s2, x3, x4, b_sub, b_xor, b_and, e0, e2, Nat.one_ne_zero, ↓bc_234, ↓br_234_6, ↓bc_236, ↓bx_236, bl_236, ↓br_234_24, ↓bc_243, ↓bx_243, bl_243, bk_243, ↓b_t0, ↓b_t1, ↓b_t2, ↓b_t3, ↓b_t4, ↓b_t5, ↓b_t6, Nat.zero_add, Nat.le_refl, b_rs, b_rn, b_r2, b_ss, b_sn, b_bt, b_bf, b_b0, b_b1, b_bw, b_shl, b_or, b_iv, b_jv, b_sI, b_sJ, ↓z_hl, z_b0, z_b1, z_b2, b_and1c, b_and1z, if_true, if_false, nI_add, pk_mul, b_cl, b_lt, b_le, b_eq, b_eq0, b_le0, b_0lt, b_0le, b_lt0]
      exact e3
    · refine r_R_asks h ⟨fun c hc => fr c (by omega) (by omega) (by omega) (by omega) (by omega), by rw [fr 0 (by omega) (by omega) (by omega) (by omega) (by omega)], by rw [fr 1 (by omega) (by omega) (by omega) (by omega) (by omega)], fun k hk => by rw [fr 156 (by omega) (by omega) (by omega) (by omega) (by omega)], fun k hk => fk k (by omega) (by omega)⟩ ?_ ?_ ?_ ?_ ?_
      · have z162 : m4 162 = m2 162 := by rw [n1 162 (by omega) (by omega) (by omega), k1 162 (by omega), b_rn (by decide)]
        have z163 : m4 163 = m2 163 := by rw [n1 163 (by omega) (by omega) (by omega), k1 163 (by omega), b_rn (by decide)]
        rw [z162, z163]
        by_cases c2 : w_cst (m 236) (177 + 6 * t) = 4294967295
        · obtain ⟨a1, a2⟩ := g2 c2
          obtain ⟨a3, a4⟩ := n3 c2
          have y26 : m3 234 26 = m 234 26 := by rw [k1 234 (by omega), b_rs, b_sn (by decide), g1 234 (by omega)]
          have y44 : m3 244 = m 244 := by rw [k1 244 (by omega), b_rn (by decide), g1 244 (by omega)]
          rw [a1, a2, a3, a4, y26, y44]
          exact r_R_ro h
        · obtain ⟨a1, a2⟩ := g3 c2
          obtain ⟨a3, a4⟩ := n4 c2
          rw [a1, a3]
          exact ⟨w_pc_le _, Or.inr rfl, fun k hk => by rw [a2 k hk, a4 k hk]⟩
      · rw [fk 30 (by decide) (by decide), fr 171 (by omega) (by omega) (by omega) (by omega) (by omega), fr 247 (by omega) (by omega) (by omega) (by omega) (by omega)]
        exact r_R_sr h
      · rw [fk 32 (by decide) (by decide), fk 31 (by decide) (by decide), fr 167 (by omega) (by omega) (by omega) (by omega) (by omega)]
        exact r_R_tr h
      · rw [fk 34 (by decide) (by decide), fk 33 (by decide) (by decide), fr 0 (by omega) (by omega) (by omega) (by omega) (by omega)]
        exact r_R_sk h
      · rw [fk 36 (by decide) (by decide), fk 35 (by decide) (by decide), fr 0 (by omega) (by omega) (by omega) (by omega) (by omega)]
        exact r_R_rd h
  · refine ⟨m, j, _, j, nI 4294967295, ?_, ?_, r_R_thr (v := 0) h⟩
    · rw [e_EM_ends, q_EM_ends_0]
      simp (disch := omega) only [s_Fa_isThing hF hS, decide_eq_false_iff_not, ↓bc_0, ↓br_0_1, ↓bc_4, ↓br_0_9, ↓bc_162, ↓b_t0, ↓b_t1, ↓b_t2, ↓b_t3, ↓b_t4, ↓b_t5, ↓b_t6, Nat.zero_add, Nat.le_refl, b_rs, b_rn, b_r2, b_ss, b_sn, b_bt, b_bf, b_b0, b_b1, b_bw, b_shl, b_or, b_iv, b_jv, b_sI, b_sJ, ↓z_hl, z_b0, z_b1, z_b2, b_and1c, b_and1z, if_true, if_false, nI_add, pk_mul, b_cl, b_lt, b_le, b_eq, b_eq0, b_le0, b_0lt, b_0le, b_lt0]
      rw [if_pos c]
    · rw [e_Mo_ends, q_Mo_ends_0]
      have s1 := s_Mo_isThing (X := X) (tx := tx) (D := d) (m := b_r m 234 (b_s (m 234) 0 0)) (j := j) (w := w) (by rw [b_rn (by decide)]; exact hS) (by omega) ht
      rw [b_rn (by decide), decide_eq_false c] at s1
      simp (disch := omega) only [s1, ↓bc_234, ↓br_234_6, ↓bc_236, ↓bx_236, bl_236, ↓br_234_24, ↓bc_243, ↓bx_243, bl_243, bk_243, ↓b_t0, ↓b_t1, ↓b_t2, ↓b_t3, ↓b_t4, ↓b_t5, ↓b_t6, Nat.zero_add, Nat.le_refl, b_rs, b_rn, b_r2, b_ss, b_sn, b_bt, b_bf, b_b0, b_b1, b_bw, b_shl, b_or, b_iv, b_jv, b_sI, b_sJ, ↓z_hl, z_b0, z_b1, z_b2, b_and1c, b_and1z, if_true, if_false, nI_add, pk_mul, b_cl, b_lt, b_le, b_eq, b_eq0, b_le0, b_0lt, b_0le, b_lt0]
end OI
