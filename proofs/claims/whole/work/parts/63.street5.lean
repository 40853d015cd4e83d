/-! MATCHES: the least rest -/
theorem w_lsc_b {s : Nat → Nat} {t u : Nat} {f : Nat → Nat} (hp : ∀ e, e < 10 → s (251 + e) ≤ 99) (hf : ∀ e, e < s 3 → u.testBit e = false → f (u ||| 2 ^ e) = 4294967295 ∨ f (u ||| 2 ^ e) ≤ 100000) (hE : s 3 ≤ 10) : ∀ e, e ≤ s 3 → w_lsc s t u f e = 4294967295 ∨ w_lsc s t u f e ≤ 100100
  | 0, _ => Or.inl rfl
  | e + 1, he => by
    have ih := w_lsc_b (t := t) hp hf hE e (by omega)
    have h1 := hp e (by omega)
    unfold w_lsc
    split
    · rename_i h
      have h2 := hf e (by omega) h.1
      have h3 := h.2.2.1
      omega
    · exact ih
section ST2
variable {X : Nat × (Nat → Int32)} {tx : List Int32} {D : Nat} {m j : Nat → Nat → Nat} {w : (Nat × Nat) × Bool} {s : Nat → Nat}
theorem s_Ma_leastRest (hF : c_F m 4 s) (hA : c_A m 26 s) (hS : i_S s) (hI : i_D s) (hD : 3 ≤ D) {u turn t : Nat} (hu : u < 2 ^ s 3) (hn : turn < m 167 3) (h8 : m 167 3 ≤ 8) (hm : m 169 turn = w_enders s t) (hr : ∀ e, e < s 3 → u.testBit e = false → m 170 (u ||| 2 ^ e) = 4294967295 ∨ m 170 (u ||| 2 ^ e) ≤ 100000) : a_ex X tx a_T D 127 [.ref 167, .int (nI u), .int (nI turn)] (b_h m j w) = some ((b_h m j w), some (.int (nI (w_lsc s t u (m 170) (s 3))))) := by
  obtain ⟨d, rfl⟩ : ∃ d, D = d + 1 := ⟨D - 1, by omega⟩
  rw [e_Ma_leastRest, q_Ma_leastRest_0]
  have hE := i_S_E hS
  have e4 := c_F4_E hF
  have hP : 2 ^ s 3 ≤ 1024 := Nat.pow_le_pow_right (n := 2) (by decide) hE
  have hF1 : w_enders s t &&& (u ^^^ 4294967295) < 1024 := Nat.lt_of_le_of_lt Nat.and_le_left (z_set_le hE)
  have hbt : ∀ e, e < s 3 → (w_enders s t &&& (u ^^^ 4294967295)).testBit e = (w_ends s e t && !(u.testBit e)) := fun e he => by
    unfold w_enders w_ends
    rw [Nat.testBit_and, z_set_bt, Nat.testBit_xor, z_tbF e (by omega), decide_eq_true he, Bool.true_and, Bool.xor_true]
  have s0 := s_Ma_freeFor (X := X) (tx := tx) (D := d) (m := m) (j := j) (w := w) hS (by omega) hu hn h8 hm
  simp (disch := omega) only [s0, ↓bc_167, ↓br_167_0, ↓bc_4, ↓b_t0, ↓b_t1, ↓b_t2, ↓b_t3, ↓b_t4, ↓b_t5, ↓b_t6, Nat.zero_add, Nat.le_refl, b_rs, b_rn, b_r2, b_ss, b_sn, b_bt, b_bf, b_b0, b_b1, b_bw, b_shl, b_or, b_iv, b_jv, b_sI, b_sJ, ↓z_hl, z_b0, z_b1, z_b2, b_and1c, b_and1z, if_true, if_false, nI_add, pk_mul, b_cl, b_lt, b_le, b_eq, b_eq0, b_le0, b_0lt, b_0le, b_lt0]
  rw [← l_Ma_leastRest_9]
  refine z_run (Q := fun r => r = some (b_h m j w, some (.int (nI (w_lsc s t u (m 170) (s 3)))))) (fun k L h => ∃ e x, k + e = s 3 ∧ L = [.ref 167, .int (nI u), .int (nI turn), .int (nI (w_lsc s t u (m 170) e)), .int (nI (w_enders s t &&& (u ^^^ 4294967295))), .int (nI e), x] ∧ h = b_h m j w) 0 ?_ (s 3) _ _ ⟨0, _, by omega, rfl, rfl⟩ _ (z_fu (by omega))
  rintro k L h ⟨e, x, hk, rfl, rfl⟩ f _
  rw [l_Ma_leastRest_9, q_Ma_leastRest_9]
  by_cases c : e = s 3
  · left
    simp (disch := omega) only [e4, ↓bc_167, ↓br_167_0, ↓bc_4, ↓b_t0, ↓b_t1, ↓b_t2, ↓b_t3, ↓b_t4, ↓b_t5, ↓b_t6, Nat.zero_add, Nat.le_refl, b_rs, b_rn, b_r2, b_ss, b_sn, b_bt, b_bf, b_b0, b_b1, b_bw, b_shl, b_or, b_iv, b_jv, b_sI, b_sJ, ↓z_hl, z_b0, z_b1, z_b2, b_and1c, b_and1z, if_true, if_false, nI_add, pk_mul, b_cl, b_lt, b_le, b_eq, b_eq0, b_le0, b_0lt, b_0le, b_lt0]
    rw [if_pos (by omega), c]
  · right
    have h1 := hbt e (by omega)
    have h2 := w_lsc_b (t := t) (u := u) (f := m 170) (fun e he => i_D_pr hI e he) hr hE e (by omega)
    have hp := i_D_pr hI e (by omega)
    have hw : w_lsc s t u (m 170) (e + 1) = if u.testBit e = false ∧ w_ends s e t = true ∧ m 170 (u ||| 2 ^ e) ≠ 4294967295 ∧ (w_lsc s t u (m 170) e = 4294967295 ∨ m 170 (u ||| 2 ^ e) + s (251 + e) < w_lsc s t u (m 170) e) then m 170 (u ||| 2 ^ e) + s (251 + e) else w_lsc s t u (m 170) e := rfl
    cases hb : (w_ends s e t && !(u.testBit e)) with
    | false =>
      rw [hb] at h1
      have e5 : w_lsc s t u (m 170) (e + 1) = w_lsc s t u (m 170) e := by
        rw [hw, if_neg]
        rintro ⟨q1, q2, _⟩
        rw [q1, q2] at hb
        exact absurd hb (by decide)
      refine ⟨k - 1, [.ref 167, .int (nI u), .int (nI turn), .int (nI (w_lsc s t u (m 170) e)), .int (nI (w_enders s t &&& (u ^^^ 4294967295))), .int (nI (e + 1)), x], _, by omega, ⟨e + 1, x, by omega, by rw [e5], rfl⟩, ?_⟩
      simp (disch := omega) only [e4, s_EM_isIn, h1, ↓bc_167, ↓br_167_0, ↓bc_4, ↓b_t0, ↓b_t1, ↓b_t2, ↓b_t3, ↓b_t4, ↓b_t5, ↓b_t6, Nat.zero_add, Nat.le_refl, b_rs, b_rn, b_r2, b_ss, b_sn, b_bt, b_bf, b_b0, b_b1, b_bw, b_shl, b_or, b_iv, b_jv, b_sI, b_sJ, ↓z_hl, z_b0, z_b1, z_b2, b_and1c, b_and1z, if_true, if_false, nI_add, pk_mul, b_cl, b_lt, b_le, b_eq, b_eq0, b_le0, b_0lt, b_0le, b_lt0]
      rw [if_neg (by omega)]
    | true =>
      rw [hb] at h1
      rw [Bool.and_eq_true, Bool.not_eq_true'] at hb
      have hr1 := hr e (by omega) hb.2
      have s1 := s_Ma_coinWith (X := X) (tx := tx) (D := d) (m := m) (j := j) (w := w) hA hS hI (by omega) hu (e := e) (by omega) (by omega)
      by_cases c2 : m 170 (u ||| 2 ^ e) = 4294967295
      · rw [if_pos c2] at s1
        have e5 : w_lsc s t u (m 170) (e + 1) = w_lsc s t u (m 170) e := by rw [hw, if_neg (fun q => q.2.2.1 c2)]
        refine ⟨k - 1, [.ref 167, .int (nI u), .int (nI turn), .int (nI (w_lsc s t u (m 170) e)), .int (nI (w_enders s t &&& (u ^^^ 4294967295))), .int (nI (e + 1)), .int (nI 4294967295)], _, by omega, ⟨e + 1, _, by omega, by rw [e5], rfl⟩, ?_⟩
        simp (disch := omega) only [e4, s_EM_isIn, h1, s1, Nat.one_ne_zero, ↓bc_167, ↓br_167_0, ↓bc_4, ↓b_t0, ↓b_t1, ↓b_t2, ↓b_t3, ↓b_t4, ↓b_t5, ↓b_t6, Nat.zero_add, Nat.le_refl, b_rs, b_rn, b_r2, b_ss, b_sn, b_bt, b_bf, b_b0, b_b1, b_bw, b_shl, b_or, b_iv, b_jv, b_sI, b_sJ, ↓z_hl, z_b0, z_b1, z_b2, b_and1c, b_and1z, if_true, if_false, nI_add, pk_mul, b_cl, b_lt, b_le, b_eq, b_eq0, b_le0, b_0lt, b_0le, b_lt0]
        rw [if_neg (by omega)]
      · rw [if_neg c2] at s1
        have hv : m 170 (u ||| 2 ^ e) + s (251 + e) ≤ 100099 := by omega
        have hv2 : ¬ m 170 (u ||| 2 ^ e) + s (251 + e) = 4294967295 := by omega
        by_cases c3 : w_lsc s t u (m 170) e = 4294967295
        · have e5 : w_lsc s t u (m 170) (e + 1) = m 170 (u ||| 2 ^ e) + s (251 + e) := by rw [hw, if_pos ⟨hb.2, hb.1, c2, Or.inl c3⟩]
          refine ⟨k - 1, [.ref 167, .int (nI u), .int (nI turn), .int (nI (m 170 (u ||| 2 ^ e) + s (251 + e))), .int (nI (w_enders s t &&& (u ^^^ 4294967295))), .int (nI (e + 1)), .int (nI (m 170 (u ||| 2 ^ e) + s (251 + e)))], _, by omega, ⟨e + 1, _, by omega, by rw [e5], rfl⟩, ?_⟩
          rw [c3]
          simp (disch := omega) only [e4, s_EM_isIn, h1, s1, Nat.one_ne_zero, ↓bc_167, ↓br_167_0, ↓bc_4, ↓b_t0, ↓b_t1, ↓b_t2, ↓b_t3, ↓b_t4, ↓b_t5, ↓b_t6, Nat.zero_add, Nat.le_refl, b_rs, b_rn, b_r2, b_ss, b_sn, b_bt, b_bf, b_b0, b_b1, b_bw, b_shl, b_or, b_iv, b_jv, b_sI, b_sJ, ↓z_hl, z_b0, z_b1, z_b2, b_and1c, b_and1z, if_true, if_false, nI_add, pk_mul, b_cl, b_lt, b_le, b_eq, b_eq0, b_le0, b_0lt, b_0le, b_lt0]
          rw [if_neg (by omega), if_neg hv2]
        · by_cases c4 : m 170 (u ||| 2 ^ e) + s (251 + e) < w_lsc s t u (m 170) e
          · have e5 : w_lsc s t u (m 170) (e + 1) = m 170 (u ||| 2 ^ e) + s (251 + e) := by rw [hw, if_pos ⟨hb.2, hb.1, c2, Or.inr c4⟩]
            refine ⟨k - 1, [.ref 167, .int (nI u), .int (nI turn), .int (nI (m 170 (u ||| 2 ^ e) + s (251 + e))), .int (nI (w_enders s t &&& (u ^^^ 4294967295))), .int (nI (e + 1)), .int (nI (m 170 (u ||| 2 ^ e) + s (251 + e)))], _, by omega, ⟨e + 1, _, by omega, by rw [e5], rfl⟩, ?_⟩
            simp (disch := omega) only [e4, s_EM_isIn, h1, s1, Nat.one_ne_zero, ↓bc_167, ↓br_167_0, ↓bc_4, ↓b_t0, ↓b_t1, ↓b_t2, ↓b_t3, ↓b_t4, ↓b_t5, ↓b_t6, Nat.zero_add, Nat.le_refl, b_rs, b_rn, b_r2, b_ss, b_sn, b_bt, b_bf, b_b0, b_b1, b_bw, b_shl, b_or, b_iv, b_jv, b_sI, b_sJ, ↓z_hl, z_b0, z_b1, z_b2, b_and1c, b_and1z, if_true, if_false, nI_add, pk_mul, b_cl, b_lt, b_le, b_eq, b_eq0, b_le0, b_0lt, b_0le, b_lt0]
            rw [if_neg (by omega), if_neg hv2, if_neg c3, if_neg (by omega)]
          · have e5 : w_lsc s t u (m 170) (e + 1) = w_lsc s t u (m 170) e := by
              rw [hw, if_neg]
              rintro ⟨_, _, _, q | q⟩
              · exact c3 q
              · exact c4 q
            refine ⟨k - 1, [.ref 167, .int (nI u), .int (nI turn), .int (nI (w_lsc s t u (m 170) e)), .int (nI (w_enders s t &&& (u ^^^ 4294967295))), .int (nI (e + 1)), .int (nI (m 170 (u ||| 2 ^ e) + s (251 + e)))], _, by omega, ⟨e + 1, _, by omega, by rw [e5], rfl⟩, ?_⟩
            simp (disch := omega) only [e4, s_EM_isIn, h1, s1, Nat.one_ne_zero, ↓bc_167, ↓br_167_0, ↓bc_4, ↓b_t0, ↓b_t1, ↓b_t2, ↓b_t3, ↓b_t4, ↓b_t5, ↓b_t6, Nat.zero_add, Nat.le_refl, b_rs, b_rn, b_r2, b_ss, b_sn, b_bt, b_bf, b_b0, b_b1, b_bw, b_shl, b_or, b_iv, b_jv, b_sI, b_sJ, ↓z_hl, z_b0, z_b1, z_b2, b_and1c, b_and1z, if_true, if_false, nI_add, pk_mul, b_cl, b_lt, b_le, b_eq, b_eq0, b_le0, b_0lt, b_0le, b_lt0]
            rw [if_neg (by omega), if_neg hv2, if_neg c3, if_pos (by omega)]
end ST2
