/-! MATCHES: the first best -/
section ST6
variable {X : Nat × (Nat → Int32)} {tx : List Int32} {D : Nat} {m j : Nat → Nat → Nat} {w : (Nat × Nat) × Bool} {s : Nat → Nat}
/-- may e be given next, at the least coin -/
def w_fb (s : Nat → Nat) (t u : Nat) (f : Nat → Nat) (e : Nat) : Bool := w_ends s e t && !(u.testBit e) && decide ((if f (u ||| 2 ^ e) = 4294967295 then 4294967295 else f (u ||| 2 ^ e) + s (251 + e)) = f u)
theorem s_Ma_firstBest (hF : c_F m 4 s) (hA : c_A m 26 s) (hS : i_S s) (hI : i_D s) (hD : 3 ≤ D) {u turn t : Nat} (hu : u < 2 ^ s 3) (hn : turn < m 167 3) (h8 : m 167 3 ≤ 8) (hm : m 169 turn = w_enders s t) (hr0 : m 170 u < 4294967296) (hr : ∀ e, e < s 3 → u.testBit e = false → m 170 (u ||| 2 ^ e) = 4294967295 ∨ m 170 (u ||| 2 ^ e) ≤ 100000) : ∃ v, a_ex X tx a_T D 132 [.ref 167, .int (nI u), .int (nI turn)] (b_h m j w) = some (b_h m j w, some (.int (nI v))) ∧ ((v = 4294967295 ∧ ∀ e, e < s 3 → w_fb s t u (m 170) e = false) ∨ (v < s 3 ∧ w_fb s t u (m 170) v = true ∧ ∀ e, e < v → w_fb s t u (m 170) e = false)) := by
  obtain ⟨d, rfl⟩ : ∃ d, D = d + 1 := ⟨D - 1, by omega⟩
  rw [e_Ma_firstBest, q_Ma_firstBest_0]
  have hE := i_S_E hS
  have e4 := c_F4_E hF
  have hP : 2 ^ s 3 ≤ 1024 := Nat.pow_le_pow_right (n := 2) (by decide) hE
  have hF1 : w_enders s t &&& (u ^^^ 4294967295) < 1024 := Nat.lt_of_le_of_lt Nat.and_le_left (z_set_le hE)
  have hbt : ∀ e, e < s 3 → (w_enders s t &&& (u ^^^ 4294967295)).testBit e = (w_ends s e t && !(u.testBit e)) := fun e he => by
    unfold w_enders w_ends
    rw [Nat.testBit_and, z_set_bt, Nat.testBit_xor, z_tbF e (by omega), decide_eq_true he, Bool.true_and, Bool.xor_true]
  have s0 := s_Ma_freeFor (X := X) (tx := tx) (D := d) (m := m) (j := j) (w := w) hS (by omega) hu hn h8 hm
  simp (disch := omega) only [s0, ↓bc_167, ↓br_167_0, ↓bc_4, ↓b_t0, ↓b_t1, ↓b_t2, ↓b_t3, ↓b_t4, ↓b_t5, ↓b_t6, Nat.zero_add, Nat.le_refl, b_rs, b_rn, b_r2, b_ss, b_sn, b_bt, b_bf, b_b0, b_b1, b_bw, b_shl, b_or, b_iv, b_jv, b_sI, b_sJ, ↓z_hl, z_b0, z_b1, z_b2, b_and1c, b_and1z, if_true, if_false, nI_add, pk_mul, b_cl, b_lt, b_le, b_eq, b_eq0, b_le0, b_0lt, b_0le, b_lt0]
  rw [← l_Ma_firstBest_7]
  refine z_run (Q := fun r => ∃ v, r = some (b_h m j w, some (.int (nI v))) ∧ ((v = 4294967295 ∧ ∀ e, e < s 3 → w_fb s t u (m 170) e = false) ∨ (v < s 3 ∧ w_fb s t u (m 170) v = true ∧ ∀ e, e < v → w_fb s t u (m 170) e = false))) (fun k L h => ∃ e, k + e = s 3 ∧ L = [.ref 167, .int (nI u), .int (nI turn), .int (nI (w_enders s t &&& (u ^^^ 4294967295))), .int (nI e)] ∧ h = b_h m j w ∧ ∀ q, q < e → w_fb s t u (m 170) q = false) 0 ?_ (s 3) _ _ ⟨0, by omega, rfl, rfl, fun q hq => absurd hq (Nat.not_lt_zero q)⟩ _ (z_fu (by omega))
  rintro k L h ⟨e, hk, rfl, rfl, hq⟩ f _
  rw [l_Ma_firstBest_7, q_Ma_firstBest_7]
  by_cases c : e = s 3
  · left
    refine ⟨4294967295, ?_, Or.inl ⟨rfl, by rw [← c]; exact hq⟩⟩
    simp (disch := omega) only [e4, ↓bc_167, ↓br_167_0, ↓bc_4, ↓b_t0, ↓b_t1, ↓b_t2, ↓b_t3, ↓b_t4, ↓b_t5, ↓b_t6, Nat.zero_add, Nat.le_refl, b_rs, b_rn, b_r2, b_ss, b_sn, b_bt, b_bf, b_b0, b_b1, b_bw, b_shl, b_or, b_iv, b_jv, b_sI, b_sJ, ↓z_hl, z_b0, z_b1, z_b2, b_and1c, b_and1z, if_true, if_false, nI_add, pk_mul, b_cl, b_lt, b_le, b_eq, b_eq0, b_le0, b_0lt, b_0le, b_lt0]
    rw [if_pos (by omega)]
  · have h1 := hbt e (by omega)
    have hp := i_D_pr hI e (by omega)
    have next : w_fb s t u (m 170) e = false → ∀ q, q < e + 1 → w_fb s t u (m 170) q = false := fun g q h2 => by
      by_cases c9 : q = e
      · rw [c9]; exact g
      · exact hq q (by omega)
    cases hb : (w_ends s e t && !(u.testBit e)) with
    | false =>
      right
      rw [hb] at h1
      refine ⟨k - 1, [.ref 167, .int (nI u), .int (nI turn), .int (nI (w_enders s t &&& (u ^^^ 4294967295))), .int (nI (e + 1))], _, by omega, ⟨e + 1, by omega, rfl, rfl, next (by unfold w_fb; rw [hb, Bool.false_and])⟩, ?_⟩
      simp (disch := omega) only [e4, s_EM_isIn, h1, ↓bc_167, ↓br_167_0, ↓bc_4, ↓b_t0, ↓b_t1, ↓b_t2, ↓b_t3, ↓b_t4, ↓b_t5, ↓b_t6, Nat.zero_add, Nat.le_refl, b_rs, b_rn, b_r2, b_ss, b_sn, b_bt, b_bf, b_b0, b_b1, b_bw, b_shl, b_or, b_iv, b_jv, b_sI, b_sJ, ↓z_hl, z_b0, z_b1, z_b2, b_and1c, b_and1z, if_true, if_false, nI_add, pk_mul, b_cl, b_lt, b_le, b_eq, b_eq0, b_le0, b_0lt, b_0le, b_lt0]
      rw [if_neg (by omega)]
    | true =>
      rw [hb] at h1
      have hb2 := hb
      rw [Bool.and_eq_true, Bool.not_eq_true'] at hb2
      have hr1 := hr e (by omega) hb2.2
      have s2 := s_Ma_restBehind (X := X) (tx := tx) (D := d) (m := m) (j := j) (w := w) (by omega) (u := u) (by omega)
      have s1 := s_Ma_coinWith (X := X) (tx := tx) (D := d) (m := m) (j := j) (w := w) hA hS hI (by omega) hu (e := e) (by omega) (by omega)
      have hfb : w_fb s t u (m 170) e = decide ((if m 170 (u ||| 2 ^ e) = 4294967295 then 4294967295 else m 170 (u ||| 2 ^ e) + s (251 + e)) = m 170 u) := by unfold w_fb; rw [hb, Bool.true_and]
      have hlt : (if m 170 (u ||| 2 ^ e) = 4294967295 then 4294967295 else m 170 (u ||| 2 ^ e) + s (251 + e)) < 4294967296 := by split <;> omega
      generalize (if m 170 (u ||| 2 ^ e) = 4294967295 then 4294967295 else m 170 (u ||| 2 ^ e) + s (251 + e)) = V at s1 hfb hlt
      by_cases c2 : V = m 170 u
      · left
        refine ⟨e, ?_, Or.inr ⟨by omega, by rw [hfb]; exact decide_eq_true c2, hq⟩⟩
        simp (disch := omega) only [e4, s_EM_isIn, h1, s1, s2, Nat.one_ne_zero, ↓bc_167, ↓br_167_0, ↓bc_4, ↓b_t0, ↓b_t1, ↓b_t2, ↓b_t3, ↓b_t4, ↓b_t5, ↓b_t6, Nat.zero_add, Nat.le_refl, b_rs, b_rn, b_r2, b_ss, b_sn, b_bt, b_bf, b_b0, b_b1, b_bw, b_shl, b_or, b_iv, b_jv, b_sI, b_sJ, ↓z_hl, z_b0, z_b1, z_b2, b_and1c, b_and1z, if_true, if_false, nI_add, pk_mul, b_cl, b_lt, b_le, b_eq, b_eq0, b_le0, b_0lt, b_0le, b_lt0]
        rw [if_neg (by omega), if_pos c2]
      · right
        refine ⟨k - 1, [.ref 167, .int (nI u), .int (nI turn), .int (nI (w_enders s t &&& (u ^^^ 4294967295))), .int (nI (e + 1))], _, by omega, ⟨e + 1, by omega, rfl, rfl, next (by rw [hfb]; exact decide_eq_false c2)⟩, ?_⟩
        simp (disch := omega) only [e4, s_EM_isIn, h1, s1, s2, Nat.one_ne_zero, ↓bc_167, ↓br_167_0, ↓bc_4, ↓b_t0, ↓b_t1, ↓b_t2, ↓b_t3, ↓b_t4, ↓b_t5, ↓b_t6, Nat.zero_add, Nat.le_refl, b_rs, b_rn, b_r2, b_ss, b_sn, b_bt, b_bf, b_b0, b_b1, b_bw, b_shl, b_or, b_iv, b_jv, b_sI, b_sJ, ↓z_hl, z_b0, z_b1, z_b2, b_and1c, b_and1z, if_true, if_false, nI_add, pk_mul, b_cl, b_lt, b_le, b_eq, b_eq0, b_le0, b_0lt, b_0le, b_lt0]
        rw [if_neg (by omega), if_neg c2]
end ST6
