/-! WHAT MAY BE SAID: said -/
theorem b_lemm {k : Nat} (hk : k < 4294967296) : (nI 4294967295 ≤ nI k) = (k < 2147483648 ∨ k = 4294967295) := by
  by_cases c : k < 2147483648
  · rw [b_lem (by decide) (by decide) c]
    exact propext ⟨fun _ => Or.inl c, fun _ => trivial⟩
  · by_cases c2 : k = 4294967295
    · subst c2
      exact propext ⟨fun _ => Or.inr rfl, fun _ => Int32.le_refl _⟩
    · refine propext ⟨fun h => ?_, fun h => absurd h (by omega)⟩
      rw [Int32.le_iff_toInt_le] at h
      have hn : ∀ a : Nat, 2147483648 ≤ a → a < 4294967296 → (nI a).toInt = (a : Int) - 4294967296 := fun a h1 h2 => by
        unfold nI
        rw [Int32.toInt_ofNat', Int.bmod_def]
        have hs : Int32.size = 4294967296 := rfl
        rw [hs]
        split <;> omega
      rw [hn _ (by decide) (by decide), hn k (by omega) hk] at h
      omega
/-- the so manieth that is true, or how many -/
def w_sd (c : Nat → Bool) (k : Nat) : Nat → Nat → Nat → Nat
  | 0, a, _ => if k = 4294967295 then a else 4294967295
  | n + 1, a, b => if c b = true then (if a = k then b else w_sd c k n (a + 1) (b + 1)) else w_sd c k n a (b + 1)
def w_qsaid (s p nm nb : Nat → Nat) (parts k : Nat) : Nat := if parts = 0 then 4294967295 else if k < 2147483648 ∨ k = 4294967295 then w_sd (fun t => w_holds s t p nm nb parts) k (s 2) 0 0 else 4294967295
section SE4
variable {X : Nat × (Nat → Int32)} {tx : List Int32} {D : Nat} {m j : Nat → Nat → Nat} {w : (Nat × Nat) × Bool} {s : Nat → Nat}
theorem s_EM_said (hF : c_F m 4 s) (hA : c_A m 26 s) (hS : i_S s) (hI : i_D s) (hC : r_C (m 148 0) (m 148 1) (m 149) (m 150) (m 151) s) (hD : 7 ≤ D) {k : Nat} (hk : k < 4294967296) : a_ex X tx a_T D 189 [.ref 0, .int (nI k)] (b_h m j w) = some ((b_h m j w), some (.int (nI (w_qsaid s (m 149) (m 150) (m 151) (m 148 1) k)))) := by
  obtain ⟨d, rfl⟩ : ∃ d, D = d + 1 := ⟨D - 1, by omega⟩
  rw [e_EM_said, q_EM_said_0]
  have hT := i_S_T hS
  obtain ⟨h1, h2, h3, h4, h5, h6⟩ := id hC
  unfold w_qsaid
  have e4 := c_F4_T hF
  by_cases c0 : m 148 1 = 0
  · have e0 := h3.mpr c0
    rw [if_pos c0]
    simp (disch := omega) only [e0, b_lemm hk, ↓bc_0, ↓br_0_6, ↓bc_148, ↓br_0_1, ↓bc_4, ↓br_0_3, ↓bc_26, ↓b_t0, ↓b_t1, ↓b_t2, ↓b_t3, ↓b_t4, ↓b_t5, ↓b_t6, Nat.zero_add, Nat.le_refl, b_rs, b_rn, b_r2, b_ss, b_sn, b_bt, b_bf, b_b0, b_b1, b_bw, b_shl, b_or, b_iv, b_jv, b_sI, b_sJ, ↓z_hl, z_b0, z_b1, z_b2, b_and1c, b_and1z, if_true, if_false, nI_add, pk_mul, b_cl, b_lt, b_le, b_eq, b_eq0, b_le0, b_0lt, b_0le, b_lt0]
  · have e0 : m 148 0 ≠ 0 := fun g => c0 (h3.mp g)
    rw [if_neg c0]
    by_cases c1 : k < 2147483648 ∨ k = 4294967295
    · rw [if_pos c1]
      simp (disch := omega) only [b_lemm hk, ↓bc_0, ↓br_0_6, ↓bc_148, ↓br_0_1, ↓bc_4, ↓br_0_3, ↓bc_26, ↓b_t0, ↓b_t1, ↓b_t2, ↓b_t3, ↓b_t4, ↓b_t5, ↓b_t6, Nat.zero_add, Nat.le_refl, b_rs, b_rn, b_r2, b_ss, b_sn, b_bt, b_bf, b_b0, b_b1, b_bw, b_shl, b_or, b_iv, b_jv, b_sI, b_sJ, ↓z_hl, z_b0, z_b1, z_b2, b_and1c, b_and1z, if_true, if_false, nI_add, pk_mul, b_cl, b_lt, b_le, b_eq, b_eq0, b_le0, b_0lt, b_0le, b_lt0]
      rw [if_neg e0, if_pos c1, ← l_EM_said_13]
      refine z_run (Q := fun r => r = some (b_h m j w, some (.int (nI (w_sd (fun t => w_holds s t (m 149) (m 150) (m 151) (m 148 1)) k (s 2) 0 0))))) (fun q L h => ∃ a b, q + b = s 2 ∧ a ≤ b ∧ L = [.ref 0, .int (nI k), .int (nI a), .int (nI b)] ∧ h = b_h m j w ∧ w_sd (fun t => w_holds s t (m 149) (m 150) (m 151) (m 148 1)) k (s 2) 0 0 = w_sd (fun t => w_holds s t (m 149) (m 150) (m 151) (m 148 1)) k q a b) 0 ?_ (s 2) _ _ ⟨0, 0, by omega, by omega, rfl, rfl, rfl⟩ _ (z_fu (by omega))
      rintro q L h ⟨a, b, hq, hab, rfl, rfl, hv⟩ f _
      rw [l_EM_said_13, q_EM_said_13]
      by_cases hb : b = s 2
      · left
        have hq0 : q = 0 := by omega
        subst hq0
        rw [hv]
        rw [show w_sd (fun t => w_holds s t (m 149) (m 150) (m 151) (m 148 1)) k 0 a b = if k = 4294967295 then a else 4294967295 from rfl]
        simp (disch := omega) only [e4, ↓bc_0, ↓br_0_6, ↓bc_148, ↓br_0_1, ↓bc_4, ↓br_0_3, ↓bc_26, ↓b_t0, ↓b_t1, ↓b_t2, ↓b_t3, ↓b_t4, ↓b_t5, ↓b_t6, Nat.zero_add, Nat.le_refl, b_rs, b_rn, b_r2, b_ss, b_sn, b_bt, b_bf, b_b0, b_b1, b_bw, b_shl, b_or, b_iv, b_jv, b_sI, b_sJ, ↓z_hl, z_b0, z_b1, z_b2, b_and1c, b_and1z, if_true, if_false, nI_add, pk_mul, b_cl, b_lt, b_le, b_eq, b_eq0, b_le0, b_0lt, b_0le, b_lt0]
        rw [if_pos (by omega)]
        by_cases c : k = 4294967295
        · rw [if_pos c, if_pos c]
        · rw [if_neg c, if_neg c]
      · obtain ⟨q, rfl⟩ : ∃ p, q = p + 1 := ⟨q - 1, by omega⟩
        have hv2 : w_sd (fun t => w_holds s t (m 149) (m 150) (m 151) (m 148 1)) k (q + 1) a b = if w_holds s b (m 149) (m 150) (m 151) (m 148 1) = true then (if a = k then b else w_sd (fun t => w_holds s t (m 149) (m 150) (m 151) (m 148 1)) k q (a + 1) (b + 1)) else w_sd (fun t => w_holds s t (m 149) (m 150) (m 151) (m 148 1)) k q a (b + 1) := rfl
        rw [hv2] at hv
        have s1 := s_Se_holds (X := X) (tx := tx) (D := d) (j := j) (w := w) hF hA hS hI hC (by omega) (t := b) (by omega)
        cases hh : w_holds s b (m 149) (m 150) (m 151) (m 148 1) with
        | true =>
          rw [hh] at s1 hv
          rw [if_pos rfl] at hv
          by_cases c : a = k
          · left
            rw [if_pos c] at hv
            rw [hv]
            simp (disch := omega) only [e4, s1, Nat.one_ne_zero, ↓bc_0, ↓br_0_6, ↓bc_148, ↓br_0_1, ↓bc_4, ↓br_0_3, ↓bc_26, ↓b_t0, ↓b_t1, ↓b_t2, ↓b_t3, ↓b_t4, ↓b_t5, ↓b_t6, Nat.zero_add, Nat.le_refl, b_rs, b_rn, b_r2, b_ss, b_sn, b_bt, b_bf, b_b0, b_b1, b_bw, b_shl, b_or, b_iv, b_jv, b_sI, b_sJ, ↓z_hl, z_b0, z_b1, z_b2, b_and1c, b_and1z, if_true, if_false, nI_add, pk_mul, b_cl, b_lt, b_le, b_eq, b_eq0, b_le0, b_0lt, b_0le, b_lt0]
            rw [if_neg (by omega), if_pos c]
          · right
            rw [if_neg c] at hv
            refine ⟨q, [.ref 0, .int (nI k), .int (nI (a + 1)), .int (nI (b + 1))], _, by omega, ⟨a + 1, b + 1, by omega, by omega, rfl, rfl, hv⟩, ?_⟩
            simp (disch := omega) only [e4, s1, Nat.one_ne_zero, ↓bc_0, ↓br_0_6, ↓bc_148, ↓br_0_1, ↓bc_4, ↓br_0_3, ↓bc_26, ↓b_t0, ↓b_t1, ↓b_t2, ↓b_t3, ↓b_t4, ↓b_t5, ↓b_t6, Nat.zero_add, Nat.le_refl, b_rs, b_rn, b_r2, b_ss, b_sn, b_bt, b_bf, b_b0, b_b1, b_bw, b_shl, b_or, b_iv, b_jv, b_sI, b_sJ, ↓z_hl, z_b0, z_b1, z_b2, b_and1c, b_and1z, if_true, if_false, nI_add, pk_mul, b_cl, b_lt, b_le, b_eq, b_eq0, b_le0, b_0lt, b_0le, b_lt0]
            rw [if_neg (by omega), if_neg c]
        | false =>
          rw [hh] at s1 hv
          rw [if_neg (by decide)] at hv
          right
          refine ⟨q, [.ref 0, .int (nI k), .int (nI a), .int (nI (b + 1))], _, by omega, ⟨a, b + 1, by omega, by omega, rfl, rfl, hv⟩, ?_⟩
          simp (disch := omega) only [e4, s1, ↓bc_0, ↓br_0_6, ↓bc_148, ↓br_0_1, ↓bc_4, ↓br_0_3, ↓bc_26, ↓b_t0, ↓b_t1, ↓b_t2, ↓b_t3, ↓b_t4, ↓b_t5, ↓b_t6, Nat.zero_add, Nat.le_refl, b_rs, b_rn, b_r2, b_ss, b_sn, b_bt, b_bf, b_b0, b_b1, b_bw, b_shl, b_or, b_iv, b_jv, b_sI, b_sJ, ↓z_hl, z_b0, z_b1, z_b2, b_and1c, b_and1z, if_true, if_false, nI_add, pk_mul, b_cl, b_lt, b_le, b_eq, b_eq0, b_le0, b_0lt, b_0le, b_lt0]
          rw [if_neg (by omega)]
    · rw [if_neg c1]
      simp (disch := omega) only [b_lemm hk, ↓bc_0, ↓br_0_6, ↓bc_148, ↓br_0_1, ↓bc_4, ↓br_0_3, ↓bc_26, ↓b_t0, ↓b_t1, ↓b_t2, ↓b_t3, ↓b_t4, ↓b_t5, ↓b_t6, Nat.zero_add, Nat.le_refl, b_rs, b_rn, b_r2, b_ss, b_sn, b_bt, b_bf, b_b0, b_b1, b_bw, b_shl, b_or, b_iv, b_jv, b_sI, b_sJ, ↓z_hl, z_b0, z_b1, z_b2, b_and1c, b_and1z, if_true, if_false, nI_add, pk_mul, b_cl, b_lt, b_le, b_eq, b_eq0, b_le0, b_0lt, b_0le, b_lt0]
      rw [if_neg e0, if_neg c1]
theorem s_Mo_said (hS : i_S (m 236)) (hI : i_D (m 236)) {parts : Nat} {p nm nb : Nat → Nat} {ones : Nat} (hC : r_C ones parts p nm nb (m 236)) (hD : 7 ≤ D) {k : Nat} (hk : k < 4294967296) : ∃ m2, a_ex X tx a_T D 311 [.ref 234, .int (nI k)] (b_h m j w) = some (b_h m2 j w, some (.int (nI (w_qsaid (m 236) p nm nb parts k)))) ∧ z_fr 253 253 (b_r m 234 (b_s (m 234) 0 0)) m2 := by
  obtain ⟨d, rfl⟩ : ∃ d, D = d + 1 := ⟨D - 1, by omega⟩
  rw [e_Mo_said, q_Mo_said_0]
  have hS2 : i_S ((b_r m 234 (b_s (m 234) 0 0)) 236) := by rw [b_rn (by decide)]; exact hS
  have hI2 : i_D ((b_r m 234 (b_s (m 234) 0 0)) 236) := by rw [b_rn (by decide)]; exact hI
  have qq : (b_r m 234 (b_s (m 234) 0 0)) 236 = m 236 := b_rn (by decide)
  have q0 : (b_r m 234 (b_s (m 234) 0 0)) 236 0 = m 236 0 := by rw [qq]
  have q1 : (b_r m 234 (b_s (m 234) 0 0)) 236 1 = m 236 1 := by rw [qq]
  have q2 : (b_r m 234 (b_s (m 234) 0 0)) 236 2 = m 236 2 := by rw [qq]
  have q3 : (b_r m 234 (b_s (m 234) 0 0)) 236 3 = m 236 3 := by rw [qq]
  have hK := i_S_K hS
  have hM := i_S_M hS
  have hT := i_S_T hS
  have hE := i_S_E hS
  obtain ⟨h1, h2, h3, h4, h5, h6⟩ := id hC
  unfold w_qsaid
  by_cases c0 : parts = 0
  · refine ⟨_, ?_, z_fr_rf⟩
    rw [if_pos c0]
    rw [c0] at h2
    simp (disch := omega) only [h2, b_lemm hk, ↓bc_234, ↓br_234_6, ↓bc_236, ↓bx_236, bl_236, ↓b_t0, ↓b_t1, ↓b_t2, ↓b_t3, ↓b_t4, ↓b_t5, ↓b_t6, Nat.zero_add, Nat.le_refl, b_rs, b_rn, b_r2, b_ss, b_sn, b_bt, b_bf, b_b0, b_b1, b_bw, b_shl, b_or, b_iv, b_jv, b_sI, b_sJ, ↓z_hl, z_b0, z_b1, z_b2, b_and1c, b_and1z, if_true, if_false, nI_add, pk_mul, b_cl, b_lt, b_le, b_eq, b_eq0, b_le0, b_0lt, b_0le, b_lt0]
  · rw [if_neg c0]
    by_cases c1 : k < 2147483648 ∨ k = 4294967295
    · rw [if_pos c1]
      simp (disch := omega) only [h2, b_lemm hk, ↓bc_234, ↓br_234_6, ↓bc_236, ↓bx_236, bl_236, ↓b_t0, ↓b_t1, ↓b_t2, ↓b_t3, ↓b_t4, ↓b_t5, ↓b_t6, Nat.zero_add, Nat.le_refl, b_rs, b_rn, b_r2, b_ss, b_sn, b_bt, b_bf, b_b0, b_b1, b_bw, b_shl, b_or, b_iv, b_jv, b_sI, b_sJ, ↓z_hl, z_b0, z_b1, z_b2, b_and1c, b_and1z, if_true, if_false, nI_add, pk_mul, b_cl, b_lt, b_le, b_eq, b_eq0, b_le0, b_0lt, b_0le, b_lt0]
      rw [if_neg c0, if_pos c1, ← l_Mo_said_17]
      refine z_run (Q := fun r => ∃ m2, r = some (b_h m2 j w, some (.int (nI (w_sd (fun t => w_holds (m 236) t p nm nb parts) k (m 236 2) 0 0)))) ∧ z_fr 253 253 (b_r m 234 (b_s (m 234) 0 0)) m2) (fun q L h => ∃ a b m2, q + b = m 236 2 ∧ a ≤ b ∧ L = [.ref 234, .int (nI k), .int (nI a), .int (nI b)] ∧ h = b_h m2 j w ∧ z_fr 253 253 (b_r m 234 (b_s (m 234) 0 0)) m2 ∧ w_sd (fun t => w_holds (m 236) t p nm nb parts) k (m 236 2) 0 0 = w_sd (fun t => w_holds (m 236) t p nm nb parts) k q a b) 0 ?_ (m 236 2) _ _ ⟨0, 0, _, by omega, by omega, rfl, rfl, z_fr_rf, rfl⟩ _ (z_fu (by omega))
      rintro q L h ⟨a, b, m2, hq, hab, rfl, rfl, hm, hv⟩ f _
      have g6 : m2 236 = m 236 := (hm 236 (by omega)).trans qq
      rw [l_Mo_said_17, q_Mo_said_17]
      have e4 : m2 236 2 = m 236 2 := by rw [g6]
      by_cases hb : b = m 236 2
      · left
        have hq0 : q = 0 := by omega
        subst hq0
        rw [hv]
        refine ⟨m2, ?_, hm⟩
        rw [show w_sd (fun t => w_holds (m 236) t p nm nb parts) k 0 a b = if k = 4294967295 then a else 4294967295 from rfl]
        simp (disch := omega) only [e4, ↓bc_234, ↓br_234_6, ↓bc_236, ↓bx_236, bl_236, ↓b_t0, ↓b_t1, ↓b_t2, ↓b_t3, ↓b_t4, ↓b_t5, ↓b_t6, Nat.zero_add, Nat.le_refl, b_rs, b_rn, b_r2, b_ss, b_sn, b_bt, b_bf, b_b0, b_b1, b_bw, b_shl, b_or, b_iv, b_jv, b_sI, b_sJ, ↓z_hl, z_b0, z_b1, z_b2, b_and1c, b_and1z, if_true, if_false, nI_add, pk_mul, b_cl, b_lt, b_le, b_eq, b_eq0, b_le0, b_0lt, b_0le, b_lt0]
        rw [if_pos (by omega)]
        by_cases c : k = 4294967295
        · rw [if_pos c, if_pos c]
        · rw [if_neg c, if_neg c]
      · obtain ⟨q, rfl⟩ : ∃ p, q = p + 1 := ⟨q - 1, by omega⟩
        have hv2 : w_sd (fun t => w_holds (m 236) t p nm nb parts) k (q + 1) a b = if w_holds (m 236) b p nm nb parts = true then (if a = k then b else w_sd (fun t => w_holds (m 236) t p nm nb parts) k q (a + 1) (b + 1)) else w_sd (fun t => w_holds (m 236) t p nm nb parts) k q a (b + 1) := rfl
        rw [hv2] at hv
        obtain ⟨m3, s1, hm3⟩ := s_Mo_isSaid (X := X) (tx := tx) (D := d) (m := m2) (j := j) (w := w) (parts := parts) (p := p) (nm := nm) (nb := nb) (ones := ones) (by rw [g6]; exact hS) (by rw [g6]; exact hI) (by rw [g6]; exact hC) (by omega) (by omega) (t := b) (by omega)
        rw [g6] at s1
        have hm4 := z_fr_tr hm hm3
        cases hh : w_holds (m 236) b p nm nb parts with
        | true =>
          rw [hh] at s1 hv
          rw [if_pos rfl] at hv
          by_cases c : a = k
          · left
            rw [if_pos c] at hv
            rw [hv]
            refine ⟨m3, ?_, hm4⟩
            simp (disch := omega) only [e4, s1, Nat.one_ne_zero, ↓bc_234, ↓br_234_6, ↓bc_236, ↓bx_236, bl_236, ↓b_t0, ↓b_t1, ↓b_t2, ↓b_t3, ↓b_t4, ↓b_t5, ↓b_t6, Nat.zero_add, Nat.le_refl, b_rs, b_rn, b_r2, b_ss, b_sn, b_bt, b_bf, b_b0, b_b1, b_bw, b_shl, b_or, b_iv, b_jv, b_sI, b_sJ, ↓z_hl, z_b0, z_b1, z_b2, b_and1c, b_and1z, if_true, if_false, nI_add, pk_mul, b_cl, b_lt, b_le, b_eq, b_eq0, b_le0, b_0lt, b_0le, b_lt0]
            rw [if_neg (by omega), if_pos c]
          · right
            rw [if_neg c] at hv
            refine ⟨q, [.ref 234, .int (nI k), .int (nI (a + 1)), .int (nI (b + 1))], _, by omega, ⟨a + 1, b + 1, m3, by omega, by omega, rfl, rfl, hm4, hv⟩, ?_⟩
            simp (disch := omega) only [e4, s1, Nat.one_ne_zero, ↓bc_234, ↓br_234_6, ↓bc_236, ↓bx_236, bl_236, ↓b_t0, ↓b_t1, ↓b_t2, ↓b_t3, ↓b_t4, ↓b_t5, ↓b_t6, Nat.zero_add, Nat.le_refl, b_rs, b_rn, b_r2, b_ss, b_sn, b_bt, b_bf, b_b0, b_b1, b_bw, b_shl, b_or, b_iv, b_jv, b_sI, b_sJ, ↓z_hl, z_b0, z_b1, z_b2, b_and1c, b_and1z, if_true, if_false, nI_add, pk_mul, b_cl, b_lt, b_le, b_eq, b_eq0, b_le0, b_0lt, b_0le, b_lt0]
            rw [if_neg (by omega), if_neg c]
        | false =>
          rw [hh] at s1 hv
          rw [if_neg (by decide)] at hv
          right
          refine ⟨q, [.ref 234, .int (nI k), .int (nI a), .int (nI (b + 1))], _, by omega, ⟨a, b + 1, m3, by omega, by omega, rfl, rfl, hm4, hv⟩, ?_⟩
          simp (disch := omega) only [e4, s1, ↓bc_234, ↓br_234_6, ↓bc_236, ↓bx_236, bl_236, ↓b_t0, ↓b_t1, ↓b_t2, ↓b_t3, ↓b_t4, ↓b_t5, ↓b_t6, Nat.zero_add, Nat.le_refl, b_rs, b_rn, b_r2, b_ss, b_sn, b_bt, b_bf, b_b0, b_b1, b_bw, b_shl, b_or, b_iv, b_jv, b_sI, b_sJ, ↓z_hl, z_b0, z_b1, z_b2, b_and1c, b_and1z, if_true, if_false, nI_add, pk_mul, b_cl, b_lt, b_le, b_eq, b_eq0, b_le0, b_0lt, b_0le, b_lt0]
          rw [if_neg (by omega)]
    · refine ⟨_, ?_, z_fr_rf⟩
      rw [if_neg c1]
      simp (disch := omega) only [h2, b_lemm hk, ↓bc_234, ↓br_234_6, ↓bc_236, ↓bx_236, bl_236, ↓b_t0, ↓b_t1, ↓b_t2, ↓b_t3, ↓b_t4, ↓b_t5, ↓b_t6, Nat.zero_add, Nat.le_refl, b_rs, b_rn, b_r2, b_ss, b_sn, b_bt, b_bf, b_b0, b_b1, b_bw, b_shl, b_or, b_iv, b_jv, b_sI, b_sJ, ↓z_hl, z_b0, z_b1, z_b2, b_and1c, b_and1z, if_true, if_false, nI_add, pk_mul, b_cl, b_lt, b_le, b_eq, b_eq0, b_le0, b_0lt, b_0le, b_lt0]
      rw [if_neg c0, if_neg c1]
theorem t_said (h : r_R m j) (hD : 10 ≤ D) {a : Nat} (ha : a < 4294967296) : w_step X tx D 189 311 [.int (nI a)] m j w := by
  obtain ⟨m2, e, hm⟩ := s_Mo_said (X := X) (tx := tx) (D := D) (m := m) (j := j) (w := w) (r_R_st h) (r_R_dy h) (r_R_cl h) (by omega) ha
  refine ⟨m, j, m2, j, _, s_EM_said (r_R_fa h) (r_R_af h) (r_R_st h) (r_R_dy h) (r_R_cl h) (by omega) ha, e, ?_⟩
  refine r_R_idle (r_R_thr (v := 0) h) ?_ (hm 236 (by omega)) (fun c hc => hm c (by omega)) (hm 241 (by omega)) (by rw [hm 234 (by omega)])
  exact ⟨fun c hc => hm c (by omega), fun k hk => by rw [hm 0 (by omega)], by rw [hm 1 (by omega)], fun k hk => by rw [hm 156 (by omega)], by rw [hm 162 (by omega)], by rw [hm 167 (by omega)], fun k hk => by rw [hm 234 (by omega)]⟩
end SE4
