/-! MATCHES: the class's side of covers -/
def w_ndn (s : Nat → Nat) (set n : Nat) : Nat := z_sum (fun t => b_b (w_nd s set t)) n
theorem z_sum_le_n {f : Nat → Nat} {a : Nat} : ∀ b, a ≤ b → z_sum f a ≤ z_sum f b
  | 0, h => by rw [show a = 0 by omega]; exact Nat.le_refl _
  | b + 1, h => by
    by_cases c : a = b + 1
    · rw [c]; exact Nat.le_refl _
    · have := z_sum_le_n (f := f) (a := a) b (by omega)
      show z_sum f a ≤ z_sum f b + f b
      omega
theorem w_ndn_le {s : Nat → Nat} {set n : Nat} : w_ndn s set n ≤ n := by
  have := z_sum_le (g := fun t => b_b (w_nd s set t)) (b := 1) n (fun t _ => by have := b_b_lt (w_nd s set t); omega)
  unfold w_ndn
  omega
theorem w_ndn_lt {s : Nat → Nat} {set n t : Nat} (h : w_nd s set t = true) (ht : t < n) : w_ndn s set t < w_ndn s set n := by
  have h1 : w_ndn s set (t + 1) ≤ w_ndn s set n := z_sum_le_n n (by omega)
  have h2 : w_ndn s set (t + 1) = w_ndn s set t + b_b (w_nd s set t) := rfl
  rw [h, b_bt] at h2
  omega
def w_mayOf (s : Nat → Nat) (g : Bool) (t : Nat) : Nat := if g = true then w_enders s t else w_fitting s t
/-- what is gathered of the first things -/
def w_gm (m : Nat → Nat → Nat) (s : Nat → Nat) (set : Nat) (g : Bool) (n : Nat) (m2 : Nat → Nat → Nat) : Prop :=
  z_fr 167 169 m m2 ∧ (∀ k, k ≠ 3 → m2 167 k = m 167 k) ∧ m2 167 3 = w_ndn s set n ∧ ∀ t, t < n → w_nd s set t = true → m2 168 (w_ndn s set t) = t ∧ m2 169 (w_ndn s set t) = w_mayOf s g t
section CX
variable {X : Nat × (Nat → Int32)} {tx : List Int32} {D : Nat} {m j : Nat → Nat → Nat} {w : (Nat × Nat) × Bool} {s : Nat → Nat}
theorem s_Ma_gather (hF : c_F m 4 s) (hA : c_A m 26 s) (hS : i_S s) (hI : i_D s) (hD : 6 ≤ D) {set : Nat} (hs : set < 256) (g : Bool) : ∃ m2, a_ex X tx a_T D 125 [.ref 167, .int (nI set), .int (nI (b_b g))] (b_h m j w) = some (b_h m2 j w, none) ∧ w_gm m s set g (s 2) m2 := by
  obtain ⟨d, rfl⟩ : ∃ d, D = d + 1 := ⟨D - 1, by omega⟩
  rw [e_Ma_gather, q_Ma_gather_0]
  have hT := i_S_T hS
  simp (disch := omega) only [↓bc_167, ↓br_167_0, ↓bc_4, ↓br_167_1, ↓bc_26, ↓br_167_2, ↓bc_168, ↓bx_168, bl_168, ↓br_167_4, ↓bc_169, ↓bx_169, bl_169, ↓b_t0, ↓b_t1, ↓b_t2, ↓b_t3, ↓b_t4, ↓b_t5, ↓b_t6, Nat.zero_add, Nat.le_refl, b_rs, b_rn, b_r2, b_ss, b_sn, b_bt, b_bf, b_b0, b_b1, b_bw, b_shl, b_or, b_iv, b_jv, b_sI, b_sJ, ↓z_hl, z_b0, z_b1, z_b2, b_and1c, b_and1z, if_true, if_false, nI_add, pk_mul, b_cl, b_lt, b_le, b_eq, b_eq0, b_le0, b_0lt, b_0le, b_lt0]
  rw [← l_Ma_gather_5]
  refine z_run (Q := fun r => ∃ m2, r = some (b_h m2 j w, none) ∧ w_gm m s set g (s 2) m2) (fun k L h => ∃ n m3, k + n = s 2 ∧ L = [.ref 167, .int (nI set), .int (nI (b_b g)), .int (nI n)] ∧ h = b_h m3 j w ∧ w_gm m s set g n m3) 0 ?_ (s 2) _ _ ⟨0, b_r m 167 (b_s (m 167) 3 0), by omega, rfl, rfl, z_fr_r z_fr_rf (by omega), fun k hk => by rw [b_rs, b_sn hk], by rw [b_rs, b_ss]; rfl, fun t ht => absurd ht (Nat.not_lt_zero t)⟩ _ (z_fu (by omega))
  rintro k L h ⟨n, m3, hk, rfl, rfl, hg⟩ f _
  obtain ⟨g1, g2, g3, g4⟩ := id hg
  have hF3 : c_F m3 4 s := c_F_ext (fun c p1 p2 => g1 c (by omega)) (fun _ _ => rfl) hS hF
  have hA3 : c_A m3 26 s := c_A_ext (fun c p1 p2 => g1 c (by omega)) hA
  have e4 := c_F4_T hF3
  have hN : w_ndn s set n ≤ n := w_ndn_le
  rw [l_Ma_gather_5, q_Ma_gather_5]
  by_cases c : n = s 2
  · left
    refine ⟨m3, ?_, by rw [c] at hg; exact hg⟩
    simp (disch := omega) only [e4, ↓bc_167, ↓br_167_0, ↓bc_4, ↓br_167_1, ↓bc_26, ↓br_167_2, ↓bc_168, ↓bx_168, bl_168, ↓br_167_4, ↓bc_169, ↓bx_169, bl_169, ↓b_t0, ↓b_t1, ↓b_t2, ↓b_t3, ↓b_t4, ↓b_t5, ↓b_t6, Nat.zero_add, Nat.le_refl, b_rs, b_rn, b_r2, b_ss, b_sn, b_bt, b_bf, b_b0, b_b1, b_bw, b_shl, b_or, b_iv, b_jv, b_sI, b_sJ, ↓z_hl, z_b0, z_b1, z_b2, b_and1c, b_and1z, if_true, if_false, nI_add, pk_mul, b_cl, b_lt, b_le, b_eq, b_eq0, b_le0, b_0lt, b_0le, b_lt0]
    rw [if_pos (by omega)]
  · right
    have ho := w_open_le hI (t := n) (by omega)
    have h2 : w_ndn s set (n + 1) = w_ndn s set n + b_b (w_nd s set n) := rfl
    cases hnd : w_nd s set n with
    | false =>
      rw [hnd, b_bf] at h2
      refine ⟨k - 1, [.ref 167, .int (nI set), .int (nI (b_b g)), .int (nI (n + 1))], b_h m3 j w, by omega, ⟨n + 1, m3, by omega, rfl, rfl, g1, g2, by rw [g3, h2]; rfl, fun t ht hn2 => ?_⟩, ?_⟩
      · by_cases q : t = n
        · rw [q, hnd] at hn2
          exact absurd hn2 (by decide)
        · exact g4 t (by omega) hn2
      · unfold w_nd at hnd
        cases hb : set.testBit n with
        | false =>
          simp (disch := omega) only [e4, s_EM_isIn, hb, ↓bc_167, ↓br_167_0, ↓bc_4, ↓br_167_1, ↓bc_26, ↓br_167_2, ↓bc_168, ↓bx_168, bl_168, ↓br_167_4, ↓bc_169, ↓bx_169, bl_169, ↓b_t0, ↓b_t1, ↓b_t2, ↓b_t3, ↓b_t4, ↓b_t5, ↓b_t6, Nat.zero_add, Nat.le_refl, b_rs, b_rn, b_r2, b_ss, b_sn, b_bt, b_bf, b_b0, b_b1, b_bw, b_shl, b_or, b_iv, b_jv, b_sI, b_sJ, ↓z_hl, z_b0, z_b1, z_b2, b_and1c, b_and1z, if_true, if_false, nI_add, pk_mul, b_cl, b_lt, b_le, b_eq, b_eq0, b_le0, b_0lt, b_0le, b_lt0]
          rw [if_neg (by omega)]
        | true =>
          rw [hb, Bool.true_and] at hnd
          have h0 : w_open s n = 0 := by
            have := of_decide_eq_false hnd
            omega
          simp (disch := omega) only [e4, s_EM_isIn, hb, s_Af_allOpen26 hF3 hA3 hS hI, h0, Nat.one_ne_zero, ↓bc_167, ↓br_167_0, ↓bc_4, ↓br_167_1, ↓bc_26, ↓br_167_2, ↓bc_168, ↓bx_168, bl_168, ↓br_167_4, ↓bc_169, ↓bx_169, bl_169, ↓b_t0, ↓b_t1, ↓b_t2, ↓b_t3, ↓b_t4, ↓b_t5, ↓b_t6, Nat.zero_add, Nat.le_refl, b_rs, b_rn, b_r2, b_ss, b_sn, b_bt, b_bf, b_b0, b_b1, b_bw, b_shl, b_or, b_iv, b_jv, b_sI, b_sJ, ↓z_hl, z_b0, z_b1, z_b2, b_and1c, b_and1z, if_true, if_false, nI_add, pk_mul, b_cl, b_lt, b_le, b_eq, b_eq0, b_le0, b_0lt, b_0le, b_lt0]
          rw [if_neg (by omega)]
    | true =>
      rw [hnd, b_bt] at h2
      refine ⟨k - 1, [.ref 167, .int (nI set), .int (nI (b_b g)), .int (nI (n + 1))], b_h (b_r (b_r (b_r m3 168 (b_s (m3 168) (w_ndn s set n) n)) 169 (b_s (m3 169) (w_ndn s set n) (w_mayOf s g n))) 167 (b_s (m3 167) 3 (w_ndn s set n + 1))) j w, by omega, ⟨n + 1, _, by omega, rfl, rfl, z_fr_r (z_fr_r (z_fr_r g1 (by omega)) (by omega)) (by omega), fun q hq => by rw [b_rs, b_sn hq]; exact g2 q hq, by rw [b_rs, b_ss, h2], fun t ht hn2 => ?_⟩, ?_⟩
      · rw [b_rn (by decide), b_rn (by decide), b_rs, b_rn (by decide), b_rs]
        by_cases q : t = n
        · rw [q, b_ss, b_ss]
          exact ⟨rfl, rfl⟩
        · have h5 := w_ndn_lt hn2 (show t < n by omega)
          rw [b_sn (by omega), b_sn (by omega)]
          exact g4 t (by omega) hn2
      · unfold w_nd at hnd
        rw [Bool.and_eq_true, decide_eq_true_eq] at hnd
        obtain ⟨hb, h0⟩ := hnd
        have hF4 : c_F (b_r m3 168 (b_s (m3 168) (w_ndn s set n) n)) 4 s := c_F_ext (fun c p1 p2 => b_rn (by omega)) (fun _ _ => rfl) hS hF3
        have hA4 : c_A (b_r m3 168 (b_s (m3 168) (w_ndn s set n) n)) 26 s := c_A_ext (fun c p1 p2 => b_rn (by omega)) hA3
        have s1 := s_Af_fitting (X := X) (tx := tx) (D := d) (j := j) (w := w) hF4 hA4 hS hI (by omega) (t := n) (by omega)
        have s2 := s_Af_enders (X := X) (tx := tx) (D := d) (j := j) (w := w) hF4 hA4 hS hI (by omega) (t := n) (by omega)
        cases g with
        | false =>
          simp (disch := omega) only [e4, s_EM_isIn, hb, s_Af_allOpen26 hF3 hA3 hS hI, g3, s1, Nat.one_ne_zero, ↓bc_167, ↓br_167_0, ↓bc_4, ↓br_167_1, ↓bc_26, ↓br_167_2, ↓bc_168, ↓bx_168, bl_168, ↓br_167_4, ↓bc_169, ↓bx_169, bl_169, ↓b_t0, ↓b_t1, ↓b_t2, ↓b_t3, ↓b_t4, ↓b_t5, ↓b_t6, Nat.zero_add, Nat.le_refl, b_rs, b_rn, b_r2, b_ss, b_sn, b_bt, b_bf, b_b0, b_b1, b_bw, b_shl, b_or, b_iv, b_jv, b_sI, b_sJ, ↓z_hl, z_b0, z_b1, z_b2, b_and1c, b_and1z, if_true, if_false, nI_add, pk_mul, b_cl, b_lt, b_le, b_eq, b_eq0, b_le0, b_0lt, b_0le, b_lt0]
          rw [if_neg (by omega), if_neg (by omega)]
          rfl
        | true =>
          simp (disch := omega) only [e4, s_EM_isIn, hb, s_Af_allOpen26 hF3 hA3 hS hI, g3, s2, Nat.one_ne_zero, ↓bc_167, ↓br_167_0, ↓bc_4, ↓br_167_1, ↓bc_26, ↓br_167_2, ↓bc_168, ↓bx_168, bl_168, ↓br_167_4, ↓bc_169, ↓bx_169, bl_169, ↓b_t0, ↓b_t1, ↓b_t2, ↓b_t3, ↓b_t4, ↓b_t5, ↓b_t6, Nat.zero_add, Nat.le_refl, b_rs, b_rn, b_r2, b_ss, b_sn, b_bt, b_bf, b_b0, b_b1, b_bw, b_shl, b_or, b_iv, b_jv, b_sI, b_sJ, ↓z_hl, z_b0, z_b1, z_b2, b_and1c, b_and1z, if_true, if_false, nI_add, pk_mul, b_cl, b_lt, b_le, b_eq, b_eq0, b_le0, b_0lt, b_0le, b_lt0]
          rw [if_neg (by omega), if_neg (by omega)]
          rfl
theorem w_goAll_eq {m2 : Nat → Nat → Nat} {set x : Nat} (h3 : m2 167 3 = w_ndn s set (s 2)) (h4 : ∀ t, t < s 2 → w_nd s set t = true → m2 168 (w_ndn s set t) = t ∧ m2 169 (w_ndn s set t) = w_mayOf s false t) : z_all (fun i => decide (m2 169 i &&& x ≠ 0)) (m2 167 3) = w_goes s set x := by
  rw [Bool.eq_iff_iff]
  unfold w_goes
  rw [z_all_iff, z_all_iff]
  constructor
  · intro h t ht
    unfold w_goesT
    cases hn : w_nd s set t with
    | false => rfl
    | true =>
      have h5 := of_decide_eq_true (h (w_ndn s set t) (by rw [h3]; exact w_ndn_lt hn ht))
      rw [(h4 t ht hn).2] at h5
      have h6 : z_set (fun e => w_fit s e t) (s 3) &&& x ≠ 0 := h5
      rw [z_set_and] at h6
      rw [h6]
      rfl
  · intro h i hi
    rw [h3] at hi
    obtain ⟨t, h5, h6, h7⟩ := z_sum_inv (s 2) i hi
    have h8 := h t h5
    unfold w_goesT at h8
    rw [h6, Bool.not_true, Bool.false_or] at h8
    have h9 := (h4 t h5 h6).2
    have h10 : w_ndn s set t = i := h7
    rw [h10] at h9
    show decide (m2 169 i &&& x ≠ 0) = true
    rw [h9]
    exact decide_eq_true (z_set_and.mpr h8)
theorem s_Ma_goWithAll (hS : i_S s) {set x : Nat} (hx : x < 1024) (h3 : m 167 3 = w_ndn s set (s 2)) (h4 : ∀ t, t < s 2 → w_nd s set t = true → m 168 (w_ndn s set t) = t ∧ m 169 (w_ndn s set t) = w_mayOf s false t) (hD : 2 ≤ D) : a_ex X tx a_T D 134 [.ref 167, .int (nI x)] (b_h m j w) = some ((b_h m j w), some (.int (nI (b_b (w_goes s set x))))) := by
  obtain ⟨d, rfl⟩ : ∃ d, D = d + 1 := ⟨D - 1, by omega⟩
  rw [e_Ma_goWithAll, q_Ma_goWithAll_0]
  have hT := i_S_T hS
  have hN : w_ndn s set (s 2) ≤ s 2 := w_ndn_le
  rw [← l_Ma_goWithAll_2, ← w_goAll_eq h3 h4]
  refine (z_alls (r0 := some ((b_h m j w), some (.int (nI (0))))) (r1 := some ((b_h m j w), some (.int (nI (1))))) (fun n => [.ref 167, .int (nI x), .int (nI n)]) (fun n => (b_h m j w)) (fun i => decide (m 169 i &&& x ≠ 0)) (m 167 3) (0) ?_ ?_ _ (z_fu (by omega))).trans ?_
  · intro n hn f _
    have h5 : m 169 n &&& x < 1024 := Nat.lt_of_le_of_lt Nat.and_le_right hx
    rw [l_Ma_goWithAll_2, q_Ma_goWithAll_2]
    simp (disch := omega) only [b_and, ↓bc_167, ↓br_167_4, ↓bc_169, ↓bx_169, bl_169, ↓b_t0, ↓b_t1, ↓b_t2, ↓b_t3, ↓b_t4, ↓b_t5, ↓b_t6, Nat.zero_add, Nat.le_refl, b_rs, b_rn, b_r2, b_ss, b_sn, b_bt, b_bf, b_b0, b_b1, b_bw, b_shl, b_or, b_iv, b_jv, b_sI, b_sJ, ↓z_hl, z_b0, z_b1, z_b2, b_and1c, b_and1z, if_true, if_false, nI_add, pk_mul, b_cl, b_lt, b_le, b_eq, b_eq0, b_le0, b_0lt, b_0le, b_lt0]
    rw [if_neg (by omega)]
    by_cases c : m 169 n &&& x = 0
    · rw [if_pos c, if_neg (by rw [decide_eq_true_eq]; exact fun g => g c)]
    · rw [if_neg c, if_pos (decide_eq_true c)]
  · intro f _
    rw [l_Ma_goWithAll_2, q_Ma_goWithAll_2]
    simp (disch := omega) only [↓bc_167, ↓br_167_4, ↓bc_169, ↓bx_169, bl_169, ↓b_t0, ↓b_t1, ↓b_t2, ↓b_t3, ↓b_t4, ↓b_t5, ↓b_t6, Nat.zero_add, Nat.le_refl, b_rs, b_rn, b_r2, b_ss, b_sn, b_bt, b_bf, b_b0, b_b1, b_bw, b_shl, b_or, b_iv, b_jv, b_sI, b_sJ, ↓z_hl, z_b0, z_b1, z_b2, b_and1c, b_and1z, if_true, if_false, nI_add, pk_mul, b_cl, b_lt, b_le, b_eq, b_eq0, b_le0, b_0lt, b_0le, b_lt0]
  · cases z_all (fun i => decide (m 169 i &&& x ≠ 0)) (m 167 3) <;> rfl
end CX
