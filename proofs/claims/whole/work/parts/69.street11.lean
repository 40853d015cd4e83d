/-! MATCHES: street, the class's side -/
section SU
variable {X : Nat × (Nat → Int32)} {tx : List Int32} {D : Nat} {m j : Nat → Nat → Nat} {w : (Nat × Nat) × Bool} {s : Nat → Nat}
theorem s_Ma_give (hF : c_F m 4 s) (hA : c_A m 26 s) (hS : i_S s) (hI : i_D s) (hD : 5 ≤ D) {set : Nat} (h3 : m 167 3 = w_ndn s set (s 2)) (h4 : ∀ t, t < s 2 → w_nd s set t = true → m 168 (w_ndn s set t) = t ∧ m 169 (w_ndn s set t) = w_mayOf s true t) (hf : ∀ v, v < 2 ^ s 3 → w_rs s set (m 170) v) (h0 : w_stv s set (s 2) 0 < 1000000) : ∃ m2, a_ex X tx a_T D 131 [.ref 167] (b_h m j w) = some (b_h m2 j w, none) ∧ z_fr 171 171 m m2 ∧ ∀ t, t < 8 → m2 171 t = (w_stp s set (s 2)).2 t := by
  obtain ⟨d, rfl⟩ : ∃ d, D = d + 1 := ⟨D - 1, by omega⟩
  have hT := i_S_T hS
  have hE := i_S_E hS
  have hP : 2 ^ s 3 ≤ 1024 := Nat.pow_le_pow_right (n := 2) (by decide) hE
  have hN : w_ndn s set (s 2) ≤ s 2 := w_ndn_le
  have hp : ∀ e, e < 10 → s (251 + e) ≤ 99 := fun e he => i_D_pr hI e he
  rw [e_Ma_give, q_Ma_give_0, ← l_Ma_give_2]
  refine z_runT (Q := fun r => ∃ m2, r = some (b_h m2 j w, none) ∧ z_fr 171 171 m m2 ∧ ∀ t, t < 8 → m2 171 t = (w_stp s set (s 2)).2 t) (fun k c L h =>
    (∃ n m3 u2 u3, c = 2 ∧ k + n = 100 ∧ n ≤ 8 ∧ L = [.ref 167, .int (nI n), u2, u3] ∧ h = b_h m3 j w ∧ z_fr 171 171 m m3 ∧ ∀ i, i < n → m3 171 i = 4294967295) ∨
    (∃ a n m3 u3, c = 16 ∧ k + n = 50 ∧ a ≤ s 2 ∧ w_ndn s set a = n ∧ L = [.ref 167, .int (nI (w_stp s set a).1), .int (nI n), u3] ∧ h = b_h m3 j w ∧ z_fr 171 171 m m3 ∧ ∀ i, i < 8 → m3 171 i = (w_stp s set a).2 i)) 0 ?_ 100 2 _ _ (Or.inl ⟨0, m, _, _, rfl, by omega, by omega, rfl, rfl, z_fr_rf, fun i hi => absurd hi (Nat.not_lt_zero i)⟩) _ (z_fu (by omega))
  rintro k c L h (⟨n, m3, u2, u3, rfl, hk, hn, rfl, rfl, hm, hv⟩ | ⟨a, n, m3, u3, rfl, hk, ha, hn, rfl, rfl, hm, hv⟩) f _
  · rw [l_Ma_give_2, q_Ma_give_2]
    right
    by_cases c : n = 8
    · subst c
      refine ⟨50, 16, [.ref 167, .int (nI 0), .int (nI 0), u3], _, by omega, Or.inr ⟨0, 0, m3, u3, rfl, by omega, by omega, rfl, rfl, rfl, hm, fun i hi => hv i hi⟩, Or.inr ?_⟩
      rw [l_Ma_give_16]
      simp (disch := omega) only [↓bc_167, ↓br_167_6, ↓bc_171, ↓bx_171, bl_171, ↓br_167_2, ↓bc_168, ↓bx_168, bl_168, ↓b_t0, ↓b_t1, ↓b_t2, ↓b_t3, ↓b_t4, ↓b_t5, ↓b_t6, Nat.zero_add, Nat.le_refl, b_rs, b_rn, b_r2, b_ss, b_sn, b_bt, b_bf, b_b0, b_b1, b_bw, b_shl, b_or, b_iv, b_jv, b_sI, b_sJ, ↓z_hl, z_b0, z_b1, z_b2, b_and1c, b_and1z, if_true, if_false, nI_add, pk_mul, b_cl, b_lt, b_le, b_eq, b_eq0, b_le0, b_0lt, b_0le, b_lt0]
    · refine ⟨k - 1, 2, [.ref 167, .int (nI (n + 1)), u2, u3], b_h (b_r m3 171 (b_s (m3 171) n 4294967295)) j w, by omega, Or.inl ⟨n + 1, _, u2, u3, rfl, by omega, by omega, rfl, rfl, z_fr_r hm (by omega), fun i hi => ?_⟩, Or.inl ?_⟩
      · rw [b_rs]
        by_cases c2 : i = n
        · rw [c2, b_ss]
        · rw [b_sn (by omega)]; exact hv i (by omega)
      · simp (disch := omega) only [↓bc_167, ↓br_167_6, ↓bc_171, ↓bx_171, bl_171, ↓br_167_2, ↓bc_168, ↓bx_168, bl_168, ↓b_t0, ↓b_t1, ↓b_t2, ↓b_t3, ↓b_t4, ↓b_t5, ↓b_t6, Nat.zero_add, Nat.le_refl, b_rs, b_rn, b_r2, b_ss, b_sn, b_bt, b_bf, b_b0, b_b1, b_bw, b_shl, b_or, b_iv, b_jv, b_sI, b_sJ, ↓z_hl, z_b0, z_b1, z_b2, b_and1c, b_and1z, if_true, if_false, nI_add, pk_mul, b_cl, b_lt, b_le, b_eq, b_eq0, b_le0, b_0lt, b_0le, b_lt0]
        rw [if_neg (by omega)]
  · rw [l_Ma_give_16, q_Ma_give_16]
    have g3 : m3 167 3 = w_ndn s set (s 2) := by rw [hm 167 (by omega)]; exact h3
    by_cases c2 : n < w_ndn s set (s 2)
    · right
      obtain ⟨t, t1, t2, t3⟩ := z_sum_inv (s 2) _ c2
      have t4 : w_ndn s set t = n := t3
      have e1 : w_stp s set a = w_stp s set t := w_stp_eq (by omega)
      obtain ⟨o1, o2, o3⟩ := w_stp_ok (set := set) hE h0 t (by omega)
      have q1 := w_stp_t (s := s) t2
      obtain ⟨v1, v2, v3⟩ := w_ch_spec t1 t2 o3
      rw [e1] at hv ⊢
      generalize hg : w_ch s set t (w_stp s set t).1 = v at q1 v1 v2 v3
      generalize hu : (w_stp s set t).1 = u at q1 v2 v3 o1 o2 o3
      have hF3 : c_F m3 4 s := c_F_ext (fun c p1 p2 => hm c (by omega)) (fun _ _ => rfl) hS hF
      have hA3 : c_A m3 26 s := c_A_ext (fun c p1 p2 => hm c (by omega)) hA
      have hm9 : m3 169 n = w_enders s t := by rw [hm 169 (by omega), ← t4, (h4 t t1 t2).2]; rfl
      have hm8 : m3 168 n = t := by rw [hm 168 (by omega), ← t4, (h4 t t1 t2).1]
      have e7 : m3 170 = m 170 := hm 170 (by omega)
      have hfu : m3 170 u < 4294967296 := by
        rw [e7]
        have := w_rs_b hE hT hp (hf u o1) (Or.inr ⟨t, by omega, by omega⟩)
        omega
      have hb : ∀ e, e < s 3 → u.testBit e = false → m3 170 (u ||| 2 ^ e) = 4294967295 ∨ m3 170 (u ||| 2 ^ e) ≤ 100000 := fun e he hb => by
        have hu2 : u ||| 2 ^ e < 2 ^ s 3 := Nat.or_lt_two_pow o1 (Nat.pow_lt_pow_right (by decide) he)
        have hp2 := w_pc_or e (by omega) u (by omega) hb
        rw [e7]
        exact w_rs_b hE hT hp (hf _ hu2) (Or.inr (w_ndn_hit (by omega)))
      obtain ⟨x, s1, hx⟩ := s_Ma_firstBest (X := X) (tx := tx) (D := d) (m := m3) (j := j) (w := w) hF3 hA3 hS hI (by omega) (u := u) (turn := n) (t := t) o1 (by omega) (by omega) hm9 hfu hb
      have hcc : ∀ e, e < s 3 → w_fb s t u (m3 170) e = w_cc s set t u e := fun e he => by
        rw [e7]
        exact w_fb_cc hE hp t1 t2 o1 (by omega) o3 hf he
      have hxv : x = v := by
        rcases hx with ⟨_, y2⟩ | ⟨y1, y2, y3⟩
        · have := (hcc v v1).symm.trans (y2 v v1)
          rw [v2] at this
          exact absurd this (by decide)
        · refine Nat.le_antisymm (Nat.le_of_not_lt fun g => ?_) (Nat.le_of_not_lt fun g => ?_)
          · have := (hcc v v1).symm.trans (y3 v g)
            rw [v2] at this
            exact absurd this (by decide)
          · have := (hcc x y1).symm.trans y2
            rw [v3 x g] at this
            exact absurd this (by decide)
      subst hxv
      have h6 : w_ndn s set (t + 1) = w_ndn s set t + b_b (w_nd s set t) := rfl
      rw [t2, b_bt] at h6
      refine ⟨k - 1, 16, [.ref 167, .int (nI (u ||| 2 ^ x)), .int (nI (n + 1)), .int (nI x)], b_h (b_r m3 171 (b_s (m3 171) t x)) j w, by omega, Or.inr ⟨t + 1, n + 1, _, _, rfl, by omega, by omega, by omega, by rw [q1], rfl, z_fr_r hm (by omega), fun i hi => ?_⟩, Or.inl ?_⟩
      · rw [q1, b_rs]
        by_cases c5 : i = t
        · rw [c5, b_ss]; exact b_ss.symm
        · rw [b_sn c5]; exact (hv i hi).trans (b_sn c5).symm
      · simp (disch := omega) only [g3, s1, hm8, ↓bc_167, ↓br_167_6, ↓bc_171, ↓bx_171, bl_171, ↓br_167_2, ↓bc_168, ↓bx_168, bl_168, ↓b_t0, ↓b_t1, ↓b_t2, ↓b_t3, ↓b_t4, ↓b_t5, ↓b_t6, Nat.zero_add, Nat.le_refl, b_rs, b_rn, b_r2, b_ss, b_sn, b_bt, b_bf, b_b0, b_b1, b_bw, b_shl, b_or, b_iv, b_jv, b_sI, b_sJ, ↓z_hl, z_b0, z_b1, z_b2, b_and1c, b_and1z, if_true, if_false, nI_add, pk_mul, b_cl, b_lt, b_le, b_eq, b_eq0, b_le0, b_0lt, b_0le, b_lt0]
        rw [if_neg (by omega), if_neg (by omega)]
    · left
      have h5 : w_ndn s set a ≤ w_ndn s set (s 2) := z_sum_le_n (s 2) ha
      refine ⟨m3, ?_, hm, fun i hi => ?_⟩
      · simp (disch := omega) only [g3, ↓bc_167, ↓br_167_6, ↓bc_171, ↓bx_171, bl_171, ↓br_167_2, ↓bc_168, ↓bx_168, bl_168, ↓b_t0, ↓b_t1, ↓b_t2, ↓b_t3, ↓b_t4, ↓b_t5, ↓b_t6, Nat.zero_add, Nat.le_refl, b_rs, b_rn, b_r2, b_ss, b_sn, b_bt, b_bf, b_b0, b_b1, b_bw, b_shl, b_or, b_iv, b_jv, b_sI, b_sJ, ↓z_hl, z_b0, z_b1, z_b2, b_and1c, b_and1z, if_true, if_false, nI_add, pk_mul, b_cl, b_lt, b_le, b_eq, b_eq0, b_le0, b_0lt, b_0le, b_lt0]
        rw [if_pos (by omega)]
      · rw [hv i hi, w_stp_eq (show w_ndn s set a = w_ndn s set (s 2) by omega)]
theorem s_Ma_leastCoin (hF : c_F m 4 s) (hA : c_A m 26 s) (hS : i_S s) (hI : i_D s) (hD : 7 ≤ D) {set : Nat} (hs : set < 256) : ∃ m2, a_ex X tx a_T D 126 [.ref 167, .int (nI set)] (b_h m j w) = some (b_h m2 j w, some (.int (nI (w_no (w_stv s set (s 2) 0))))) ∧ z_fr 167 171 m m2 ∧ m2 167 7 = m 167 7 ∧ ∀ t, t < 8 → m2 171 t = if w_stv s set (s 2) 0 < 1000000 then (w_stp s set (s 2)).2 t else m 171 t := by
  obtain ⟨d, rfl⟩ : ∃ d, D = d + 1 := ⟨D - 1, by omega⟩
  rw [e_Ma_leastCoin, q_Ma_leastCoin_0]
  have hT := i_S_T hS
  have hE := i_S_E hS
  have hP : 2 ^ s 3 ≤ 1024 := Nat.pow_le_pow_right (n := 2) (by decide) hE
  obtain ⟨m2, e1, g1, g2, g3, g4⟩ := s_Ma_gather (X := X) (tx := tx) (D := d) (j := j) (w := w) hF hA hS hI (by omega) hs true
  rw [b_bt] at e1
  have hF2 : c_F m2 4 s := c_F_ext (fun c p1 p2 => g1 c (by omega)) (fun _ _ => rfl) hS hF
  have hA2 : c_A m2 26 s := c_A_ext (fun c p1 p2 => g1 c (by omega)) hA
  have e4 := c_F4_E hF2
  simp (disch := omega) only [e1, e4, b_pd2 (n := 2 ^ s 3), ↓bc_167, ↓br_167_0, ↓bc_4, ↓br_167_5, ↓bc_170, ↓bx_170, bl_170, ↓b_t0, ↓b_t1, ↓b_t2, ↓b_t3, ↓b_t4, ↓b_t5, ↓b_t6, Nat.zero_add, Nat.le_refl, b_rs, b_rn, b_r2, b_ss, b_sn, b_bt, b_bf, b_b0, b_b1, b_bw, b_shl, b_or, b_iv, b_jv, b_sI, b_sJ, ↓z_hl, z_b0, z_b1, z_b2, b_and1c, b_and1z, if_true, if_false, nI_add, pk_mul, b_cl, b_lt, b_le, b_eq, b_eq0, b_le0, b_0lt, b_0le, b_lt0]
  rw [← l_Ma_leastCoin_12]
  obtain ⟨m3, x, f, e5, g5, g6⟩ := s_Ma_rests (X := X) (tx := tx) (d := d) (m := m2) (j := j) (w := w) hF2 hA2 hS hI (by omega) (set := set) (u0 := .retAddr 0) g3 g4 _ (z_fu (by omega))
  rw [e5, l_Ma_leastCoin_12, q_Ma_leastCoin_12]
  have n1 : (nI 4294967295 < 0) = True := b_lt0n (by decide) (by decide)
  have hr0 : m3 170 0 = w_no (w_stv s set (s 2) 0) := (g6 0 (Nat.two_pow_pos _)).2 0 (Nat.zero_le _) (by show 0 = w_pc 0; decide +kernel)
  have hF3 : c_F m3 4 s := c_F_ext (fun c p1 p2 => g5 c (by omega)) (fun _ _ => rfl) hS hF2
  have hA3 : c_A m3 26 s := c_A_ext (fun c p1 p2 => g5 c (by omega)) hA2
  have q7 : m3 167 7 = m 167 7 := by rw [g5 167 (by omega), g2 7 (by decide)]
  have q1 : m3 171 = m 171 := by rw [g5 171 (by omega), g1 171 (by omega)]
  by_cases c : w_stv s set (s 2) 0 < 1000000
  · have e8 : w_no (w_stv s set (s 2) 0) = w_stv s set (s 2) 0 := if_pos c
    obtain ⟨m4, e6, g7, g8⟩ := s_Ma_give (X := X) (tx := tx) (D := d) (m := m3) (j := j) (w := w) hF3 hA3 hS hI (by omega) (set := set) (by rw [g5 167 (by omega)]; exact g3) (fun t t1 t2 => by rw [g5 168 (by omega), g5 169 (by omega)]; exact g4 t t1 t2) g6 c
    have hr4 : m4 170 0 = w_no (w_stv s set (s 2) 0) := by rw [g7 170 (by omega)]; exact hr0
    refine ⟨m4, ?_, fun c hc => ?_, by rw [g7 167 (by omega)]; exact q7, fun t ht => by rw [if_pos c]; exact g8 t ht⟩
    · rw [e8] at hr0 hr4 ⊢
      simp (disch := omega) only [n1, hr0, hr4, e6, ↓bc_167, ↓br_167_0, ↓bc_4, ↓br_167_5, ↓bc_170, ↓bx_170, bl_170, ↓b_t0, ↓b_t1, ↓b_t2, ↓b_t3, ↓b_t4, ↓b_t5, ↓b_t6, Nat.zero_add, Nat.le_refl, b_rs, b_rn, b_r2, b_ss, b_sn, b_bt, b_bf, b_b0, b_b1, b_bw, b_shl, b_or, b_iv, b_jv, b_sI, b_sJ, ↓z_hl, z_b0, z_b1, z_b2, b_and1c, b_and1z, if_true, if_false, nI_add, pk_mul, b_cl, b_lt, b_le, b_eq, b_eq0, b_le0, b_0lt, b_0le, b_lt0]
      rw [if_neg (by omega)]
    · rw [g7 c (by omega), g5 c (by omega), g1 c (by omega)]
  · have e8 : w_no (w_stv s set (s 2) 0) = 4294967295 := if_neg c
    refine ⟨m3, ?_, fun c hc => by rw [g5 c (by omega), g1 c (by omega)], q7, fun t ht => by rw [if_neg c, q1]⟩
    rw [e8] at hr0 ⊢
    simp (disch := omega) only [n1, hr0, ↓bc_167, ↓br_167_0, ↓bc_4, ↓br_167_5, ↓bc_170, ↓bx_170, bl_170, ↓b_t0, ↓b_t1, ↓b_t2, ↓b_t3, ↓b_t4, ↓b_t5, ↓b_t6, Nat.zero_add, Nat.le_refl, b_rs, b_rn, b_r2, b_ss, b_sn, b_bt, b_bf, b_b0, b_b1, b_bw, b_shl, b_or, b_iv, b_jv, b_sI, b_sJ, ↓z_hl, z_b0, z_b1, z_b2, b_and1c, b_and1z, if_true, if_false, nI_add, pk_mul, b_cl, b_lt, b_le, b_eq, b_eq0, b_le0, b_0lt, b_0le, b_lt0]
def w_qst (s : Nat → Nat) (set : Nat) : Nat := w_no (w_stv s set (s 2) 0)
theorem s_EM_street (hF : c_F m 4 s) (hA : c_A m 26 s) (hS : i_S s) (hI : i_D s) (hD : 8 ≤ D) {set : Nat} (hs : set < 4294967296) : ∃ m2, a_ex X tx a_T D 169 [.ref 0, .int (nI set)] (b_h m j w) = some (b_h m2 j w, some (.int (nI (if set < 2 ^ s 2 then w_qst s set else 4294967295)))) ∧ z_fr 167 171 m m2 ∧ m2 167 7 = m 167 7 ∧ ∀ t, t < 8 → m2 171 t = if set < 2 ^ s 2 ∧ w_stv s set (s 2) 0 < 1000000 then (w_stp s set (s 2)).2 t else m 171 t := by
  obtain ⟨d, rfl⟩ : ∃ d, D = d + 1 := ⟨D - 1, by omega⟩
  rw [e_EM_street, q_EM_street_0]
  have hT := i_S_T hS
  by_cases c : set < 2 ^ s 2
  · have hP : 2 ^ s 2 ≤ 256 := Nat.pow_le_pow_right (n := 2) (by decide) hT
    obtain ⟨m2, e1, g1, g2, g3⟩ := s_Ma_leastCoin (X := X) (tx := tx) (D := d) (j := j) (w := w) hF hA hS hI (by omega) (set := set) (by omega)
    refine ⟨m2, ?_, g1, g2, fun t ht => ?_⟩
    · rw [if_pos c]
      simp (disch := omega) only [s_Fa_areThings hF hS, decide_eq_false_iff_not, e1, ↓bc_0, ↓br_0_1, ↓bc_4, ↓br_0_10, ↓bc_167, ↓b_t0, ↓b_t1, ↓b_t2, ↓b_t3, ↓b_t4, ↓b_t5, ↓b_t6, Nat.zero_add, Nat.le_refl, b_rs, b_rn, b_r2, b_ss, b_sn, b_bt, b_bf, b_b0, b_b1, b_bw, b_shl, b_or, b_iv, b_jv, b_sI, b_sJ, ↓z_hl, z_b0, z_b1, z_b2, b_and1c, b_and1z, if_true, if_false, nI_add, pk_mul, b_cl, b_lt, b_le, b_eq, b_eq0, b_le0, b_0lt, b_0le, b_lt0]
      rw [if_neg (fun g => g c)]
      rfl
    · rw [g3 t ht]
      by_cases c2 : w_stv s set (s 2) 0 < 1000000
      · rw [if_pos c2, if_pos ⟨c, c2⟩]
      · rw [if_neg c2, if_neg (fun g => c2 g.2)]
  · refine ⟨m, ?_, z_fr_rf, rfl, fun t _ => by rw [if_neg (fun g => c g.1)]⟩
    rw [if_neg c]
    simp (disch := omega) only [s_Fa_areThings hF hS, decide_eq_false_iff_not, ↓bc_0, ↓br_0_1, ↓bc_4, ↓br_0_10, ↓bc_167, ↓b_t0, ↓b_t1, ↓b_t2, ↓b_t3, ↓b_t4, ↓b_t5, ↓b_t6, Nat.zero_add, Nat.le_refl, b_rs, b_rn, b_r2, b_ss, b_sn, b_bt, b_bf, b_b0, b_b1, b_bw, b_shl, b_or, b_iv, b_jv, b_sI, b_sJ, ↓z_hl, z_b0, z_b1, z_b2, b_and1c, b_and1z, if_true, if_false, nI_add, pk_mul, b_cl, b_lt, b_le, b_eq, b_eq0, b_le0, b_0lt, b_0le, b_lt0]
    rw [if_pos c]
end SU
