/-! MATCHES: the reference's streets -/
def w_srw (s : Nat → Nat) (set : Nat) (f : Nat → Nat) (q u : Nat) : Prop := (∀ p, p ≤ q → ∀ v, v < 2 ^ s 3 → f (1024 * (s 2 - p) + v) = w_stv s set p v) ∧ ∀ v, v < u → f (1024 * (s 2 - (q + 1)) + v) = w_stv s set (q + 1) v
theorem w_stv_succ {s : Nat → Nat} {set t q u : Nat} (h : t + 1 + q = s 2) : w_stv s set (q + 1) u = if w_nd s set t = true then w_lst s t u (w_stv s set q) (s 3) else w_stv s set q u := by
  have e : s 2 - (q + 1) = t := by omega
  have h1 : w_stv s set (q + 1) u = if w_nd s set (s 2 - (q + 1)) = true then w_lst s (s 2 - (q + 1)) u (w_stv s set q) (s 3) else w_stv s set q u := rfl
  rw [h1, e]
theorem w_srw_put {s : Nat → Nat} {set t q u x : Nat} {f : Nat → Nat} (h : t + 1 + q = s 2) (hu : u < 2 ^ s 3) (hP : 2 ^ s 3 ≤ 1024) (hx : x = w_stv s set (q + 1) u) (hf : w_srw s set f q u) : w_srw s set (b_s f (1024 * t + u) x) q (u + 1) := by
  refine ⟨fun p hp v hv => ?_, fun v hv => ?_⟩
  · rw [b_sn (by omega)]
    exact hf.1 p hp v hv
  · by_cases c : v = u
    · rw [c, show s 2 - (q + 1) = t by omega, b_ss, hx]
    · rw [b_sn (by omega)]
      exact hf.2 v (by omega)
theorem w_srw_next {s : Nat → Nat} {set q : Nat} {f : Nat → Nat} (hf : w_srw s set f q (2 ^ s 3)) : w_srw s set f (q + 1) 0 := by
  refine ⟨fun p hp v hv => ?_, fun v hv => absurd hv (Nat.not_lt_zero v)⟩
  by_cases c : p = q + 1
  · rw [c]; exact hf.2 v hv
  · exact hf.1 p (by omega) v hv
section SQ
variable {X : Nat × (Nat → Int32)} {tx : List Int32} {D : Nat} {m j : Nat → Nat → Nat} {w : (Nat × Nat) × Bool} {s : Nat → Nat}
theorem s_Mo_streets (hS : i_S (m 236)) (hI : i_D (m 236)) (hD : 6 ≤ D) {set : Nat} (hs : set < 256) : ∃ m2, a_ex X tx a_T D 270 [.ref 234, .int (nI set)] (b_h m j w) = some (b_h m2 j w, none) ∧ z_fr 246 246 m m2 ∧ w_srw (m 236) set (m2 246) (m 236 2) 0 := by
  obtain ⟨d, rfl⟩ : ∃ d, D = d + 1 := ⟨D - 1, by omega⟩
  rw [e_Mo_streets, q_Mo_streets_0]
  have hT := i_S_T hS
  have hE := i_S_E hS
  have hP : 2 ^ m 236 3 ≤ 1024 := Nat.pow_le_pow_right (n := 2) (by decide) hE
  have n1 : (nI 4294967295 < 0) = True := b_lt0n (by decide) (by decide)
  simp (disch := omega) only [↓bc_234, ↓br_234_6, ↓bc_236, ↓bx_236, bl_236, ↓br_234_28, ↓bc_246, ↓bx_246, bl_246, ↓b_t0, ↓b_t1, ↓b_t2, ↓b_t3, ↓b_t4, ↓b_t5, ↓b_t6, Nat.zero_add, Nat.le_refl, b_rs, b_rn, b_r2, b_ss, b_sn, b_bt, b_bf, b_b0, b_b1, b_bw, b_shl, b_or, b_iv, b_jv, b_sI, b_sJ, ↓z_hl, z_b0, z_b1, z_b2, b_and1c, b_and1z, if_true, if_false, nI_add, pk_mul, b_cl, b_lt, b_le, b_eq, b_eq0, b_le0, b_0lt, b_0le, b_lt0]
  rw [← l_Mo_streets_7]
  refine z_runT (Q := fun r => ∃ m2, r = some (b_h m2 j w, none) ∧ z_fr 246 246 m m2 ∧ w_srw (m 236) set (m2 246) (m 236 2) 0) (fun k c L h =>
    (∃ n m3 u4 u5 u6, c = 7 ∧ k + n = 101024 ∧ n ≤ 1024 ∧ L = [.ref 234, .int (nI set), .int (nI (m 236 2)), .int (nI n), u4, u5, u6] ∧ h = b_h m3 j w ∧ z_fr 246 246 m m3 ∧ ∀ v, v < n → m3 246 (1024 * m 236 2 + v) = 0) ∨
    (∃ n q m3 u4 u5 u6, c = 25 ∧ k = 12300 * n + 1 ∧ n + q = m 236 2 ∧ L = [.ref 234, .int (nI set), .int (nI (m 236 2)), .int (nI (w_pd n)), u4, u5, u6] ∧ h = b_h m3 j w ∧ z_fr 246 246 m m3 ∧ w_srw (m 236) set (m3 246) q 0) ∨
    (∃ t q u m3 u5 u6, c = 29 ∧ k + 12 * u = 12300 * (t + 1) ∧ t + 1 + q = m 236 2 ∧ u ≤ 2 ^ m 236 3 ∧ L = [.ref 234, .int (nI set), .int (nI (m 236 2)), .int (nI t), .int (nI u), u5, u6] ∧ h = b_h m3 j w ∧ z_fr 246 246 m m3 ∧ w_srw (m 236) set (m3 246) q u) ∨
    (∃ t q u e m3, c = 57 ∧ k + 12 * u + e + 1 = 12300 * (t + 1) ∧ t + 1 + q = m 236 2 ∧ u < 2 ^ m 236 3 ∧ e ≤ m 236 3 ∧ (w_nd (m 236) set t = false → e = 0) ∧ L = [.ref 234, .int (nI set), .int (nI (m 236 2)), .int (nI t), .int (nI u), .int (nI (if w_nd (m 236) set t = true then w_lst (m 236) t u (w_stv (m 236) set q) e else w_stv (m 236) set q u)), .int (nI e)] ∧ h = b_h m3 j w ∧ z_fr 246 246 m m3 ∧ w_srw (m 236) set (m3 246) q u)) 0 ?_ 101024 7 _ _ (Or.inl ⟨0, m, _, _, _, rfl, by omega, by omega, rfl, rfl, z_fr_rf, fun v hv => absurd hv (Nat.not_lt_zero v)⟩) _ (z_fu (by omega))
  rintro k c L h (⟨n, m3, u4, u5, u6, rfl, hk, hn, rfl, rfl, hm, hv⟩ | ⟨n, q, m3, u4, u5, u6, rfl, hk, hn, rfl, rfl, hm, hv⟩ | ⟨t, q, u, m3, u5, u6, rfl, hk, hn, hu, rfl, rfl, hm, hv⟩ | ⟨t, q, u, e, m3, rfl, hk, hn, hu, he, hz, rfl, rfl, hm, hv⟩) f _
  · rw [l_Mo_streets_7, q_Mo_streets_7]
    right
    by_cases c : n = 1024
    · refine ⟨12300 * m 236 2 + 1, 25, [.ref 234, .int (nI set), .int (nI (m 236 2)), .int (nI (w_pd (m 236 2))), u4, u5, u6], _, by omega, Or.inr (Or.inl ⟨m 236 2, 0, m3, u4, u5, u6, rfl, rfl, by omega, rfl, rfl, hm, fun p hp v hv2 => ?_, fun v hv2 => absurd hv2 (Nat.not_lt_zero v)⟩), Or.inr ?_⟩
      · have hp0 : p = 0 := by omega
        rw [hp0, Nat.sub_zero, hv v (by omega)]
        rfl
      · rw [l_Mo_streets_25]
        simp (disch := omega) only [b_pd2 (n := m 236 2), ↓bc_234, ↓br_234_6, ↓bc_236, ↓bx_236, bl_236, ↓br_234_28, ↓bc_246, ↓bx_246, bl_246, ↓b_t0, ↓b_t1, ↓b_t2, ↓b_t3, ↓b_t4, ↓b_t5, ↓b_t6, Nat.zero_add, Nat.le_refl, b_rs, b_rn, b_r2, b_ss, b_sn, b_bt, b_bf, b_b0, b_b1, b_bw, b_shl, b_or, b_iv, b_jv, b_sI, b_sJ, ↓z_hl, z_b0, z_b1, z_b2, b_and1c, b_and1z, if_true, if_false, nI_add, pk_mul, b_cl, b_lt, b_le, b_eq, b_eq0, b_le0, b_0lt, b_0le, b_lt0]
        rw [if_pos (by omega)]
    · refine ⟨k - 1, 7, [.ref 234, .int (nI set), .int (nI (m 236 2)), .int (nI (n + 1)), u4, u5, u6], b_h (b_r m3 246 (b_s (m3 246) (1024 * m 236 2 + n) 0)) j w, by omega, Or.inl ⟨n + 1, _, u4, u5, u6, rfl, by omega, by omega, rfl, rfl, z_fr_r hm (by omega), fun v hv2 => ?_⟩, Or.inl ?_⟩
      · rw [b_rs]
        by_cases c2 : v = n
        · rw [c2, b_ss]
        · rw [b_sn (by omega)]; exact hv v (by omega)
      · simp (disch := omega) only [↓bc_234, ↓br_234_6, ↓bc_236, ↓bx_236, bl_236, ↓br_234_28, ↓bc_246, ↓bx_246, bl_246, ↓b_t0, ↓b_t1, ↓b_t2, ↓b_t3, ↓b_t4, ↓b_t5, ↓b_t6, Nat.zero_add, Nat.le_refl, b_rs, b_rn, b_r2, b_ss, b_sn, b_bt, b_bf, b_b0, b_b1, b_bw, b_shl, b_or, b_iv, b_jv, b_sI, b_sJ, ↓z_hl, z_b0, z_b1, z_b2, b_and1c, b_and1z, if_true, if_false, nI_add, pk_mul, b_cl, b_lt, b_le, b_eq, b_eq0, b_le0, b_0lt, b_0le, b_lt0]
        rw [if_neg (by omega)]
  · rw [l_Mo_streets_25, q_Mo_streets_25]
    by_cases c : n = 0
    · left
      subst c
      refine ⟨m3, ?_, hm, by rw [show q = m 236 2 by omega] at hv; exact hv⟩
      rw [show w_pd 0 = 4294967295 from rfl, if_pos (by rw [n1]; trivial)]
    · right
      obtain ⟨t, rfl⟩ : ∃ t, n = t + 1 := ⟨n - 1, by omega⟩
      have e1 : w_pd (t + 1) = t := rfl
      refine ⟨12300 * (t + 1), 29, [.ref 234, .int (nI set), .int (nI (m 236 2)), .int (nI t), .int (nI 0), u5, u6], _, by omega, Or.inr (Or.inr (Or.inl ⟨t, q, 0, m3, u5, u6, rfl, by omega, by omega, Nat.zero_le _, rfl, rfl, hm, hv⟩)), Or.inr ?_⟩
      rw [l_Mo_streets_29, e1]
      simp (disch := omega) only [↓bc_234, ↓br_234_6, ↓bc_236, ↓bx_236, bl_236, ↓br_234_28, ↓bc_246, ↓bx_246, bl_246, ↓b_t0, ↓b_t1, ↓b_t2, ↓b_t3, ↓b_t4, ↓b_t5, ↓b_t6, Nat.zero_add, Nat.le_refl, b_rs, b_rn, b_r2, b_ss, b_sn, b_bt, b_bf, b_b0, b_b1, b_bw, b_shl, b_or, b_iv, b_jv, b_sI, b_sJ, ↓z_hl, z_b0, z_b1, z_b2, b_and1c, b_and1z, if_true, if_false, nI_add, pk_mul, b_cl, b_lt, b_le, b_eq, b_eq0, b_le0, b_0lt, b_0le, b_lt0]
  · have g6 : m3 236 = m 236 := hm 236 (by omega)
    have e3 : m3 236 3 = m 236 3 := by rw [g6]
    rw [l_Mo_streets_29, q_Mo_streets_29]
    right
    by_cases c : u = 2 ^ m 236 3
    · have x1 : nI t + nI 4294967295 = nI (w_pd t) := b_pd (by omega)
      have x2 : nI (t + 4294967295) = nI (w_pd t) := by rw [← x1, nI_add]
      refine ⟨12300 * t + 1, 25, [.ref 234, .int (nI set), .int (nI (m 236 2)), .int (nI (w_pd t)), .int (nI u), u5, u6], _, by omega, Or.inr (Or.inl ⟨t, q + 1, m3, _, _, _, rfl, rfl, by omega, rfl, rfl, hm, w_srw_next (by rw [← c]; exact hv)⟩), Or.inl ?_⟩
      simp (disch := omega) only [e3, x1, x2, ↓bc_234, ↓br_234_6, ↓bc_236, ↓bx_236, bl_236, ↓br_234_28, ↓bc_246, ↓bx_246, bl_246, ↓b_t0, ↓b_t1, ↓b_t2, ↓b_t3, ↓b_t4, ↓b_t5, ↓b_t6, Nat.zero_add, Nat.le_refl, b_rs, b_rn, b_r2, b_ss, b_sn, b_bt, b_bf, b_b0, b_b1, b_bw, b_shl, b_or, b_iv, b_jv, b_sI, b_sJ, ↓z_hl, z_b0, z_b1, z_b2, b_and1c, b_and1z, if_true, if_false, nI_add, pk_mul, b_cl, b_lt, b_le, b_eq, b_eq0, b_le0, b_0lt, b_0le, b_lt0]
      rw [if_pos (by omega)]
    · have s1 := s_Mo_needs (X := X) (tx := tx) (D := d) (m := m3) (j := j) (w := w) (by rw [g6]; exact hS) (by rw [g6]; exact hI) (by omega) hs (t := t) (by omega)
      rw [g6] at s1
      have hr := hv.1 q (Nat.le_refl _) u (by omega)
      rw [show m 236 2 - q = t + 1 by omega] at hr
      refine ⟨k - 1, 57, [.ref 234, .int (nI set), .int (nI (m 236 2)), .int (nI t), .int (nI u), .int (nI (if w_nd (m 236) set t = true then w_lst (m 236) t u (w_stv (m 236) set q) 0 else w_stv (m 236) set q u)), .int (nI 0)], _, by omega, Or.inr (Or.inr (Or.inr ⟨t, q, u, 0, m3, rfl, by omega, hn, by omega, by omega, fun _ => rfl, rfl, rfl, hm, hv⟩)), Or.inr ?_⟩
      rw [l_Mo_streets_57]
      cases hnd : w_nd (m 236) set t with
      | true =>
        rw [hnd] at s1
        simp (disch := omega) only [e3, s1, Nat.one_ne_zero, ↓bc_234, ↓br_234_6, ↓bc_236, ↓bx_236, bl_236, ↓br_234_28, ↓bc_246, ↓bx_246, bl_246, ↓b_t0, ↓b_t1, ↓b_t2, ↓b_t3, ↓b_t4, ↓b_t5, ↓b_t6, Nat.zero_add, Nat.le_refl, b_rs, b_rn, b_r2, b_ss, b_sn, b_bt, b_bf, b_b0, b_b1, b_bw, b_shl, b_or, b_iv, b_jv, b_sI, b_sJ, ↓z_hl, z_b0, z_b1, z_b2, b_and1c, b_and1z, if_true, if_false, nI_add, pk_mul, b_cl, b_lt, b_le, b_eq, b_eq0, b_le0, b_0lt, b_0le, b_lt0]
        rw [if_neg (by omega)]
        rfl
      | false =>
        rw [hnd] at s1
        simp (disch := omega) only [e3, s1, hr, Bool.false_eq_true, ↓bc_234, ↓br_234_6, ↓bc_236, ↓bx_236, bl_236, ↓br_234_28, ↓bc_246, ↓bx_246, bl_246, ↓b_t0, ↓b_t1, ↓b_t2, ↓b_t3, ↓b_t4, ↓b_t5, ↓b_t6, Nat.zero_add, Nat.le_refl, b_rs, b_rn, b_r2, b_ss, b_sn, b_bt, b_bf, b_b0, b_b1, b_bw, b_shl, b_or, b_iv, b_jv, b_sI, b_sJ, ↓z_hl, z_b0, z_b1, z_b2, b_and1c, b_and1z, if_true, if_false, nI_add, pk_mul, b_cl, b_lt, b_le, b_eq, b_eq0, b_le0, b_0lt, b_0le, b_lt0]
        rw [if_neg (by omega)]
  · have g6 : m3 236 = m 236 := hm 236 (by omega)
    have e3 : m3 236 3 = m 236 3 := by rw [g6]
    have s1 := s_Mo_needs (X := X) (tx := tx) (D := d) (m := m3) (j := j) (w := w) (by rw [g6]; exact hS) (by rw [g6]; exact hI) (by omega) hs (t := t) (by omega)
    rw [g6] at s1
    rw [l_Mo_streets_57, q_Mo_streets_57]
    right
    have hst := w_stv_succ (s := m 236) (set := set) (u := u) hn
    by_cases c : e = m 236 3
    · have hx : (if w_nd (m 236) set t = true then w_lst (m 236) t u (w_stv (m 236) set q) e else w_stv (m 236) set q u) = w_stv (m 236) set (q + 1) u := by rw [hst, c]
      rw [hx]
      refine ⟨12300 * (t + 1) - 12 * (u + 1), 29, [.ref 234, .int (nI set), .int (nI (m 236 2)), .int (nI t), .int (nI (u + 1)), _, _], b_h (b_r m3 246 (b_s (m3 246) (1024 * t + u) (w_stv (m 236) set (q + 1) u))) j w, by omega, Or.inr (Or.inr (Or.inl ⟨t, q, u + 1, _, .int (nI (w_stv (m 236) set (q + 1) u)), .int (nI e), rfl, by omega, hn, by omega, rfl, rfl, z_fr_r hm (by omega), by rw [b_rs]; exact w_srw_put hn hu hP rfl hv⟩)), Or.inl ?_⟩
      simp (disch := omega) only [e3, ↓bc_234, ↓br_234_6, ↓bc_236, ↓bx_236, bl_236, ↓br_234_28, ↓bc_246, ↓bx_246, bl_246, ↓b_t0, ↓b_t1, ↓b_t2, ↓b_t3, ↓b_t4, ↓b_t5, ↓b_t6, Nat.zero_add, Nat.le_refl, b_rs, b_rn, b_r2, b_ss, b_sn, b_bt, b_bf, b_b0, b_b1, b_bw, b_shl, b_or, b_iv, b_jv, b_sI, b_sJ, ↓z_hl, z_b0, z_b1, z_b2, b_and1c, b_and1z, if_true, if_false, nI_add, pk_mul, b_cl, b_lt, b_le, b_eq, b_eq0, b_le0, b_0lt, b_0le, b_lt0]
      rw [if_pos (by omega)]
    · cases hnd : w_nd (m 236) set t with
      | false =>
        have he0 := hz hnd
        rw [hnd] at s1
        have hx : w_stv (m 236) set (q + 1) u = w_stv (m 236) set q u := by rw [hst, hnd]; rfl
        rw [if_neg (show ¬ false = true by decide), ← hx]
        refine ⟨12300 * (t + 1) - 12 * (u + 1), 29, [.ref 234, .int (nI set), .int (nI (m 236 2)), .int (nI t), .int (nI (u + 1)), _, _], b_h (b_r m3 246 (b_s (m3 246) (1024 * t + u) (w_stv (m 236) set (q + 1) u))) j w, by omega, Or.inr (Or.inr (Or.inl ⟨t, q, u + 1, _, .int (nI (w_stv (m 236) set (q + 1) u)), .int (nI e), rfl, by omega, hn, by omega, rfl, rfl, z_fr_r hm (by omega), by rw [b_rs]; exact w_srw_put hn hu hP rfl hv⟩)), Or.inl ?_⟩
        simp (disch := omega) only [e3, s1, ↓bc_234, ↓br_234_6, ↓bc_236, ↓bx_236, bl_236, ↓br_234_28, ↓bc_246, ↓bx_246, bl_246, ↓b_t0, ↓b_t1, ↓b_t2, ↓b_t3, ↓b_t4, ↓b_t5, ↓b_t6, Nat.zero_add, Nat.le_refl, b_rs, b_rn, b_r2, b_ss, b_sn, b_bt, b_bf, b_b0, b_b1, b_bw, b_shl, b_or, b_iv, b_jv, b_sI, b_sJ, ↓z_hl, z_b0, z_b1, z_b2, b_and1c, b_and1z, if_true, if_false, nI_add, pk_mul, b_cl, b_lt, b_le, b_eq, b_eq0, b_le0, b_0lt, b_0le, b_lt0]
        rw [if_neg (by omega)]
      | true =>
        rw [hnd] at s1
        rw [if_pos (show true = true from rfl)]
        have hx : w_lst (m 236) t u (w_stv (m 236) set q) (e + 1) = if u.testBit e = false ∧ w_ends (m 236) e t = true then min (w_lst (m 236) t u (w_stv (m 236) set q) e) (m 236 (251 + e) + w_stv (m 236) set q (u ||| 2 ^ e)) else w_lst (m 236) t u (w_stv (m 236) set q) e := rfl
        have s2 := s_Mo_endsAt (X := X) (tx := tx) (D := d) (m := m3) (j := j) (w := w) (by rw [g6]; exact hS) (by rw [g6]; exact hI) (by omega) (e := e) (t := t) (by rw [g6]; omega) (by rw [g6]; omega)
        rw [g6] at s2
        have hu2 : u ||| 2 ^ e < 2 ^ m 236 3 := Nat.or_lt_two_pow hu (Nat.pow_lt_pow_right (by decide) (by omega))
        have hr := hv.1 q (Nat.le_refl _) _ hu2
        rw [show m 236 2 - q = t + 1 by omega] at hr
        have hpr := i_D_pr hI e (by omega)
        have hl1 := w_lst_le (s := m 236) (t := t) (u := u) (g := w_stv (m 236) set q) e
        have hl2 := w_stv_le (s := m 236) (set := set) q (u ||| 2 ^ e)
        have e5 : m3 236 (251 + e) = m 236 (251 + e) := by rw [g6]
        refine ⟨k - 1, 57, [.ref 234, .int (nI set), .int (nI (m 236 2)), .int (nI t), .int (nI u), .int (nI (w_lst (m 236) t u (w_stv (m 236) set q) (e + 1))), .int (nI (e + 1))], _, by omega, Or.inr (Or.inr (Or.inr ⟨t, q, u, e + 1, m3, rfl, by omega, hn, hu, by omega, fun g => absurd (hnd.symm.trans g) (by decide), by rw [if_pos hnd], rfl, hm, hv⟩)), Or.inl ?_⟩
        rw [hx]
        cases hb : u.testBit e with
        | true =>
          rw [if_neg (fun g => absurd g.1 (by decide))]
          simp (disch := omega) only [e3, s1, s_Mo_bitOf, hb, Nat.one_ne_zero, ↓bc_234, ↓br_234_6, ↓bc_236, ↓bx_236, bl_236, ↓br_234_28, ↓bc_246, ↓bx_246, bl_246, ↓b_t0, ↓b_t1, ↓b_t2, ↓b_t3, ↓b_t4, ↓b_t5, ↓b_t6, Nat.zero_add, Nat.le_refl, b_rs, b_rn, b_r2, b_ss, b_sn, b_bt, b_bf, b_b0, b_b1, b_bw, b_shl, b_or, b_iv, b_jv, b_sI, b_sJ, ↓z_hl, z_b0, z_b1, z_b2, b_and1c, b_and1z, if_true, if_false, nI_add, pk_mul, b_cl, b_lt, b_le, b_eq, b_eq0, b_le0, b_0lt, b_0le, b_lt0]
          rw [if_neg (by omega)]
        | false =>
          cases hf : w_ends (m 236) e t with
          | false =>
            rw [hf] at s2
            rw [if_neg (fun g => absurd g.2 (by decide))]
            simp (disch := omega) only [e3, s1, s_Mo_bitOf, hb, s2, Nat.one_ne_zero, ↓bc_234, ↓br_234_6, ↓bc_236, ↓bx_236, bl_236, ↓br_234_28, ↓bc_246, ↓bx_246, bl_246, ↓b_t0, ↓b_t1, ↓b_t2, ↓b_t3, ↓b_t4, ↓b_t5, ↓b_t6, Nat.zero_add, Nat.le_refl, b_rs, b_rn, b_r2, b_ss, b_sn, b_bt, b_bf, b_b0, b_b1, b_bw, b_shl, b_or, b_iv, b_jv, b_sI, b_sJ, ↓z_hl, z_b0, z_b1, z_b2, b_and1c, b_and1z, if_true, if_false, nI_add, pk_mul, b_cl, b_lt, b_le, b_eq, b_eq0, b_le0, b_0lt, b_0le, b_lt0]
            rw [if_neg (by omega)]
          | true =>
            rw [hf] at s2
            rw [if_pos ⟨rfl, rfl⟩]
            simp (disch := omega) only [e3, s1, s_Mo_bitOf, hb, s2, s_Mo_lesser, e5, hr, Nat.one_ne_zero, ↓bc_234, ↓br_234_6, ↓bc_236, ↓bx_236, bl_236, ↓br_234_28, ↓bc_246, ↓bx_246, bl_246, ↓b_t0, ↓b_t1, ↓b_t2, ↓b_t3, ↓b_t4, ↓b_t5, ↓b_t6, Nat.zero_add, Nat.le_refl, b_rs, b_rn, b_r2, b_ss, b_sn, b_bt, b_bf, b_b0, b_b1, b_bw, b_shl, b_or, b_iv, b_jv, b_sI, b_sJ, ↓z_hl, z_b0, z_b1, z_b2, b_and1c, b_and1z, if_true, if_false, nI_add, pk_mul, b_cl, b_lt, b_le, b_eq, b_eq0, b_le0, b_0lt, b_0le, b_lt0]
            rw [if_neg (by omega)]
end SQ
