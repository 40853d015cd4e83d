/-! LEDGERS: a line; the reference's side -/
/-- who or how many days, which ending, which thing: no thing, 4294967294 days -/
def k_lg79 (b : Nat → Nat) (n q : Nat) (N S : Nat → Nat) (a i3 p : Nat) : Except (Nat × Nat) ((Nat × Nat × Nat) × Nat) := match k_look b n q (fun k => N (20 + k)) (S 3) (w_nx b n q p) with
  | .error e => .error e
  | .ok e => if i3 = 0 then .ok ((a, e, 4294967295), w_nx b n q (w_nx b n q p)) else match k_look b n q (fun k => N (12 + k)) (S 2) (w_nx b n q (w_nx b n q p)) with
    | .error e => .error e
    | .ok t => .ok ((a, e, t), w_nx b n q (w_nx b n q (w_nx b n q p)))
def k_lgp (b : Nat → Nat) (n q : Nat) (N S : Nat → Nat) (a p : Nat) : Except (Nat × Nat) ((Nat × Nat × Nat) × Nat) := if w_ky b n q p = 7 then k_lg79 b n q N S a 1 p else if w_ky b n q p = 6 then k_lg79 b n q N S a 0 p else .error (1, w_pl b n q p)
def k_lgd (b : Nat → Nat) (n q p : Nat) : Except (Nat × Nat) ((Nat × Nat × Nat) × Nat) := match k_num b n q 1 60 p with
  | .error e => .error e
  | .ok r => .ok ((r.1, 0, 4294967294), r.2)
def k_ll (b : Nat → Nat) (n q : Nat) (N S : Nat → Nat) (ln p : Nat) : Except (Nat × Nat) ((Nat × Nat × Nat) × Nat) := if w_ky b n q p = 8 then (if ln = 40 then .error (4, w_pl b n q p) else k_lgd b n q (w_nx b n q p)) else match k_look b n q (fun k => N (6 + k)) (S 1) p with
  | .error e => .error e
  | .ok a => if ln = 40 then .error (4, w_pl b n q p) else k_lgp b n q N S a (w_nx b n q p)
def z_lf (m m2 j j2 : Nat → Nat → Nat) (ln : Nat) : Prop := (∀ c, c ≠ 234 → c ≠ 238 → m2 c = m c) ∧ (∀ c, c ≠ 234 → j2 c = j c) ∧ (∀ k, k ≠ 4 → k ≠ 11 → k ≠ 12 → k ≠ 13 → k ≠ 14 → k ≠ 18 → m2 234 k = m 234 k) ∧ ∀ x, x < 3 * ln → m2 238 x = m 238 x
def z_lE (m m2 j j2 : Nat → Nat → Nat) (e : Nat × Nat) : Prop := m2 234 15 = e.1 ∧ m2 234 16 = e.2 ∧ (∀ c, c ≠ 234 → c ≠ 238 → m2 c = m c) ∧ (∀ c, c ≠ 234 → j2 c = j c) ∧ ∀ k, k ≠ 4 → k ≠ 11 → k ≠ 12 → k ≠ 13 → k ≠ 14 → k ≠ 15 → k ≠ 16 → k ≠ 18 → m2 234 k = m 234 k
theorem z_lf_t {m m2 m3 j j2 j3 : Nat → Nat → Nat} {ln : Nat} (h : z_lf m m2 j j2 ln) (y : z_lf m2 m3 j2 j3 ln) : z_lf m m3 j j3 ln :=
  ⟨fun c h1 h2 => (y.1 c h1 h2).trans (h.1 c h1 h2), fun c h1 => (y.2.1 c h1).trans (h.2.1 c h1), fun k h1 h2 h3 h4 h5 h6 => (y.2.2.1 k h1 h2 h3 h4 h5 h6).trans (h.2.2.1 k h1 h2 h3 h4 h5 h6), fun x hx => (y.2.2.2 x hx).trans (h.2.2.2 x hx)⟩
theorem z_lf_o {m m2 j j2 : Nat → Nat → Nat} {b : Nat → Nat} {n q p ln : Nat} (h : o_M m m2 j j2 b n q p) : z_lf m m2 j j2 ln :=
  ⟨fun c h1 _ => h.2.2.1 c h1, h.2.2.2.1, h.2.2.2.2, fun x _ => by rw [h.2.2.1 238 (by decide)]⟩
theorem z_lf_18 {m j : Nat → Nat → Nat} {v ln : Nat} : z_lf m (b_r m 234 (b_s (m 234) 18 v)) j j ln :=
  ⟨fun c h1 _ => b_rn h1, fun _ _ => rfl, fun k _ _ _ _ _ h6 => by rw [b_rs, b_sn h6], fun x _ => by rw [b_rn (by decide)]⟩
theorem z_lf_w {m m2 j j2 : Nat → Nat → Nat} {v ln x : Nat} (h : z_lf m m2 j j2 ln) (hx : 3 * ln ≤ x) : z_lf m (b_r m2 238 (b_s (m2 238) x v)) j j2 ln :=
  ⟨fun c h1 h2 => (b_rn h2).trans (h.1 c h1 h2), h.2.1, fun k h1 h2 h3 h4 h5 h6 => by rw [b_rn (by decide)]; exact h.2.2.1 k h1 h2 h3 h4 h5 h6, fun y hy => by rw [b_rs, b_sn (by omega)]; exact h.2.2.2 y hy⟩
theorem z_lE_x {m m2 m3 j j2 j3 : Nat → Nat → Nat} {ln : Nat} {e : Nat × Nat} (h : z_lf m m2 j j2 ln) (y : x_M m2 m3 j2 j3 e) : z_lE m m3 j j3 e :=
  ⟨y.1, y.2.1, fun c h1 h2 => (y.2.2.1 c h1).trans (h.1 c h1 h2), fun c h1 => (y.2.2.2.1 c h1).trans (h.2.1 c h1), fun k h1 h2 h3 h4 h5 h6 h7 h8 => (y.2.2.2.2 k h1 h2 h3 h4 h5 h6 h7 h8).trans (h.2.2.1 k h1 h2 h3 h4 h5 h8)⟩
theorem z_lf_r {m j : Nat → Nat → Nat} {ln : Nat} : z_lf m m j j ln := ⟨fun _ _ _ => rfl, fun _ _ => rfl, fun _ _ _ _ _ _ _ => rfl, fun _ _ => rfl⟩
def y_G (m j : Nat → Nat → Nat) (w : (Nat × Nat) × Bool) (b : Nat → Nat) (n q ln : Nat) (E : Except (Nat × Nat) ((Nat × Nat × Nat) × Nat)) (r : A_R) : Prop := match E with
  | .ok y => ∃ m2 j2, r = some (b_h m2 j2 w, some (.int (nI 1))) ∧ l_M m2 j2 b n q y.2 ∧ y.2 ≤ n ∧ z_lf m m2 j j2 ln ∧ m2 238 (3 * ln) = y.1.1 ∧ m2 238 (3 * ln + 2) = y.1.2.2 ∧ (y.1.2.2 ≠ 4294967294 → m2 238 (3 * ln + 1) = y.1.2.1)
  | .error e => ∃ m2 j2, r = some (b_h m2 j2 w, some (.int (nI 0))) ∧ z_lE m m2 j j2 e
theorem y_G_e {m j m2 j2 : Nat → Nat → Nat} {w : (Nat × Nat) × Bool} {b : Nat → Nat} {n q ln : Nat} {E : Except (Nat × Nat) ((Nat × Nat × Nat) × Nat)} {r : A_R} {e : Nat × Nat} (hE : E = .error e) (h1 : r = some (b_h m2 j2 w, some (.int (nI 0)))) (h2 : z_lE m m2 j j2 e) : y_G m j w b n q ln E r := by
  rw [hE]
  exact ⟨m2, j2, h1, h2⟩
theorem y_G_o {m j m2 j2 : Nat → Nat → Nat} {w : (Nat × Nat) × Bool} {b : Nat → Nat} {n q ln : Nat} {E : Except (Nat × Nat) ((Nat × Nat × Nat) × Nat)} {r : A_R} {y : (Nat × Nat × Nat) × Nat} (hE : E = .ok y) (h1 : r = some (b_h m2 j2 w, some (.int (nI 1)))) (h2 : l_M m2 j2 b n q y.2) (h3 : y.2 ≤ n) (h4 : z_lf m m2 j j2 ln) (h5 : m2 238 (3 * ln) = y.1.1) (h6 : m2 238 (3 * ln + 2) = y.1.2.2) (h7 : y.1.2.2 ≠ 4294967294 → m2 238 (3 * ln + 1) = y.1.2.1) : y_G m j w b n q ln E r := by
  rw [hE]
  exact ⟨m2, j2, h1, h2, h3, h4, h5, h6, h7⟩
theorem y_G_b {m m0 j j0 : Nat → Nat → Nat} {w : (Nat × Nat) × Bool} {b : Nat → Nat} {n q ln : Nat} {E : Except (Nat × Nat) ((Nat × Nat × Nat) × Nat)} {r : A_R} (h : z_lf m0 m j0 j ln) (y : y_G m j w b n q ln E r) : y_G m0 j0 w b n q ln E r := by
  cases E with
  | error e =>
    obtain ⟨m2, j2, a1, a2, a3, a4, a5, a6⟩ := y
    exact ⟨m2, j2, a1, a2, a3, fun c h1 h2 => (a4 c h1 h2).trans (h.1 c h1 h2), fun c h1 => (a5 c h1).trans (h.2.1 c h1), fun k h1 h2 h3 h4 h5 h6 h7 h8 => (a6 k h1 h2 h3 h4 h5 h6 h7 h8).trans (h.2.2.1 k h1 h2 h3 h4 h5 h8)⟩
  | ok v =>
    obtain ⟨m2, j2, a1, a2, a3, a4, a5⟩ := y
    exact ⟨m2, j2, a1, a2, a3, z_lf_t h a4, a5⟩
/-- names are short -/
def z_nb (N S : Nat → Nat) : Prop := (∀ k, k < S 1 → N (6 + k) < 9223372036854775808) ∧ (∀ k, k < S 2 → N (12 + k) < 9223372036854775808) ∧ (∀ k, k < S 3 → N (20 + k) < 9223372036854775808) ∧ (∀ k, k < S 0 → N k < 9223372036854775808)
theorem r_N_b {so nu L N S : Nat → Nat} {c : Nat} (h : r_N so nu c L N S) : z_nb N S := by
  obtain ⟨h1, h2, h3, h4⟩ := h
  have g : ∀ q, q ≤ 3 → ∀ k, k < S q → N (w_base q + k) < 9223372036854775808 := fun q hq k hk => by
    obtain ⟨i, hi, e1, e2⟩ := h3 q hq k hk
    obtain ⟨a1, a2, a3, a4⟩ := h2 i hi
    rw [e1, e2] at a3
    rw [a3]
    exact w_conv_b a4
  exact ⟨g 1 (by decide), g 2 (by decide), g 3 (by decide), fun k hk => by have := g 0 (by decide) k hk; rw [show w_base 0 + k = k from Nat.zero_add k] at this; exact this⟩
section LG
variable {X : Nat × (Nat → Int32)} {tx : List Int32} {D d : Nat} {m j : Nat → Nat → Nat} {w : (Nat × Nat) × Bool} {b : Nat → Nat} {n q p : Nat} {S N : Nat → Nat} {ln a : Nat}
theorem s_Mo_lg79 {f i3 : Nat} (hX : y_X m j b n q) (h : l_M m j b n q p) (hk : w_kd b n q p = 1) (hS : m 236 = S) (hi : i_S S) (hN : j 239 = N) (hb : z_nb N S) (hl : ln < 40) (h1 : m 238 (3 * ln) = a) (h2 : m 238 (3 * ln + 2) = 4294967295) (h3 : i3 < 2) (hd : 8 ≤ d) : y_G m j w b n q ln (k_lg79 b n q N S a i3 p) (a_rn X tx (a_ex X tx a_T d) (a_go X tx (a_ex X tx a_T d) k_Mo_ledgerLine_0 f) k_Mo_ledgerLine_79 0 [.ref 234, .int (nI (3 * ln)), .int (nI 0), .int (nI i3)] [] (b_h m j w)) := by
  have hT := i_S_T hi
  have hE := i_S_E hi
  rw [q_Mo_ledgerLine_79]
  obtain ⟨m1, j1, e1, o1, g1⟩ := s_Mo_nextT (X := X) (tx := tx) (D := d) (w := w) hX h (w_kd_in (by omega) (by omega)) (by omega)
  have S1 : m1 236 = S := (o1.2.2.1 236 (by decide)).trans hS
  have S13 : m1 236 3 = S 3 := by rw [S1]
  have N1 : j1 239 = N := (o1.2.2.2.1 239 (by decide)).trans hN
  have X1 : y_X m1 j1 b n q := y_X_fr hX (o1.2.2.1 235 (by decide)) (o1.2.2.2.1 240 (by decide))
  have f1 : z_lf m m1 j j1 ln := z_lf_o o1
  have s2 := s_Mo_takesName (X := X) (tx := tx) (D := d) (m := m1) (j := j1) (w := w) X1 o1.1 (by omega) (fr := 20) (many := S 3) (g := fun k => N (20 + k)) (by omega) (fun k hk => ⟨by rw [N1], hb.2.2.1 k hk⟩)
  unfold k_lg79
  cases q1 : k_look b n q (fun k => N (20 + k)) (S 3) (w_nx b n q p) with
  | error e =>
    rw [q1] at s2
    obtain ⟨m2, j2, e2, x2⟩ := s2
    refine y_G_e rfl ?_ (z_lE_x f1 x2)
    simp (disch := omega) only [e1, S13, e2, ↓bc_234, ↓br_234_6, ↓bc_236, ↓bx_236, bl_236, ↓br_234_8, ↓bc_238, ↓bx_238, bl_238, ↓b_t0, ↓b_t1, ↓b_t2, ↓b_t3, ↓b_t4, ↓b_t5, ↓b_t6, Nat.zero_add, Nat.le_refl, b_rs, b_rn, b_r2, b_ss, b_sn, b_bt, b_bf, b_b0, b_b1, b_bw, b_shl, b_or, b_iv, b_jv, b_sI, b_sJ, ↓z_hl, z_b0, z_b1, z_b2, b_and1c, b_and1z, if_true, if_false, nI_add, pk_mul, b_cl, b_lt, b_le, b_eq, b_eq0, b_le0, b_0lt, b_0le, b_lt0]
  | ok e =>
    rw [q1] at s2
    obtain ⟨m2, j2, he, e2, o2, g2⟩ := s2
    have f2 : z_lf m m2 j j2 ln := z_lf_t f1 (z_lf_o o2)
    have f3 : z_lf m (b_r m2 238 (b_s (m2 238) (3 * ln + 1) e)) j j2 ln := z_lf_w f2 (by omega)
    have v0 : m2 238 = m 238 := (o2.2.2.1 238 (by decide)).trans (o1.2.2.1 238 (by decide))
    show y_G m j w b n q ln (if i3 = 0 then .ok ((a, e, 4294967295), w_nx b n q (w_nx b n q p)) else match k_look b n q (fun k => N (12 + k)) (S 2) (w_nx b n q (w_nx b n q p)) with
    | .error e => .error e
    | .ok t => .ok ((a, e, t), w_nx b n q (w_nx b n q (w_nx b n q p)))) _
    by_cases c : i3 = 0
    · rw [if_pos c]
      subst c
      refine y_G_o rfl (m2 := b_r m2 238 (b_s (m2 238) (3 * ln + 1) e)) (j2 := j2) ?_ (l_M_c o2.1 (b_rn (by decide)) rfl) o2.2.1 f3 ?_ ?_ ?_
      · simp (disch := omega) only [e1, S13, e2, g2, Nat.one_ne_zero, ↓bc_234, ↓br_234_6, ↓bc_236, ↓bx_236, bl_236, ↓br_234_8, ↓bc_238, ↓bx_238, bl_238, ↓b_t0, ↓b_t1, ↓b_t2, ↓b_t3, ↓b_t4, ↓b_t5, ↓b_t6, Nat.zero_add, Nat.le_refl, b_rs, b_rn, b_r2, b_ss, b_sn, b_bt, b_bf, b_b0, b_b1, b_bw, b_shl, b_or, b_iv, b_jv, b_sI, b_sJ, ↓z_hl, z_b0, z_b1, z_b2, b_and1c, b_and1z, if_true, if_false, nI_add, pk_mul, b_cl, b_lt, b_le, b_eq, b_eq0, b_le0, b_0lt, b_0le, b_lt0]
      · rw [b_rs, b_sn (by omega), v0]; exact h1
      · rw [b_rs, b_sn (by omega), v0]; exact h2
      · intro _
        rw [b_rs, b_ss]
    · rw [if_neg c]
      have c1 : i3 = 1 := by omega
      subst c1
      generalize hm3 : b_r m2 238 (b_s (m2 238) (3 * ln + 1) e) = m3 at f3
      have v1 : ∀ c, c ≠ 238 → m3 c = m2 c := fun c hc => by rw [← hm3, b_rn hc]
      have v2 : m3 238 = b_s (m 238) (3 * ln + 1) e := by rw [← hm3, b_rs, v0]
      have S2 : m3 236 2 = S 2 := by rw [v1 236 (by decide), o2.2.2.1 236 (by decide), S1]
      have N2 : j2 239 = N := (o2.2.2.2.1 239 (by decide)).trans N1
      have X2 : y_X m3 j2 b n q := y_X_fr X1 ((v1 235 (by decide)).trans (o2.2.2.1 235 (by decide))) (o2.2.2.2.1 240 (by decide))
      have s4 := s_Mo_takesName (X := X) (tx := tx) (D := d) (m := m3) (j := j2) (w := w) X2 (l_M_c o2.1 (v1 234 (by decide)) rfl) (by omega) (fr := 12) (many := S 2) (g := fun k => N (12 + k)) (by omega) (fun k hk => ⟨by rw [N2], hb.2.1 k hk⟩)
      cases q2 : k_look b n q (fun k => N (12 + k)) (S 2) (w_nx b n q (w_nx b n q p)) with
      | error e9 =>
        rw [q2] at s4
        obtain ⟨m4, j4, e4, x4⟩ := s4
        refine y_G_e rfl ?_ (z_lE_x f3 x4)
        simp (disch := omega) only [e1, S13, e2, g2, hm3, S2, e4, Nat.one_ne_zero, ↓bc_234, ↓br_234_6, ↓bc_236, ↓bx_236, bl_236, ↓br_234_8, ↓bc_238, ↓bx_238, bl_238, ↓b_t0, ↓b_t1, ↓b_t2, ↓b_t3, ↓b_t4, ↓b_t5, ↓b_t6, Nat.zero_add, Nat.le_refl, b_rs, b_rn, b_r2, b_ss, b_sn, b_bt, b_bf, b_b0, b_b1, b_bw, b_shl, b_or, b_iv, b_jv, b_sI, b_sJ, ↓z_hl, z_b0, z_b1, z_b2, b_and1c, b_and1z, if_true, if_false, nI_add, pk_mul, b_cl, b_lt, b_le, b_eq, b_eq0, b_le0, b_0lt, b_0le, b_lt0]
      | ok t =>
        rw [q2] at s4
        obtain ⟨m4, j4, ht, e4, o4, g4⟩ := s4
        have v4 : m4 238 = b_s (m 238) (3 * ln + 1) e := (o4.2.2.1 238 (by decide)).trans v2
        refine y_G_o rfl (m2 := b_r m4 238 (b_s (m4 238) (3 * ln + 2) t)) (j2 := j4) ?_ (l_M_c o4.1 (b_rn (by decide)) rfl) o4.2.1 (z_lf_w (z_lf_t f3 (z_lf_o o4)) (by omega)) ?_ ?_ ?_
        · simp (disch := omega) only [e1, S13, e2, g2, hm3, S2, e4, g4, Nat.one_ne_zero, ↓bc_234, ↓br_234_6, ↓bc_236, ↓bx_236, bl_236, ↓br_234_8, ↓bc_238, ↓bx_238, bl_238, ↓b_t0, ↓b_t1, ↓b_t2, ↓b_t3, ↓b_t4, ↓b_t5, ↓b_t6, Nat.zero_add, Nat.le_refl, b_rs, b_rn, b_r2, b_ss, b_sn, b_bt, b_bf, b_b0, b_b1, b_bw, b_shl, b_or, b_iv, b_jv, b_sI, b_sJ, ↓z_hl, z_b0, z_b1, z_b2, b_and1c, b_and1z, if_true, if_false, nI_add, pk_mul, b_cl, b_lt, b_le, b_eq, b_eq0, b_le0, b_0lt, b_0le, b_lt0]
        · rw [b_rs, b_sn (by omega), v4, b_sn (by omega)]; exact h1
        · rw [b_rs, b_ss]
        · intro _
          rw [b_rs, b_sn (by omega), v4, b_ss]
end LG
