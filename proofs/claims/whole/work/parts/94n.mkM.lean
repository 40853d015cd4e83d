/-! TEXTS: the reference reads a market -/
/-- line by line: s, words, whether dusk was told, lines -/
def k_mk (b : Nat → Nat) (n q : Nat) : Nat → (Nat → Nat) → (Nat → Nat) → Nat → Nat → Nat → Except (Nat × Nat) ((Nat → Nat) × (Nat → Nat) × Nat × Nat)
  | 0, _, _, _, _, _ => .error (0, 0)
  | f + 1, s, g, dk, ln, p => if w_kd b n q p = 3 then .ok (s, g, dk, ln) else match k_line b n q s g dk p with
    | .error e => .error e
    | .ok y => match k_sign b n q 59 y.2.2.2 with
      | .error e => .error e
      | .ok p2 => k_mk b n q f y.1 y.2.1 y.2.2.1 (ln + 1) p2
section KM
variable {b : Nat → Nat} {n q f : Nat} {s g : Nat → Nat} {dk ln p : Nat} {y : (Nat → Nat) × (Nat → Nat) × Nat × Nat} {e : Nat × Nat}
theorem k_mk_1 (h : w_kd b n q p = 3) : k_mk b n q (f + 1) s g dk ln p = .ok (s, g, dk, ln) := by
  unfold k_mk
  exact if_pos h
theorem k_mk_2 (h : w_kd b n q p ≠ 3) (h2 : k_line b n q s g dk p = .error e) : k_mk b n q (f + 1) s g dk ln p = .error e := by
  unfold k_mk
  rw [if_neg h, h2]
theorem k_mk_3 (h : w_kd b n q p ≠ 3) (h2 : k_line b n q s g dk p = .ok y) (h3 : k_sign b n q 59 y.2.2.2 = .error e) : k_mk b n q (f + 1) s g dk ln p = .error e := by
  unfold k_mk
  rw [if_neg h, h2]
  show (match k_sign b n q 59 y.2.2.2 with
      | .error e => .error e
      | .ok p2 => k_mk b n q f y.1 y.2.1 y.2.2.1 (ln + 1) p2 : Except (Nat × Nat) ((Nat → Nat) × (Nat → Nat) × Nat × Nat)) = _
  rw [h3]
theorem k_mk_4 (h : w_kd b n q p ≠ 3) (h2 : k_line b n q s g dk p = .ok y) {p2 : Nat} (h3 : k_sign b n q 59 y.2.2.2 = .ok p2) : k_mk b n q (f + 1) s g dk ln p = k_mk b n q f y.1 y.2.1 y.2.2.1 (ln + 1) p2 := by
  have : k_mk b n q (f + 1) s g dk ln p = if w_kd b n q p = 3 then .ok (s, g, dk, ln) else match k_line b n q s g dk p with
    | .error e => .error e
    | .ok y => match k_sign b n q 59 y.2.2.2 with
      | .error e => .error e
      | .ok p2 => k_mk b n q f y.1 y.2.1 y.2.2.1 (ln + 1) p2 := rfl
  rw [this, if_neg h, h2]
  show (match k_sign b n q 59 y.2.2.2 with
      | .error e => .error e
      | .ok p2 => k_mk b n q f y.1 y.2.1 y.2.2.1 (ln + 1) p2 : Except (Nat × Nat) ((Nat → Nat) × (Nat → Nat) × Nat × Nat)) = _
  rw [h3]
end KM
def y_fr2 (m m2 j j2 : Nat → Nat → Nat) : Prop := (∀ c, c ≠ 234 → c ≠ 237 → m2 c = m c) ∧ (∀ c x, c ≠ 234 → (c ≠ 239 ∨ x < 30) → j2 c x = j c x) ∧ ∀ k, k ≠ 4 → k ≠ 11 → k ≠ 12 → k ≠ 13 → k ≠ 14 → k ≠ 18 → k ≠ 19 → k ≠ 20 → m2 234 k = m 234 k
def y_E2 (m m2 j j2 : Nat → Nat → Nat) (e : Nat × Nat) : Prop := m2 234 15 = e.1 ∧ m2 234 16 = e.2 ∧ (∀ c, c ≠ 234 → c ≠ 237 → m2 c = m c) ∧ (∀ c x, c ≠ 234 → (c ≠ 239 ∨ x < 30) → j2 c x = j c x) ∧ ∀ k, k ≠ 4 → k ≠ 11 → k ≠ 12 → k ≠ 13 → k ≠ 14 → k ≠ 15 → k ≠ 16 → k ≠ 18 → k ≠ 19 → k ≠ 20 → m2 234 k = m 234 k
theorem y_fr2_r {m j : Nat → Nat → Nat} : y_fr2 m m j j := ⟨fun _ _ _ => rfl, fun _ _ _ _ => rfl, fun _ _ _ _ _ _ _ _ _ => rfl⟩
theorem y_fr2_t {m m2 m3 j j2 j3 : Nat → Nat → Nat} (h : y_fr2 m m2 j j2) (y : y_fr m2 m3 j2 j3) : y_fr2 m m3 j j3 :=
  ⟨fun c h1 h2 => (y.1 c h1 h2).trans (h.1 c h1 h2), fun c x h1 h2 => (y.2.1 c x h1 h2).trans (h.2.1 c x h1 h2), fun k h1 h2 h3 h4 h5 h6 h7 h8 => (y.2.2 k h1 h2 h3 h4 h5 h6 h8).trans (h.2.2 k h1 h2 h3 h4 h5 h6 h7 h8)⟩
theorem y_fr2_19 {m m2 j j2 : Nat → Nat → Nat} {v : Nat} (h : y_fr2 m m2 j j2) : y_fr2 m (b_r m2 234 (b_s (m2 234) 19 v)) j j2 :=
  ⟨fun c h1 h2 => (b_rn h1).trans (h.1 c h1 h2), h.2.1, fun k h1 h2 h3 h4 h5 h6 h7 h8 => by rw [b_rs, b_sn h7]; exact h.2.2 k h1 h2 h3 h4 h5 h6 h7 h8⟩
theorem y_E2_t {m m2 m3 j j2 j3 : Nat → Nat → Nat} {e : Nat × Nat} (h : y_fr2 m m2 j j2) (y : y_E m2 m3 j2 j3 e) : y_E2 m m3 j j3 e :=
  ⟨y.1, y.2.1, fun c h1 h2 => (y.2.2.1 c h1 h2).trans (h.1 c h1 h2), fun c x h1 h2 => (y.2.2.2.1 c x h1 h2).trans (h.2.1 c x h1 h2), fun k h1 h2 h3 h4 h5 h6 h7 h8 h9 h10 => (y.2.2.2.2 k h1 h2 h3 h4 h5 h6 h7 h8 h10).trans (h.2.2 k h1 h2 h3 h4 h5 h8 h9 h10)⟩
theorem y_S_19 {m j : Nat → Nat → Nat} {b : Nat → Nat} {n q : Nat} {s g : Nat → Nat} {dk p v : Nat} (h : y_S m j b n q s g dk p) : y_S (b_r m 234 (b_s (m 234) 19 v)) j b n q s g dk p := by
  obtain ⟨h1, h2, h3, h4, h5, h6⟩ := h
  exact ⟨y_X_fr h1 (b_rn (by decide)) rfl, l_M_18 h2 (by decide) (by decide) (by decide) (by decide) (by decide) (by decide), h3, fun x hx => by rw [b_rn (by decide)]; exact h4 x hx, by rw [b_rs, b_sn (by decide)]; exact h5, h6⟩
def y_M (m j : Nat → Nat → Nat) (w : (Nat × Nat) × Bool) (E : Except (Nat × Nat) ((Nat → Nat) × (Nat → Nat) × Nat × Nat)) (r : A_R) : Prop := match E with
  | .ok y => ∃ m2 j2, r = some (b_h (b_r (b_r m2 234 (b_s (m2 234) 23 0)) 236 (w_k4 (w_k3 (w_k2 (w_k1 (m2 236) (m2 237)))))) (b_r j2 239 (w_kJ j2)) w, some (.int (nI y.2.2.2))) ∧ (∀ x, x < 157 → m2 237 x = y.1 x) ∧ (∀ x, x < 30 → j2 239 (30 + x) = y.2.1 x) ∧ i_Q y.1 y.2.2.1 ∧ y_fr2 m m2 j j2
  | .error e => ∃ m2 j2, r = some (b_h m2 j2 w, some (.int (nI 4294967295 - nI e.2))) ∧ y_E2 m m2 j j2 e
section MKM
variable {X : Nat × (Nat → Int32)} {tx : List Int32} {D d : Nat} {m j : Nat → Nat → Nat} {w : (Nat × Nat) × Bool} {b : Nat → Nat} {n q : Nat}
theorem y_M_e {E : Except (Nat × Nat) ((Nat → Nat) × (Nat → Nat) × Nat × Nat)} {r : A_R} {e : Nat × Nat} {m2 j2 : Nat → Nat → Nat} (hE : E = .error e) (h1 : r = some (b_h m2 j2 w, some (.int (nI 4294967295 - nI (m2 234 16))))) (h2 : y_E2 m m2 j j2 e) : y_M m j w E r := by
  rw [hE]
  rw [h2.2.1] at h1
  exact ⟨m2, j2, h1, h2⟩
theorem s_Mo_mkL {s g : Nat → Nat} {dk p : Nat} (h : y_S m j b n q s g dk p) (hQ : i_Q s dk) (hl : m 234 19 = 0) (hd : 9 ≤ d) : ∀ F, 2000 + (n + 1) < F → y_M m j w (k_mk b n q (n + 1) s g dk 0 p) (a_go X tx (a_ex X tx a_T d) k_Mo_market_0 F 34 [.ref 234, .int (nI 157)] (b_h m j w)) := by
  intro F hF
  refine z_run (Q := y_M m j w (k_mk b n q (n + 1) s g dk 0 p)) (fun c L y => ∃ m' j' s' g' dk' ln' p', L = [.ref 234, .int (nI 157)] ∧ y = b_h m' j' w ∧ y_S m' j' b n q s' g' dk' p' ∧ m' 234 19 = ln' ∧ i_Q s' dk' ∧ y_fr2 m m' j j' ∧ k_mk b n q (n + 1) s g dk 0 p = k_mk b n q c s' g' dk' ln' p' ∧ n - p' < c) 2000 ?_ (n + 1) _ _ ⟨m, j, s, g, dk, 0, p, rfl, rfl, h, hl, hQ, y_fr2_r, rfl, by omega⟩ F (by omega)
  rintro c L y ⟨m', j', s', g', dk', ln', p', rfl, rfl, hS, hln, hQ', hf, hk, hc⟩ f hf2
  obtain ⟨c, rfl⟩ : ∃ c2, c = c2 + 1 := ⟨c - 1, by omega⟩
  rw [l_Mo_market_34, q_Mo_market_34]
  have htk := l_M_tk (y_S_l hS)
  have hkr := w_kr_lt (k := w_kd b n q p')
  by_cases c1 : w_kd b n q p' = 3
  · left
    rw [hk, k_mk_1 c1]
    refine ⟨m', j', ?_, fun x hx => (y_S_s hS x hx).1, fun x hx => y_N_al (y_S_N hS) x hx, hQ', hf⟩
    have hz : m' 234 11 = 0 := htk.trans (w_kr_0.mpr c1)
    rw [bc_234, b_iv, hz, if_pos (by decide +kernel), ← l_Mo_market_58, s_Mo_mk1 (f + 1) (by omega), hln]
  · have hnz : ¬ w_kr (w_kd b n q p') = 0 := fun x => c1 (w_kr_0.mp x)
    have s1 := s_Mo_line (X := X) (tx := tx) (D := d) (w := w) hS (by omega) hQ'.2.2 (i_S_ott hQ'.1) hQ'.2.1
    cases q1 : k_line b n q s' g' dk' p' with
    | error e =>
      left
      rw [q1] at s1
      obtain ⟨m2, j2, e1, e2⟩ := s1
      refine y_M_e (hk.trans (k_mk_2 c1 q1)) ?_ (y_E2_t hf e2)
      simp (disch := omega) only [htk, e1, ↓bc_234, ↓br_234_7, ↓bc_237, ↓bx_237, bl_237, ↓br_234_6, ↓bc_236, ↓bx_236, bl_236, ↓br_234_9, ↓bc_239, ↓bx_239, bl_239, ↓b_t0, ↓b_t1, ↓b_t2, ↓b_t3, ↓b_t4, ↓b_t5, ↓b_t6, Nat.zero_add, Nat.le_refl, b_rs, b_rn, b_r2, b_ss, b_sn, b_bt, b_bf, b_b0, b_b1, b_bw, b_shl, b_or, b_iv, b_jv, b_sI, b_sJ, ↓z_hl, z_b0, z_b1, z_b2, b_and1c, b_and1z, if_true, if_false, nI_add, pk_mul, b_cl, b_lt, b_le, b_eq, b_eq0, b_le0, b_0lt, b_0le, b_lt0]
      rw [if_neg hnz]
    | ok v =>
      rw [q1] at s1
      obtain ⟨m2, j2, e1, S2, r2⟩ := s1
      obtain ⟨i1, i2, i3⟩ := i_Q_line hQ' (y_S_p hS) q1
      have s2 := s_Mo_sign (X := X) (tx := tx) (D := d) (w := w) (y_S_x S2) (y_S_l S2) (by omega) (c := 59) (by omega) (by omega)
      cases q2 : k_sign b n q 59 v.2.2.2 with
      | error e =>
        left
        rw [q2] at s2
        obtain ⟨m3, j3, e3, e4⟩ := s2
        refine y_M_e (hk.trans (k_mk_3 c1 q1 q2)) ?_ (y_E2_t hf (y_E_t r2 (y_E_x e4)))
        simp (disch := omega) only [htk, e1, e3, Nat.one_ne_zero, ↓bc_234, ↓br_234_7, ↓bc_237, ↓bx_237, bl_237, ↓br_234_6, ↓bc_236, ↓bx_236, bl_236, ↓br_234_9, ↓bc_239, ↓bx_239, bl_239, ↓b_t0, ↓b_t1, ↓b_t2, ↓b_t3, ↓b_t4, ↓b_t5, ↓b_t6, Nat.zero_add, Nat.le_refl, b_rs, b_rn, b_r2, b_ss, b_sn, b_bt, b_bf, b_b0, b_b1, b_bw, b_shl, b_or, b_iv, b_jv, b_sI, b_sJ, ↓z_hl, z_b0, z_b1, z_b2, b_and1c, b_and1z, if_true, if_false, nI_add, pk_mul, b_cl, b_lt, b_le, b_eq, b_eq0, b_le0, b_0lt, b_0le, b_lt0]
        rw [if_neg hnz]
      | ok p2 =>
        right
        rw [q2] at s2
        obtain ⟨m3, j3, e3, e4⟩ := s2
        obtain ⟨S3, r3⟩ := y_S_o S2 e4
        obtain ⟨o1, o2, o3⟩ := k_sign_ok (by omega) q2
        have l3 : m3 234 19 = ln' := by
          rw [r3.2.2 19 (by decide) (by decide) (by decide) (by decide) (by decide) (by decide) (by decide), r2.2.2 19 (by decide) (by decide) (by decide) (by decide) (by decide) (by decide) (by decide)]
          exact hln
        refine ⟨c, _, _, Nat.lt_succ_self c, ⟨b_r m3 234 (b_s (m3 234) 19 (ln' + 1)), j3, v.1, v.2.1, v.2.2.1, ln' + 1, p2, rfl, rfl, y_S_19 S3, by rw [b_rs, b_ss], i1, y_fr2_19 (y_fr2_t (y_fr2_t hf r2) r3), hk.trans (k_mk_4 c1 q1 q2), by omega⟩, ?_⟩
        simp (disch := omega) only [htk, e1, e3, l3, Nat.one_ne_zero, ↓bc_234, ↓br_234_7, ↓bc_237, ↓bx_237, bl_237, ↓br_234_6, ↓bc_236, ↓bx_236, bl_236, ↓br_234_9, ↓bc_239, ↓bx_239, bl_239, ↓b_t0, ↓b_t1, ↓b_t2, ↓b_t3, ↓b_t4, ↓b_t5, ↓b_t6, Nat.zero_add, Nat.le_refl, b_rs, b_rn, b_r2, b_ss, b_sn, b_bt, b_bf, b_b0, b_b1, b_bw, b_shl, b_or, b_iv, b_jv, b_sI, b_sJ, ↓z_hl, z_b0, z_b1, z_b2, b_and1c, b_and1z, if_true, if_false, nI_add, pk_mul, b_cl, b_lt, b_le, b_eq, b_eq0, b_le0, b_0lt, b_0le, b_lt0]
        rw [if_neg hnz]
end MKM
