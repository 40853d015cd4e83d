/-! TEXTS: the reference's market -/
theorem y_fr2_t2 {m m2 m3 j j2 j3 : Nat → Nat → Nat} (h : y_fr2 m m2 j j2) (y : y_fr2 m2 m3 j2 j3) : y_fr2 m m3 j j3 :=
  ⟨fun c h1 h2 => (y.1 c h1 h2).trans (h.1 c h1 h2), fun c x h1 h2 => (y.2.1 c x h1 h2).trans (h.2.1 c x h1 h2), fun k h1 h2 h3 h4 h5 h6 h7 h8 => (y.2.2 k h1 h2 h3 h4 h5 h6 h7 h8).trans (h.2.2 k h1 h2 h3 h4 h5 h6 h7 h8)⟩
theorem y_E2_t2 {m m2 m3 j j2 j3 : Nat → Nat → Nat} {e : Nat × Nat} (h : y_fr2 m m2 j j2) (y : y_E2 m2 m3 j2 j3 e) : y_E2 m m3 j j3 e :=
  ⟨y.1, y.2.1, fun c h1 h2 => (y.2.2.1 c h1 h2).trans (h.1 c h1 h2), fun c x h1 h2 => (y.2.2.2.1 c x h1 h2).trans (h.2.1 c x h1 h2), fun k h1 h2 h3 h4 h5 h6 h7 h8 h9 h10 => (y.2.2.2.2 k h1 h2 h3 h4 h5 h6 h7 h8 h9 h10).trans (h.2.2 k h1 h2 h3 h4 h5 h8 h9 h10)⟩
theorem y_M_b {m m2 j j2 : Nat → Nat → Nat} {w : (Nat × Nat) × Bool} {E : Except (Nat × Nat) ((Nat → Nat) × (Nat → Nat) × Nat × Nat)} {r : A_R} (h : y_fr2 m m2 j j2) (y : y_M m2 j2 w E r) : y_M m j w E r := by
  cases E with
  | error e =>
    obtain ⟨m3, j3, h1, h2⟩ := y
    exact ⟨m3, j3, h1, y_E2_t2 h h2⟩
  | ok v =>
    obtain ⟨m3, j3, h1, h2, h3, h4, h5⟩ := y
    exact ⟨m3, j3, h1, h2, h3, h4, y_fr2_t2 h h5⟩
/-- ahead of the reading -/
def w_mb (m : Nat → Nat → Nat) : Nat → Nat → Nat := b_r (w_tk m 900) 234 (b_s (b_s (b_s (w_tk m 900 234) 15 0) 19 0) 20 0)
section MO
variable {X : Nat × (Nat → Int32)} {tx : List Int32} {D d : Nat} {m j : Nat → Nat → Nat} {w : (Nat × Nat) × Bool} {b : Nat → Nat} {n : Nat}
theorem w_mb_c {c : Nat} (h : c ≠ 234) : w_mb m c = m c := by
  unfold w_mb w_tk
  rw [b_rn h, b_rn h]
theorem s_Mo_market (hn : m 234 2 = n) (hn9 : n ≤ 940) (hb : ∀ x, x < n → m 235 x % 256 = b x) (hw : ∀ k, k < 19 → j 240 k = w_conv (w_wl k)) (hD : 10 ≤ D) : y_M (w_mb m) j w (k_mk b n 900 (n + 1) (b_s (fun _ => 0) 4 1) (fun x => j 239 (30 + x)) 0 0 0) (a_ex X tx a_T D 225 [.ref 234] (b_h m j w)) := by
  obtain ⟨d, rfl⟩ : ∃ d, D = d + 1 := ⟨D - 1, by omega⟩
  have st := s_Mo_taken (X := X) (tx := tx) (D := d) (m := m) (j := j) (w := w) (by omega) (q := 900)
  have pre : a_ex X tx a_T (d + 1) 225 [.ref 234] (b_h m j w) = a_go X tx (a_ex X tx a_T d) k_Mo_market_0 (a_f1 + 1) 17 [.ref 234, .int (nI 0)] (b_h (w_mb m) j w) := by
    rw [e_Mo_market, q_Mo_market_0, l_Mo_market_17]
    simp (disch := omega) only [st, ↓bc_234, ↓br_234_7, ↓bc_237, ↓bx_237, bl_237, ↓br_234_6, ↓bc_236, ↓bx_236, bl_236, ↓br_234_9, ↓bc_239, ↓bx_239, bl_239, ↓b_t0, ↓b_t1, ↓b_t2, ↓b_t3, ↓b_t4, ↓b_t5, ↓b_t6, Nat.zero_add, Nat.le_refl, b_rs, b_rn, b_r2, b_ss, b_sn, b_bt, b_bf, b_b0, b_b1, b_bw, b_shl, b_or, b_iv, b_jv, b_sI, b_sJ, ↓z_hl, z_b0, z_b1, z_b2, b_and1c, b_and1z, if_true, if_false, nI_add, pk_mul, b_cl, b_lt, b_le, b_eq, b_eq0, b_le0, b_0lt, b_0le, b_lt0]
    rfl
  have f3 : w_mb m 234 3 = n := by
    unfold w_mb w_tk
    rw [b_rs, b_sn (by decide), b_sn (by decide), b_sn (by decide), b_rs, b_sn (by decide), b_sn (by decide), b_sn (by decide), b_ss]
    exact hn
  have f5 : w_mb m 234 5 = 900 := by
    unfold w_mb w_tk
    rw [b_rs, b_sn (by decide), b_sn (by decide), b_sn (by decide), b_rs, b_ss]
  have f4 : w_mb m 234 4 = 0 := by
    unfold w_mb w_tk
    rw [b_rs, b_sn (by decide), b_sn (by decide), b_sn (by decide), b_rs, b_sn (by decide), b_ss]
  have f19 : w_mb m 234 19 = 0 := by
    unfold w_mb
    rw [b_rs, b_sn (by decide), b_ss]
  have f20 : w_mb m 234 20 = 0 := by
    unfold w_mb
    rw [b_rs, b_ss]
  have f237 : w_mb m 237 = m 237 := w_mb_c (by decide)
  have f235 : w_mb m 235 = m 235 := w_mb_c (by decide)
  rw [pre]
  clear pre st
  generalize w_mb m = M at f3 f4 f5 f19 f20 f235 f237 ⊢
  obtain ⟨m2, j2, e1, e2, e3⟩ := s_Mo_next (X := X) (tx := tx) (D := d) (m := b_r M 237 (b_s (b_rg (M 237) 0 157 fun _ => 0) 4 1)) (j := j) (w := w) (by omega) (b := b) (n := n) (q := 900) (p := 0) (by rw [b_rn (by decide)]; exact f3) (by rw [b_rn (by decide)]; exact f5) (by rw [b_rn (by decide)]; exact f4) hn9 (by decide) (Nat.zero_le _) (by rw [b_rn (by decide), f235]; exact hb)
  have hfr : y_fr2 M m2 j j2 := ⟨fun c h1 h2 => (e3.1 c h1).trans (b_rn h2), fun c x h1 _ => congrFun (e3.2.1 c h1) x, fun k h1 h2 h3 h4 h5 h6 h7 h8 => (e3.2.2 k h1 h2 h3 h4 h5).trans (by rw [b_rn (by decide)])⟩
  have hS : y_S m2 j2 b n 900 (b_s (fun _ => 0) 4 1) (fun x => j 239 (30 + x)) 0 0 := by
    have g1 : m2 235 = m 235 := by rw [e3.1 235 (by decide), b_rn (by decide), f235]
    have g2 : j2 240 = j 240 := e3.2.1 240 (by decide)
    have g3 : m2 237 = b_s (b_rg (M 237) 0 157 fun _ => 0) 4 1 := by rw [e3.1 237 (by decide), b_rs]
    have g4 : j2 239 = j 239 := e3.2.1 239 (by decide)
    refine ⟨⟨hn9, by decide, by rw [g1]; exact hb, by rw [g2]; exact hw⟩, e2, ⟨by rw [b_sn (by decide)]; omega, by rw [b_sn (by decide)]; omega, by rw [b_sn (by decide)]; omega, by rw [b_sn (by decide)]; omega, fun x _ => by rw [g4], ?_, ?_, ?_, ?_⟩, fun x hx => ?_, ?_, Nat.zero_le _⟩
    · intro k hk; rw [b_sn (by decide)] at hk; omega
    · intro k hk; rw [b_sn (by decide)] at hk; omega
    · intro k hk; rw [b_sn (by decide)] at hk; omega
    · intro k hk; rw [b_sn (by decide)] at hk; omega
    · rw [g3]
      by_cases c : x = 4
      · rw [c, b_ss, b_ss]; exact ⟨rfl, by decide⟩
      · rw [b_sn c, b_sn c, b_rgi (Nat.zero_le _) (by omega)]; exact ⟨rfl, by decide⟩
    · rw [e3.2.2 20 (by decide) (by decide) (by decide) (by decide) (by decide), b_rn (by decide)]
      exact f20
  have hl : m2 234 19 = 0 := by rw [e3.2.2 19 (by decide) (by decide) (by decide) (by decide) (by decide), b_rn (by decide)]; exact f19
  have fin := fun F hF => y_M_b hfr (s_Mo_mkL (X := X) (tx := tx) (d := d) (w := w) hS i_Q_0 hl (by omega) F hF)
  refine z_run (Q := y_M M j w (k_mk b n 900 (n + 1) (b_s (fun _ => 0) 4 1) (fun x => j 239 (30 + x)) 0 0 0)) (fun c L y => ∃ i, c + i = 157 ∧ L = [.ref 234, .int (nI i)] ∧ y = b_h (b_r M 237 (b_rg (M 237) 0 i fun _ => 0)) j w) 4000 ?_ 157 _ _ ⟨0, by omega, rfl, by rw [b_rg0, b_rid rfl]⟩ _ (z_fu (by omega))
  rintro c L y ⟨i, hc, rfl, rfl⟩ f hf
  rw [l_Mo_market_17, q_Mo_market_17]
  by_cases c1 : i = 157
  · left
    subst c1
    rw [if_pos (by decide +kernel)]
    have := fin (f + 1) (by omega)
    rw [l_Mo_market_34] at this
    simp (disch := omega) only [e1, ↓bc_234, ↓br_234_7, ↓bc_237, ↓bx_237, bl_237, ↓br_234_6, ↓bc_236, ↓bx_236, bl_236, ↓br_234_9, ↓bc_239, ↓bx_239, bl_239, ↓b_t0, ↓b_t1, ↓b_t2, ↓b_t3, ↓b_t4, ↓b_t5, ↓b_t6, Nat.zero_add, Nat.le_refl, b_rs, b_rn, b_r2, b_ss, b_sn, b_bt, b_bf, b_b0, b_b1, b_bw, b_shl, b_or, b_iv, b_jv, b_sI, b_sJ, ↓z_hl, z_b0, z_b1, z_b2, b_and1c, b_and1z, if_true, if_false, nI_add, pk_mul, b_cl, b_lt, b_le, b_eq, b_eq0, b_le0, b_0lt, b_0le, b_lt0]
    exact this
  · right
    refine ⟨c - 1, [.ref 234, .int (nI (i + 1))], b_h (b_r M 237 (b_rg (M 237) 0 (i + 1) fun _ => 0)) j w, by omega, ⟨i + 1, by omega, rfl, rfl⟩, ?_⟩
    simp (disch := omega) only [↓bc_234, ↓br_234_7, ↓bc_237, ↓bx_237, bl_237, ↓br_234_6, ↓bc_236, ↓bx_236, bl_236, ↓br_234_9, ↓bc_239, ↓bx_239, bl_239, ↓b_t0, ↓b_t1, ↓b_t2, ↓b_t3, ↓b_t4, ↓b_t5, ↓b_t6, Nat.zero_add, Nat.le_refl, b_rs, b_rn, b_r2, b_ss, b_sn, b_bt, b_bf, b_b0, b_b1, b_bw, b_shl, b_or, b_iv, b_jv, b_sI, b_sJ, ↓z_hl, z_b0, z_b1, z_b2, b_and1c, b_and1z, if_true, if_false, nI_add, pk_mul, b_cl, b_lt, b_le, b_eq, b_eq0, b_le0, b_0lt, b_0le, b_lt0]
    rw [if_neg (by omega), b_rg1' (by omega) rfl]
end MO
