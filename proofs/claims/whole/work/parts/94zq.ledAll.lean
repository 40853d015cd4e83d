/-! LEDGERS: the calls -/
theorem w_keepU_c {u s r : Nat → Nat} {k : Nat} (h : ∀ i, i < 195 → r (157 + i) = s (157 + i)) : w_keepU u r k = w_keepU u s k := by
  unfold w_keepU
  funext i
  unfold b_rg
  by_cases c : 195 * (if k = 8 then 7 else k) ≤ i ∧ i < 195 * (if k = 8 then 7 else k) + 195
  · rw [if_pos c, if_pos c]
    exact h _ (by omega)
  · rw [if_neg c, if_neg c]
def y_LG (m j : Nat → Nat → Nat) (w : (Nat × Nat) × Bool) (i1 : Nat) (E : Except (Nat × Nat) ((Nat → Nat × Nat × Nat) × Nat)) (r : A_R) : Prop := match E with
  | .error e => ∃ m2 j2, r = some (b_h m2 j2 w, some (.int (nI 4294967294 - nI e.2))) ∧ m2 234 15 = e.1 ∧ m2 234 2 = 0 ∧ (∀ c, c ≠ 234 → c ≠ 238 → m2 c = m c) ∧ (∀ c, c ≠ 234 → j2 c = j c) ∧ ∀ k, 18 < k → k ≠ 41 → m2 234 k = m 234 k
  | .ok v => ∃ m3 j3, r = some (b_h m3 j3 w, some (.int (nI (if (w_jg v.1 v.2 0 (m 236)).1 = 0 then 4294967295 else (w_jg v.1 v.2 0 (m 236)).2.1)))) ∧ m3 234 15 = 0 ∧ m3 234 2 = 0 ∧ (∀ c, c ≠ 234 → c ≠ 236 → c ≠ 238 → c ≠ 241 → c ≠ 242 → c ≠ 251 → m3 c = m c) ∧ (∀ c, c ≠ 234 → j3 c = j c) ∧ (∀ k, 18 < k → k ≠ 23 → k ≠ 41 → k ≠ 43 → m3 234 k = m 234 k) ∧ m3 234 43 = 1 ∧ m3 251 0 = (w_jg v.1 v.2 0 (m 236)).1 ∧ m3 251 1 = (w_jg v.1 v.2 0 (m 236)).2.1 ∧ m3 251 2 = (w_jg v.1 v.2 0 (m 236)).2.2 157 ∧ m3 251 3 = w_ended (w_jg v.1 v.2 0 (m 236)).2.2 ∧ (if i1 = 1 ∧ (w_jg v.1 v.2 0 (m 236)).2.1 ≠ 0 then m3 236 = (w_jg v.1 v.2 0 (m 236)).2.2 ∧ m3 234 23 = w_keepN (m 234 23) ∧ m3 241 = w_keepU (m 241) (m 236) (m 234 23) else m3 236 = m 236 ∧ m3 234 23 = m 234 23 ∧ m3 241 = m 241)
def w_ml (m : Nat → Nat → Nat) : Nat → Nat → Nat := b_r (w_tk m 400) 234 (b_s (b_s (w_tk m 400 234) 15 0) 41 0)
section ML
variable {X : Nat × (Nat → Int32)} {tx : List Int32} {D d : Nat} {m j : Nat → Nat → Nat} {w : (Nat × Nat) × Bool} {b : Nat → Nat} {n i1 : Nat}
theorem s_Mo_ledger (hn : m 234 2 = n) (hn9 : n ≤ 940) (hb : ∀ x, x < n → m 235 x % 256 = b x) (hw : ∀ k, k < 19 → j 240 k = w_conv (w_wl k)) (hS : i_S (m 236)) (hI : i_D (m 236)) (hN : z_nb (j 239) (m 236)) (hk8 : m 234 23 ≤ 8) (hi : i1 < 2) (hD : 12 ≤ D) (L0 : Nat → Nat × Nat × Nat) : y_LG m j w i1 (k_lg b n 400 (j 239) (m 236) (n + 1) L0 0 0) (a_ex X tx a_T D 300 [.ref 234, .int (nI i1)] (b_h m j w)) := by
  obtain ⟨d, rfl⟩ : ∃ d, D = d + 1 := ⟨D - 1, by omega⟩
  have st := s_Mo_taken (X := X) (tx := tx) (D := d) (m := m) (j := j) (w := w) (by omega) (q := 400)
  have v0 : ∀ c, c ≠ 234 → w_ml m c = m c := fun c hc => by
    unfold w_ml w_tk
    rw [b_rn hc, b_rn hc]
  have f3 : w_ml m 234 3 = n := by
    unfold w_ml w_tk
    rw [b_rs, b_sn (by decide), b_sn (by decide), b_rs, b_sn (by decide), b_sn (by decide), b_sn (by decide), b_ss]
    exact hn
  have f5 : w_ml m 234 5 = 400 := by
    unfold w_ml w_tk
    rw [b_rs, b_sn (by decide), b_sn (by decide), b_rs, b_ss]
  have f4 : w_ml m 234 4 = 0 := by
    unfold w_ml w_tk
    rw [b_rs, b_sn (by decide), b_sn (by decide), b_rs, b_sn (by decide), b_ss]
  have f2 : w_ml m 234 2 = 0 := by
    unfold w_ml w_tk
    rw [b_rs, b_sn (by decide), b_sn (by decide), b_rs, b_sn (by decide), b_sn (by decide), b_ss]
  have f41 : w_ml m 234 41 = 0 := by
    unfold w_ml
    rw [b_rs, b_ss]
  have f15 : w_ml m 234 15 = 0 := by
    unfold w_ml
    rw [b_rs, b_sn (by decide), b_ss]
  have fk : ∀ k, 5 < k → k ≠ 15 → k ≠ 41 → w_ml m 234 k = m 234 k := fun k h1 h2 h3 => by
    unfold w_ml w_tk
    rw [b_rs, b_sn h3, b_sn h2, b_rs, b_sn (by omega), b_sn (by omega), b_sn (by omega), b_sn (by omega), b_sn (by omega)]
  have s2 := s_Mo_next (X := X) (tx := tx) (D := d) (m := w_ml m) (j := j) (w := w) (by omega) (b := b) (n := n) (q := 400) (p := 0) f3 f5 f4 hn9 (by decide) (Nat.zero_le _) (by rw [v0 235 (by decide)]; exact hb)
  obtain ⟨m1, j1, e1, l1, r1⟩ := s2
  have X1 : y_X m1 j1 b n 400 := ⟨hn9, by decide, by rw [r1.1 235 (by decide), v0 235 (by decide)]; exact hb, by rw [r1.2.1 240 (by decide)]; exact hw⟩
  have S1 : m1 236 = m 236 := by rw [r1.1 236 (by decide), v0 236 (by decide)]
  have m41 : m1 234 41 = 0 := by rw [r1.2.2 41 (by decide) (by decide) (by decide) (by decide) (by decide)]; exact f41
  have s3 := s_Mo_ledR (X := X) (tx := tx) (d := d) (m := m1) (j := j1) (w := w) (i1 := i1) X1 l1 (Nat.zero_le _) S1 hS (r1.2.1 239 (by decide)) hN m41 (by omega) L0 (a_f1 + 1) (z_fu (by omega))
  have pre : a_ex X tx a_T (d + 1) 300 [.ref 234, .int (nI i1)] (b_h m j w) = a_go X tx (a_ex X tx a_T d) k_Mo_ledger_0 (a_f1 + 1) 21 [.ref 234, .int (nI i1), .retAddr 0, .retAddr 0] (b_h m1 j1 w) := by
    unfold w_ml at e1
    rw [e_Mo_ledger, q_Mo_ledger_0, l_Mo_ledger_21]
    have s4 := s_Mo_isIn (X := X) (tx := tx) (D := d) (m := b_r m 234 (b_s (m 234) 0 0)) (j := j) (w := w) (by omega) (n := i1) (lo := 0) (hi := 1) (by omega) (by decide) (by decide)
    rw [decide_eq_true (by omega)] at s4
    simp (disch := omega) only [s4, st, e1, Nat.one_ne_zero, ↓bc_234, ↓br_234_42, ↓bc_251, ↓bx_251, bl_251, ↓br_234_8, ↓bc_238, ↓bx_238, bl_238, ↓br_234_6, ↓bc_236, ↓bx_236, bl_236, ↓br_234_21, ↓bc_241, ↓bx_241, bl_241, ↓br_234_22, ↓bc_242, ↓bx_242, bl_242, ↓b_t0, ↓b_t1, ↓b_t2, ↓b_t3, ↓b_t4, ↓b_t5, ↓b_t6, Nat.zero_add, Nat.le_refl, b_rs, b_rn, b_r2, b_ss, b_sn, b_bt, b_bf, b_b0, b_b1, b_bw, b_shl, b_or, b_iv, b_jv, b_sI, b_sJ, ↓z_hl, z_b0, z_b1, z_b2, b_and1c, b_and1z, if_true, if_false, nI_add, pk_mul, b_cl, b_lt, b_le, b_eq, b_eq0, b_le0, b_0lt, b_0le, b_lt0]
  rw [pre]
  cases hr : k_lg b n 400 (j 239) (m 236) (n + 1) L0 0 0 with
  | error e =>
    rw [hr] at s3
    obtain ⟨m2, j2, e2, x1, x2, x3, x4, x5⟩ := s3
    refine ⟨m2, j2, e2, x1, ?_, fun c h1 h2 => by rw [x3 c h1 h2, r1.1 c h1, v0 c h1], fun c h1 => (x4 c h1).trans (r1.2.1 c h1), fun k h1 h2 => by rw [x5 k (by omega) (by omega) h2, r1.2.2 k (by omega) (by omega) (by omega) (by omega) (by omega)]; exact fk k (by omega) (by omega) h2⟩
    rw [x5 2 (by decide) (by decide) (by decide), r1.2.2 2 (by decide) (by decide) (by decide) (by decide) (by decide)]
    exact f2
  | ok v =>
    rw [hr] at s3
    obtain ⟨m2, j2, F, hF, e2, x1, x2, x3, x4, x5, x6⟩ := s3
    have S2 : m2 236 = m 236 := (x4 236 (by decide) (by decide)).trans S1
    have r242 : m2 236 = m 236 := S2
    generalize hH : b_r m2 242 (b_rg (m2 242) 0 195 fun i => m2 236 (157 + i)) = H at e2
    have vH : ∀ c, c ≠ 242 → H c = m2 c := fun c hc => by rw [← hH, b_rn hc]
    have SH : H 236 = m 236 := (vH 236 (by decide)).trans S2
    have k23 : H 234 23 = m 234 23 := by rw [vH 234 (by decide), x6 23 (by decide) (by decide) (by decide) (by decide), r1.2.2 23 (by decide) (by decide) (by decide) (by decide) (by decide)]; exact fk 23 (by decide) (by decide) (by decide)
    have hk : ∀ k, 18 < k → k ≠ 41 → H 234 k = m 234 k := fun k h1 h2 => by rw [vH 234 (by decide), x6 k (by omega) (by omega) (by omega) h2, r1.2.2 k (by omega) (by omega) (by omega) (by omega) (by omega)]; exact fk k (by omega) (by omega) h2
    obtain ⟨m4, m3, e3, ⟨y1, y2, y3, y4, y5⟩, z1, z2, z3, z4⟩ := s_Mo_led47 (X := X) (tx := tx) (d := d) (m := H) (j := j2) (w := w) (L := v.1) (n := v.2) (i1 := i1) (u := .retAddr 0) (by rw [vH 234 (by decide)]; exact x1) x2 (by rw [SH]; exact hS) (by rw [SH]; exact hI) (fun i hi => by
      rw [SH]
      obtain ⟨⟨a1, a2, a3⟩, a4⟩ := x3 i hi
      unfold z_lm
      rw [vH 238 (by decide)]
      exact ⟨⟨a1, a2, a3⟩, a4⟩) hi (by rw [k23]; exact hk8) (by omega) (F := F) (by omega)
    rw [SH] at e3 z2 z3 z4
    obtain ⟨t1, t2, t3, t4, t5, t6, t7⟩ := w_jg_ok v.2 0 (m 236) hS hI (fun x _ hx => (x3 x (by omega)).2)
    unfold y_LG
    dsimp only
    generalize w_jg v.1 v.2 0 (m 236) = R at e3 z2 z3 z4 t1 t2 t3 t4 t5 t6 t7 ⊢
    have e251 : m3 251 0 = m4 251 0 ∧ m3 251 1 = m4 251 1 ∧ m3 251 2 = m4 236 157 ∧ m3 251 3 = w_ended (m4 236) := by
      rw [y4]
      exact ⟨by rw [b_sn (by decide), b_sn (by decide)], by rw [b_sn (by decide), b_sn (by decide)], by rw [b_sn (by decide), b_ss], by rw [b_ss]⟩
    have g234 : ∀ k, m4 234 k = H 234 k := fun k => by rw [z1 234 (by decide) (by decide)]
    refine ⟨m3, j2, e2.trans e3, ?_, ?_, fun c h1 h2 h3 h4 h5 h6 => ?_, fun c h1 => (x5 c h1).trans (r1.2.1 c h1), fun k h1 h2 h3 h4 => by rw [y2 k h2 h4, g234 k]; exact hk k h1 h3, y3, by rw [e251.1, z3], by rw [e251.2.1, z4], by rw [e251.2.2.1, z2], by rw [e251.2.2.2, z2], ?_⟩
    · rw [y2 15 (by decide) (by decide), g234 15, vH 234 (by decide), x6 15 (by decide) (by decide) (by decide) (by decide), r1.2.2 15 (by decide) (by decide) (by decide) (by decide) (by decide)]
      exact f15
    · rw [y2 2 (by decide) (by decide), g234 2, vH 234 (by decide), x6 2 (by decide) (by decide) (by decide) (by decide), r1.2.2 2 (by decide) (by decide) (by decide) (by decide) (by decide)]
      exact f2
    · rw [y1 c h1 h2 h4 h6, z1 c h2 h6, vH c h5, x4 c h1 h3, r1.1 c h1, v0 c h1]
    · have e242 : m4 242 = H 242 := z1 242 (by decide) (by decide)
      have H242 : H 242 = b_rg (m2 242) 0 195 fun i => m 236 (157 + i) := by rw [← hH, b_rs, S2]
      have q241 : m4 241 = m 241 := by rw [z1 241 (by decide) (by decide), vH 241 (by decide), x4 241 (by decide) (by decide), r1.1 241 (by decide), v0 241 (by decide)]
      rw [z4] at y5
      by_cases c : i1 = 1 ∧ R.2.1 ≠ 0
      · rw [if_pos c] at y5 ⊢
        obtain ⟨a1, a2, a3⟩ := y5
        refine ⟨a1.trans z2, by rw [a2, g234 23, k23], ?_⟩
        rw [a3, q241, g234 23, k23, e242, H242]
        refine w_keepU_c fun i hi => ?_
        show b_rg (m2 242) 0 195 (fun i => m 236 (157 + i)) (157 + i - 157) = _
        rw [Nat.add_sub_cancel_left, b_rgi (by omega) (by omega), Nat.sub_zero]
      · rw [if_neg c] at y5 ⊢
        obtain ⟨a1, a2, a3⟩ := y5
        refine ⟨?_, by rw [a1, g234 23, k23], by rw [a2, q241]⟩
        rw [a3]
        by_cases c0 : i1 = 0
        · rw [if_pos c0, z2, e242, H242]
          funext i
          by_cases ci : 157 ≤ i ∧ i < 352
          · rw [b_rgi ci.1 (by omega), b_rgi (by omega) (by omega), Nat.sub_zero, show 157 + (i - 157) = i by omega]
          · rw [b_rgo (by omega)]
            exact t3 i (by omega)
        · rw [if_neg c0, z2]
          have c1 : i1 = 1 := by omega
          exact t7 (Classical.byContradiction fun x => c ⟨c1, x⟩)
end ML
