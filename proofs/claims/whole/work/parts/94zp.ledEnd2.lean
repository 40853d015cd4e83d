/-! LEDGERS: judged, the reference's side, further -/
/-- from the reading on -/
def y_61 (m m1 m3 : Nat → Nat → Nat) (i1 : Nat) (r : Nat × Nat × (Nat → Nat)) : Prop := y_13 m1 m3 i1 ∧ (∀ c, c ≠ 236 → c ≠ 251 → m1 c = m c) ∧ m1 236 = r.2.2 ∧ m1 251 0 = r.1 ∧ m1 251 1 = r.2.1
section EN
variable {X : Nat × (Nat → Int32)} {tx : List Int32} {D d : Nat} {m j : Nat → Nat → Nat} {w : (Nat × Nat) × Bool} {L : Nat → Nat × Nat × Nat} {n i1 : Nat}
theorem s_Mo_led61 (hn : m 234 41 = n) (hn40 : n ≤ 40) (hS : i_S (m 236)) (hI : i_D (m 236)) (hL : ∀ i, i < n → z_lm m i (L i) ∧ z_lv (m 236) (L i)) (h0 : m 251 0 = 0) (h1 : m 251 1 = 0) (hi : i1 < 2) (hk8 : m 234 23 ≤ 8) (hd : 7 ≤ d) : ∀ F, 400 < F → ∃ m1 m3, a_go X tx (a_ex X tx a_T d) k_Mo_ledger_0 F 61 [.ref 234, .int (nI i1), .int (nI 4294967295), .int (nI 0)] (b_h m j w) = some (b_h m3 j w, some (.int (nI (if (w_jg L n 0 (m 236)).1 = 0 then 4294967295 else (w_jg L n 0 (m 236)).2.1)))) ∧ y_61 m m1 m3 i1 (w_jg L n 0 (m 236)) := by
  intro F hF
  obtain ⟨t1, t2, t3, t4, t5, t6, t7⟩ := w_jg_ok n 0 (m 236) hS hI (fun x _ hx => (hL x (by omega)).2)
  generalize hr : w_jg L n 0 (m 236) = r at t1 t2 t3 t4 t5 t6 t7 ⊢
  refine z_run (Q := fun x => ∃ m1 m3, x = some (b_h m3 j w, some (.int (nI (if r.1 = 0 then 4294967295 else r.2.1)))) ∧ y_61 m m1 m3 i1 r) (fun c A y => (∃ m' k i s', c = k + 1 ∧ k + i = n ∧ A = [.ref 234, .int (nI i1), .int (nI 4294967295), .int (nI i)] ∧ y = b_h m' j w ∧ (∀ c, c ≠ 236 → c ≠ 251 → m' c = m c) ∧ m' 236 = s' ∧ i_S s' ∧ i_D s' ∧ (∀ x, x < 157 ∨ 352 ≤ x → s' x = m 236 x) ∧ m' 251 0 = 0 ∧ m' 251 1 = i ∧ r = w_jg L k i s') ∨ (∃ m' i, c = 0 ∧ i ≤ n ∧ A = [.ref 234, .int (nI i1), .int (nI r.2.1), .int (nI i)] ∧ y = b_h m' j w ∧ (∀ c, c ≠ 236 → c ≠ 251 → m' c = m c) ∧ m' 236 = r.2.2 ∧ m' 251 0 = r.1 ∧ r.1 ≠ 0 ∧ m' 251 1 = r.2.1)) 300 ?_ (n + 1) _ _ (Or.inl ⟨m, n, 0, m 236, rfl, rfl, rfl, rfl, fun _ _ _ => rfl, rfl, hS, hI, fun _ _ => rfl, h0, h1, hr.symm⟩) F (by omega)
  rintro c A y (⟨m', k, i, s', rfl, hk, rfl, rfl, g1, g2, g3, g4, g5, g6, g7, g8⟩ | ⟨m', i, rfl, hi3, rfl, rfl, g1, g2, g3, g4, g5⟩) f hf
  · have h41 : m' 234 41 = n := by rw [g1 234 (by decide) (by decide)]; exact hn
    rw [l_Mo_ledger_61, q_Mo_ledger_61]
    by_cases c1 : i = n
    · left
      have k0 : k = 0 := by omega
      subst k0
      have e1 : r.1 = 0 := by rw [g8]; rfl
      have e2 : r.2.1 = i := by rw [g8]; rfl
      have e3 : r.2.2 = s' := by rw [g8]; rfl
      obtain ⟨m3, f1, f2⟩ := s_Mo_led113 (X := X) (tx := tx) (d := d) (m := m') (j := j) (w := w) (f := f) (i1 := i1) (v := 4294967295) (i3 := i) (by rw [g2]; exact g3) (by rw [g2]; exact g4) hi (by rw [g1 234 (by decide) (by decide)]; exact hk8) (by omega) (by omega) (by omega)
      refine ⟨m', m3, ?_, f2, g1, by rw [e3]; exact g2, by rw [e1]; exact g6, by rw [e2]; exact g7⟩
      rw [if_pos e1]
      simp (disch := omega) only [h41, ↓bc_234, ↓br_234_42, ↓bc_251, ↓bx_251, bl_251, ↓br_234_8, ↓bc_238, ↓bx_238, bl_238, ↓br_234_6, ↓bc_236, ↓bx_236, bl_236, ↓br_234_21, ↓bc_241, ↓bx_241, bl_241, ↓br_234_22, ↓bc_242, ↓bx_242, bl_242, ↓b_t0, ↓b_t1, ↓b_t2, ↓b_t3, ↓b_t4, ↓b_t5, ↓b_t6, Nat.zero_add, Nat.le_refl, b_rs, b_rn, b_r2, b_ss, b_sn, b_bt, b_bf, b_b0, b_b1, b_bw, b_shl, b_or, b_iv, b_jv, b_sI, b_sJ, ↓z_hl, z_b0, z_b1, z_b2, b_and1c, b_and1z, if_true, if_false, nI_add, pk_mul, b_cl, b_lt, b_le, b_eq, b_eq0, b_le0, b_0lt, b_0le, b_lt0]
      rw [if_pos (by omega)]
      exact f1
    · right
      obtain ⟨k, rfl⟩ : ∃ k2, k = k2 + 1 := ⟨k - 1, by omega⟩
      obtain ⟨⟨x1, x2, x3⟩, hx⟩ := hL i (by omega)
      have hv : z_lv s' (L i) := z_lv_s g5 hx
      have e238 : m' 238 = m 238 := g1 238 (by decide) (by decide)
      have s1 := s_Mo_lives (X := X) (tx := tx) (D := d) (m := m') (j := j) (w := w) (y := L i) (e := m' 238 (3 * i + 1)) (by rw [g2]; exact g3) (by rw [g2]; exact g4) (by rw [g2]; exact hv) (fun h => by rw [e238]; exact x3 h) (by omega)
      rw [g2] at s1
      obtain ⟨v1, v2, v3, v4, v5⟩ := w_lv_ok g3 g4 hv
      have y0 : m' 238 (3 * i) = (L i).1 := by rw [e238]; exact x1
      have y2 : m' 238 (3 * i + 2) = (L i).2.2 := by rw [e238]; exact x2
      by_cases c2 : (w_lv s' (L i)).1 = 0
      · rw [w_jg_o c2] at g8
        rw [c2] at s1
        refine ⟨k + 1, [.ref 234, .int (nI i1), .int (nI 4294967295), .int (nI (i + 1))], b_h (b_r (b_r m' 236 (w_lv s' (L i)).2) 251 (b_s (b_s (m' 251) 0 0) 1 (i + 1))) j w, by omega, Or.inl ⟨_, k, i + 1, (w_lv s' (L i)).2, rfl, by omega, rfl, rfl, fun c p1 p2 => by rw [b_rn p2, b_rn p1]; exact g1 c p1 p2, by rw [b_rn (by decide), b_rs], v1, v2, fun x hx => (v3 x hx).trans (g5 x hx), by rw [b_rs, b_sn (by decide), b_ss], by rw [b_rs, b_ss], g8⟩, ?_⟩
        simp (disch := omega) only [h41, b_0leM, y0, y2, s1, g7, ↓bc_234, ↓br_234_42, ↓bc_251, ↓bx_251, bl_251, ↓br_234_8, ↓bc_238, ↓bx_238, bl_238, ↓br_234_6, ↓bc_236, ↓bx_236, bl_236, ↓br_234_21, ↓bc_241, ↓bx_241, bl_241, ↓br_234_22, ↓bc_242, ↓bx_242, bl_242, ↓b_t0, ↓b_t1, ↓b_t2, ↓b_t3, ↓b_t4, ↓b_t5, ↓b_t6, Nat.zero_add, Nat.le_refl, b_rs, b_rn, b_r2, b_ss, b_sn, b_bt, b_bf, b_b0, b_b1, b_bw, b_shl, b_or, b_iv, b_jv, b_sI, b_sJ, ↓z_hl, z_b0, z_b1, z_b2, b_and1c, b_and1z, if_true, if_false, nI_add, pk_mul, b_cl, b_lt, b_le, b_eq, b_eq0, b_le0, b_0lt, b_0le, b_lt0]
        rw [if_neg (by omega)]
      · rw [w_jg_x c2] at g8
        have r1 : r.1 = (w_lv s' (L i)).1 := by rw [g8]
        have r2 : r.2.1 = i := by rw [g8]
        have r3 : r.2.2 = s' := by rw [g8]
        rw [v5 c2, ← g2, b_ri rfl] at s1
        rw [g2] at s1
        refine ⟨0, [.ref 234, .int (nI i1), .int (nI i), .int (nI (i + 1))], b_h (b_r m' 251 (b_s (m' 251) 0 (w_lv s' (L i)).1)) j w, by omega, Or.inr ⟨_, i + 1, rfl, by omega, by rw [r2], rfl, fun c p1 p2 => by rw [b_rn p2]; exact g1 c p1 p2, by rw [b_rn (by decide), r3]; exact g2, by rw [b_rs, b_ss, r1], by rw [r1]; exact c2, by rw [b_rs, b_sn (by decide), r2]; exact g7⟩, ?_⟩
        simp (disch := omega) only [h41, b_0leM, y0, y2, s1, ↓bc_234, ↓br_234_42, ↓bc_251, ↓bx_251, bl_251, ↓br_234_8, ↓bc_238, ↓bx_238, bl_238, ↓br_234_6, ↓bc_236, ↓bx_236, bl_236, ↓br_234_21, ↓bc_241, ↓bx_241, bl_241, ↓br_234_22, ↓bc_242, ↓bx_242, bl_242, ↓b_t0, ↓b_t1, ↓b_t2, ↓b_t3, ↓b_t4, ↓b_t5, ↓b_t6, Nat.zero_add, Nat.le_refl, b_rs, b_rn, b_r2, b_ss, b_sn, b_bt, b_bf, b_b0, b_b1, b_bw, b_shl, b_or, b_iv, b_jv, b_sI, b_sJ, ↓z_hl, z_b0, z_b1, z_b2, b_and1c, b_and1z, if_true, if_false, nI_add, pk_mul, b_cl, b_lt, b_le, b_eq, b_eq0, b_le0, b_0lt, b_0le, b_lt0]
        rw [if_neg (by omega), if_neg c2]
  · left
    have h41 : m' 234 41 = n := by rw [g1 234 (by decide) (by decide)]; exact hn
    rw [l_Mo_ledger_61, q_Mo_ledger_61]
    obtain ⟨m3, f1, f2⟩ := s_Mo_led113 (X := X) (tx := tx) (d := d) (m := m') (j := j) (w := w) (f := f) (i1 := i1) (v := r.2.1) (i3 := i) (by rw [g2]; exact t1) (by rw [g2]; exact t2) hi (by rw [g1 234 (by decide) (by decide)]; exact hk8) (by omega) (by omega) (by omega)
    refine ⟨m', m3, ?_, f2, g1, g2, g3, g5⟩
    rw [if_neg g4]
    simp (disch := omega) only [h41, ↓bc_234, ↓br_234_42, ↓bc_251, ↓bx_251, bl_251, ↓br_234_8, ↓bc_238, ↓bx_238, bl_238, ↓br_234_6, ↓bc_236, ↓bx_236, bl_236, ↓br_234_21, ↓bc_241, ↓bx_241, bl_241, ↓br_234_22, ↓bc_242, ↓bx_242, bl_242, ↓b_t0, ↓b_t1, ↓b_t2, ↓b_t3, ↓b_t4, ↓b_t5, ↓b_t6, Nat.zero_add, Nat.le_refl, b_rs, b_rn, b_r2, b_ss, b_sn, b_bt, b_bf, b_b0, b_b1, b_bw, b_shl, b_or, b_iv, b_jv, b_sI, b_sJ, ↓z_hl, z_b0, z_b1, z_b2, b_and1c, b_and1z, if_true, if_false, nI_add, pk_mul, b_cl, b_lt, b_le, b_eq, b_eq0, b_le0, b_0lt, b_0le, b_lt0]
    by_cases c1 : n ≤ i
    · rw [if_pos c1]
      exact f1
    · rw [if_neg c1]
      exact f1
theorem s_Mo_led47 {u : Value} (hn : m 234 41 = n) (hn40 : n ≤ 40) (hS : i_S (m 236)) (hI : i_D (m 236)) (hL : ∀ i, i < n → z_lm m i (L i) ∧ z_lv (m 236) (L i)) (hi : i1 < 2) (hk8 : m 234 23 ≤ 8) (hd : 7 ≤ d) {F : Nat} (hF : 500 ≤ F) : ∃ m1 m3, a_rn X tx (a_ex X tx a_T d) (a_go X tx (a_ex X tx a_T d) k_Mo_ledger_0 F) k_Mo_ledger_47 0 [.ref 234, .int (nI i1), .int (nI 0), u] [] (b_h m j w) = some (b_h m3 j w, some (.int (nI (if (w_jg L n 0 (m 236)).1 = 0 then 4294967295 else (w_jg L n 0 (m 236)).2.1)))) ∧ y_61 m m1 m3 i1 (w_jg L n 0 (m 236)) := by
  generalize hm0 : b_r m 251 (b_rg (m 251) 0 4 fun _ => 0) = m0
  have v0 : ∀ c, c ≠ 251 → m0 c = m c := fun c hc => by rw [← hm0, b_rn hc]
  have e236 : m0 236 = m 236 := v0 236 (by decide)
  have s1 := fun F hF => s_Mo_led61 (X := X) (tx := tx) (d := d) (m := m0) (j := j) (w := w) (L := L) (n := n) (i1 := i1) (by rw [v0 234 (by decide)]; exact hn) hn40 (by rw [e236]; exact hS) (by rw [e236]; exact hI) (fun i hi => by
    obtain ⟨⟨a1, a2, a3⟩, a4⟩ := hL i hi
    rw [e236]
    unfold z_lm
    rw [v0 238 (by decide)]
    exact ⟨⟨a1, a2, a3⟩, a4⟩) (by rw [← hm0, b_rs, b_rgi (by decide) (by decide)]) (by rw [← hm0, b_rs, b_rgi (by decide) (by decide)]) hi (by rw [v0 234 (by decide)]; exact hk8) hd F hF
  rw [e236] at s1
  have main : ∃ m1 m3, a_go X tx (a_ex X tx a_T d) k_Mo_ledger_0 (F + 1) 47 [.ref 234, .int (nI i1), .int (nI 0), u] (b_h m j w) = some (b_h m3 j w, some (.int (nI (if (w_jg L n 0 (m 236)).1 = 0 then 4294967295 else (w_jg L n 0 (m 236)).2.1)))) ∧ y_61 m0 m1 m3 i1 (w_jg L n 0 (m 236)) := by
    refine z_run (Q := fun x => ∃ m1 m3, x = some (b_h m3 j w, some (.int (nI (if (w_jg L n 0 (m 236)).1 = 0 then 4294967295 else (w_jg L n 0 (m 236)).2.1)))) ∧ y_61 m0 m1 m3 i1 (w_jg L n 0 (m 236))) (fun c A y => ∃ k, c + k = 4 ∧ A = [.ref 234, .int (nI i1), .int (nI k), u] ∧ y = b_h (b_r m 251 (b_rg (m 251) 0 k fun _ => 0)) j w) 410 ?_ 4 _ _ ⟨0, rfl, rfl, by rw [b_rg0, b_rid rfl]⟩ _ (by omega)
    rintro c A y ⟨k, hk, rfl, rfl⟩ f hf
    rw [l_Mo_ledger_47, q_Mo_ledger_47]
    by_cases c1 : k = 4
    · left
      subst c1
      obtain ⟨m1, m3, f1, f2⟩ := s1 (f + 1) (by omega)
      refine ⟨m1, m3, ?_, f2⟩
      rw [if_pos (by decide +kernel), hm0, ← l_Mo_ledger_61]
      exact f1
    · right
      refine ⟨c - 1, _, _, by omega, ⟨k + 1, by omega, rfl, rfl⟩, ?_⟩
      simp (disch := omega) only [↓bc_234, ↓br_234_42, ↓bc_251, ↓bx_251, bl_251, ↓br_234_8, ↓bc_238, ↓bx_238, bl_238, ↓br_234_6, ↓bc_236, ↓bx_236, bl_236, ↓br_234_21, ↓bc_241, ↓bx_241, bl_241, ↓br_234_22, ↓bc_242, ↓bx_242, bl_242, ↓b_t0, ↓b_t1, ↓b_t2, ↓b_t3, ↓b_t4, ↓b_t5, ↓b_t6, Nat.zero_add, Nat.le_refl, b_rs, b_rn, b_r2, b_ss, b_sn, b_bt, b_bf, b_b0, b_b1, b_bw, b_shl, b_or, b_iv, b_jv, b_sI, b_sJ, ↓z_hl, z_b0, z_b1, z_b2, b_and1c, b_and1z, if_true, if_false, nI_add, pk_mul, b_cl, b_lt, b_le, b_eq, b_eq0, b_le0, b_0lt, b_0le, b_lt0]
      rw [if_neg (by omega), b_rg1' (by omega) rfl]
  rw [l_Mo_ledger_47] at main
  obtain ⟨m1, m3, f1, f2, f3, f4⟩ := main
  exact ⟨m1, m3, f1, f2, fun c h1 h2 => (f3 c h1 h2).trans (v0 c h2), f4⟩
end EN
