/-! LEDGERS: judged, the class's side -/
section JC
variable {X : Nat × (Nat → Int32)} {tx : List Int32} {D d : Nat} {m j : Nat → Nat → Nat} {w : (Nat × Nat) × Bool} {s : Nat → Nat} {L : Nat → Nat × Nat × Nat} {n : Nat}
theorem s_Le_j35 {g : Nat → List Value → A_H → A_R} {i2 : Int32} {c7 a : Nat} (hF : c_F m 4 s) (hA : c_A m 38 s) (hS : i_S s) (hI : i_D s) (h7 : m 156 7 = c7) (hc : c7 < 100) (h8 : m 156 8 = a) (hd : 4 ≤ d) : a_rn X tx (a_ex X tx a_T d) g k_Le_judge_35 0 [.ref 156, .ref 38, .int i2] [] (b_h m j w) = some (b_h (b_r m 156 (b_s (b_s (m 156) 9 (s 157)) 10 (w_ended s))) j w, some (.int (nI (if c7 = 0 then 4294967295 else a)))) := by
  have hda := c_A38_da hA
  have hF2 : c_F (b_r m 156 (b_s (m 156) 9 (s 157))) 4 s := c_F_ext (fun c p1 p2 => b_rn (by omega)) (fun _ _ => rfl) hS hF
  have hA2 : c_A (b_r m 156 (b_s (m 156) 9 (s 157))) 38 s := c_A_ext (fun c p1 p2 => b_rn (by omega)) hA
  have s1 := s_Af_ended38 (X := X) (tx := tx) (D := d) (j := j) (w := w) hF2 hA2 hS hI (by omega)
  rw [q_Le_judge_35]
  by_cases c : c7 = 0
  · rw [if_pos c]
    rw [c] at h7
    simp (disch := omega) only [hda, s1, h7, ↓bc_156, ↓bc_38, ↓b_t0, ↓b_t1, ↓b_t2, ↓b_t3, ↓b_t4, ↓b_t5, ↓b_t6, Nat.zero_add, Nat.le_refl, b_rs, b_rn, b_r2, b_ss, b_sn, b_bt, b_bf, b_b0, b_b1, b_bw, b_shl, b_or, b_iv, b_jv, b_sI, b_sJ, ↓z_hl, z_b0, z_b1, z_b2, b_and1c, b_and1z, if_true, if_false, nI_add, pk_mul, b_cl, b_lt, b_le, b_eq, b_eq0, b_le0, b_0lt, b_0le, b_lt0]
  · rw [if_neg c]
    simp (disch := omega) only [hda, s1, h7, h8, ↓bc_156, ↓bc_38, ↓b_t0, ↓b_t1, ↓b_t2, ↓b_t3, ↓b_t4, ↓b_t5, ↓b_t6, Nat.zero_add, Nat.le_refl, b_rs, b_rn, b_r2, b_ss, b_sn, b_bt, b_bf, b_b0, b_b1, b_bw, b_shl, b_or, b_iv, b_jv, b_sI, b_sJ, ↓z_hl, z_b0, z_b1, z_b2, b_and1c, b_and1z, if_true, if_false, nI_add, pk_mul, b_cl, b_lt, b_le, b_eq, b_eq0, b_le0, b_0lt, b_0le, b_lt0]
    rw [if_neg c]
theorem s_Le_judge (hF : c_F m 4 s) (hA : c_A m 38 s) (hS : i_S s) (hI : i_D s) (hl : m 156 0 = n) (hn : n ≤ 40) (hL : ∀ i, i < n → x_ln m i (L i) ∧ z_lv s (L i)) (hD : 9 ≤ D) : ∃ m2, a_ex X tx a_T D 100 [.ref 156, .ref 38] (b_h m j w) = some (b_h m2 j w, some (.int (nI (if (w_jg L n 0 s).1 = 0 then 4294967295 else (w_jg L n 0 s).2.1)))) ∧ (∀ c, c < 38 ∨ 49 < c → c ≠ 156 → m2 c = m c) ∧ c_A m2 38 (w_jg L n 0 s).2.2 ∧ m2 156 6 = 1 ∧ m2 156 7 = (w_jg L n 0 s).1 ∧ m2 156 8 = (w_jg L n 0 s).2.1 ∧ m2 156 9 = (w_jg L n 0 s).2.2 157 ∧ m2 156 10 = w_ended (w_jg L n 0 s).2.2 := by
  obtain ⟨d, rfl⟩ : ∃ d, D = d + 1 := ⟨D - 1, by omega⟩
  obtain ⟨t1, t2, t3, t4, t5, t6, t7⟩ := w_jg_ok n 0 s hS hI (fun x _ hx => (hL x (by omega)).2)
  generalize hr : w_jg L n 0 s = r at t1 t2 t3 t4 t5 t6 t7 ⊢
  have fin : ∀ m' (f : Nat) (i2 : Int32), (∀ c, c < 38 ∨ 49 < c → c ≠ 156 → m' c = m c) → c_A m' 38 r.2.2 → m' 156 6 = 1 → m' 156 7 = r.1 → m' 156 8 = r.2.1 → ∃ m2, a_rn X tx (a_ex X tx a_T d) (a_go X tx (a_ex X tx a_T d) k_Le_judge_0 f) k_Le_judge_35 0 [.ref 156, .ref 38, .int i2] [] (b_h m' j w) = some (b_h m2 j w, some (.int (nI (if r.1 = 0 then 4294967295 else r.2.1)))) ∧ (∀ c, c < 38 ∨ 49 < c → c ≠ 156 → m2 c = m c) ∧ c_A m2 38 r.2.2 ∧ m2 156 6 = 1 ∧ m2 156 7 = r.1 ∧ m2 156 8 = r.2.1 ∧ m2 156 9 = r.2.2 157 ∧ m2 156 10 = w_ended r.2.2 := fun m' f i2 g1 g2 g3 g4 g5 => by
    have hF' : c_F m' 4 r.2.2 := c_F_ext (fun c p1 p2 => g1 c (by omega) (by omega)) (fun i hi => t3 i (by omega)) hS hF
    refine ⟨_, s_Le_j35 hF' g2 t1 t2 g4 t4 g5 (by omega), fun c c1 c2 => by rw [b_rn c2]; exact g1 c c1 c2, c_A_ext (fun c p1 p2 => b_rn (by omega)) g2, ?_, ?_, ?_, ?_, ?_⟩
    · rw [b_rs, b_sn (by decide), b_sn (by decide)]; exact g3
    · rw [b_rs, b_sn (by decide), b_sn (by decide)]; exact g4
    · rw [b_rs, b_sn (by decide), b_sn (by decide)]; exact g5
    · rw [b_rs, b_sn (by decide), b_ss]
    · rw [b_rs, b_ss]
  have main : ∃ m2, a_go X tx (a_ex X tx a_T d) k_Le_judge_0 (a_f1 + 1) 11 [.ref 156, .ref 38, .int (nI 0)] (b_h (b_r m 156 (b_s (b_s (b_s (m 156) 6 1) 7 0) 8 0)) j w) = some (b_h m2 j w, some (.int (nI (if r.1 = 0 then 4294967295 else r.2.1)))) ∧ (∀ c, c < 38 ∨ 49 < c → c ≠ 156 → m2 c = m c) ∧ c_A m2 38 r.2.2 ∧ m2 156 6 = 1 ∧ m2 156 7 = r.1 ∧ m2 156 8 = r.2.1 ∧ m2 156 9 = r.2.2 157 ∧ m2 156 10 = w_ended r.2.2 := by
    refine z_run (Q := fun x => ∃ m2, x = some (b_h m2 j w, some (.int (nI (if r.1 = 0 then 4294967295 else r.2.1)))) ∧ (∀ c, c < 38 ∨ 49 < c → c ≠ 156 → m2 c = m c) ∧ c_A m2 38 r.2.2 ∧ m2 156 6 = 1 ∧ m2 156 7 = r.1 ∧ m2 156 8 = r.2.1 ∧ m2 156 9 = r.2.2 157 ∧ m2 156 10 = w_ended r.2.2) (fun c A y => (∃ m' k i s', c = k + 1 ∧ k + i = n ∧ A = [.ref 156, .ref 38, .int (nI i)] ∧ y = b_h m' j w ∧ (∀ c, c < 38 ∨ 49 < c → c ≠ 156 → m' c = m c) ∧ (∀ k, k < 6 → m' 156 k = m 156 k) ∧ c_A m' 38 s' ∧ i_S s' ∧ i_D s' ∧ (∀ x, x < 157 ∨ 352 ≤ x → s' x = s x) ∧ m' 156 6 = 1 ∧ m' 156 7 = 0 ∧ m' 156 8 = i ∧ r = w_jg L k i s') ∨ (∃ m' i, c = 0 ∧ i ≤ n ∧ A = [.ref 156, .ref 38, .int (nI i)] ∧ y = b_h m' j w ∧ (∀ c, c < 38 ∨ 49 < c → c ≠ 156 → m' c = m c) ∧ m' 156 0 = n ∧ c_A m' 38 r.2.2 ∧ m' 156 6 = 1 ∧ m' 156 7 = r.1 ∧ r.1 ≠ 0 ∧ m' 156 8 = r.2.1)) 10 ?_ (n + 1) _ _ (Or.inl ⟨_, n, 0, s, rfl, rfl, rfl, rfl, fun c c1 c2 => b_rn c2, fun k hk => by rw [b_rs, b_sn (by omega), b_sn (by omega), b_sn (by omega)], c_A_ext (fun c p1 p2 => b_rn (by omega)) hA, hS, hI, fun _ _ => rfl, by rw [b_rs, b_sn (by decide), b_sn (by decide), b_ss], by rw [b_rs, b_sn (by decide), b_ss], by rw [b_rs, b_ss], hr.symm⟩) _ (z_fu (by omega))
    rintro c A y (⟨m', k, i, s', rfl, hk, rfl, rfl, g1, g2, g3, g4, g5, g6, g7, g8, g9, g10⟩ | ⟨m', i, rfl, hi, rfl, rfl, g1, g2, g3, g4, g5, g6, g7⟩) f _
    · have h0 : m' 156 0 = n := by rw [g2 0 (by decide)]; exact hl
      by_cases c1 : i = n
      · left
        have k0 : k = 0 := by omega
        subst k0
        have e1 : r.1 = 0 := by rw [g10]; rfl
        have e2 : r.2.1 = i := by rw [g10]; rfl
        have e3 : r.2.2 = s' := by rw [g10]; rfl
        obtain ⟨m2, f1, f2⟩ := fin m' f (nI i) g1 (by rw [e3]; exact g3) g7 (by rw [e1]; exact g8) (by rw [e2]; exact g9)
        refine ⟨m2, ?_, f2⟩
        rw [l_Le_judge_11, q_Le_judge_11]
        simp (disch := omega) only [h0, ↓bc_156, ↓bc_38, ↓b_t0, ↓b_t1, ↓b_t2, ↓b_t3, ↓b_t4, ↓b_t5, ↓b_t6, Nat.zero_add, Nat.le_refl, b_rs, b_rn, b_r2, b_ss, b_sn, b_bt, b_bf, b_b0, b_b1, b_bw, b_shl, b_or, b_iv, b_jv, b_sI, b_sJ, ↓z_hl, z_b0, z_b1, z_b2, b_and1c, b_and1z, if_true, if_false, nI_add, pk_mul, b_cl, b_lt, b_le, b_eq, b_eq0, b_le0, b_0lt, b_0le, b_lt0]
        rw [if_pos (by omega)]
        exact f1
      · right
        obtain ⟨k, rfl⟩ : ∃ k2, k = k2 + 1 := ⟨k - 1, by omega⟩
        have hx := hL i (by omega)
        have hx1 : x_ln m' i (L i) := by
          unfold x_ln
          rw [g1 157 (by omega) (by omega), g1 158 (by omega) (by omega), g1 159 (by omega) (by omega), g1 160 (by omega) (by omega), g1 161 (by omega) (by omega)]
          exact hx.1
        have hv : z_lv s' (L i) := z_lv_s g6 hx.2
        have hF' : c_F m' 4 s' := c_F_ext (fun c p1 p2 => g1 c (by omega) (by omega)) (fun i hi => g6 i (by omega)) hS hF
        obtain ⟨m3, e1, e2, e3⟩ := s_Le_live (X := X) (tx := tx) (D := d) (m := m') (j := j) (w := w) hF' g3 g4 g5 hv hx1 (by omega) (by omega)
        obtain ⟨v1, v2, v3, v4, v5⟩ := w_lv_ok g4 g5 hv
        have e156 : m3 156 = m' 156 := e2 156 (by omega)
        have h8 : m3 156 8 = i := by rw [e156]; exact g9
        by_cases c2 : (w_lv s' (L i)).1 = 0
        · rw [w_jg_o c2] at g10
          rw [c2] at e1
          refine ⟨k + 1, [.ref 156, .ref 38, .int (nI (i + 1))], b_h (b_r m3 156 (b_s (b_s (m3 156) 7 0) 8 (i + 1))) j w, by omega, Or.inl ⟨_, k, i + 1, (w_lv s' (L i)).2, rfl, by omega, rfl, rfl, fun c p1 p2 => by rw [b_rn p2, e2 c p1]; exact g1 c p1 p2, fun k hk => by rw [b_rs, b_sn (by omega), b_sn (by omega), e156]; exact g2 k hk, c_A_ext (fun c p1 p2 => b_rn (by omega)) e3, v1, v2, fun x hx => (v3 x hx).trans (g6 x hx), by rw [b_rs, b_sn (by decide), b_sn (by decide), e156]; exact g7, by rw [b_rs, b_sn (by decide), b_ss], by rw [b_rs, b_ss], g10⟩, ?_⟩
          rw [l_Le_judge_11, q_Le_judge_11]
          simp (disch := omega) only [h0, g8, e1, h8, ↓bc_156, ↓bc_38, ↓b_t0, ↓b_t1, ↓b_t2, ↓b_t3, ↓b_t4, ↓b_t5, ↓b_t6, Nat.zero_add, Nat.le_refl, b_rs, b_rn, b_r2, b_ss, b_sn, b_bt, b_bf, b_b0, b_b1, b_bw, b_shl, b_or, b_iv, b_jv, b_sI, b_sJ, ↓z_hl, z_b0, z_b1, z_b2, b_and1c, b_and1z, if_true, if_false, nI_add, pk_mul, b_cl, b_lt, b_le, b_eq, b_eq0, b_le0, b_0lt, b_0le, b_lt0]
          rw [if_neg (by omega)]
        · rw [w_jg_x c2] at g10
          have r1 : r.1 = (w_lv s' (L i)).1 := by rw [g10]
          have r2 : r.2.1 = i := by rw [g10]
          have r3 : r.2.2 = s' := by rw [g10]
          rw [v5 c2] at e3
          refine ⟨0, [.ref 156, .ref 38, .int (nI (i + 1))], b_h (b_r m3 156 (b_s (m3 156) 7 (w_lv s' (L i)).1)) j w, by omega, Or.inr ⟨_, i + 1, rfl, by omega, rfl, rfl, fun c p1 p2 => by rw [b_rn p2, e2 c p1]; exact g1 c p1 p2, by rw [b_rs, b_sn (by decide), e156]; exact h0, by rw [r3]; exact c_A_ext (fun c p1 p2 => b_rn (by omega)) e3, by rw [b_rs, b_sn (by decide), e156]; exact g7, by rw [b_rs, b_ss, r1], by rw [r1]; exact c2, by rw [b_rs, b_sn (by decide), r2]; exact h8⟩, ?_⟩
          rw [l_Le_judge_11, q_Le_judge_11]
          simp (disch := omega) only [h0, g8, e1, ↓bc_156, ↓bc_38, ↓b_t0, ↓b_t1, ↓b_t2, ↓b_t3, ↓b_t4, ↓b_t5, ↓b_t6, Nat.zero_add, Nat.le_refl, b_rs, b_rn, b_r2, b_ss, b_sn, b_bt, b_bf, b_b0, b_b1, b_bw, b_shl, b_or, b_iv, b_jv, b_sI, b_sJ, ↓z_hl, z_b0, z_b1, z_b2, b_and1c, b_and1z, if_true, if_false, nI_add, pk_mul, b_cl, b_lt, b_le, b_eq, b_eq0, b_le0, b_0lt, b_0le, b_lt0]
          rw [if_neg (by omega), if_neg c2]
    · left
      obtain ⟨m2, f1, f2⟩ := fin m' f (nI i) g1 g3 g4 g5 g7
      refine ⟨m2, ?_, f2⟩
      rw [l_Le_judge_11, q_Le_judge_11]
      simp (disch := omega) only [g2, g5, ↓bc_156, ↓bc_38, ↓b_t0, ↓b_t1, ↓b_t2, ↓b_t3, ↓b_t4, ↓b_t5, ↓b_t6, Nat.zero_add, Nat.le_refl, b_rs, b_rn, b_r2, b_ss, b_sn, b_bt, b_bf, b_b0, b_b1, b_bw, b_shl, b_or, b_iv, b_jv, b_sI, b_sJ, ↓z_hl, z_b0, z_b1, z_b2, b_and1c, b_and1z, if_true, if_false, nI_add, pk_mul, b_cl, b_lt, b_le, b_eq, b_eq0, b_le0, b_0lt, b_0le, b_lt0]
      by_cases c1 : n ≤ i
      · rw [if_pos c1]
        exact f1
      · rw [if_neg c1, if_neg g6]
        exact f1
  obtain ⟨m2, e1, e2⟩ := main
  refine ⟨m2, ?_, e2⟩
  rw [l_Le_judge_11] at e1
  rw [e_Le_judge, q_Le_judge_0]
  simp (disch := omega) only [↓bc_156, ↓bc_38, ↓b_t0, ↓b_t1, ↓b_t2, ↓b_t3, ↓b_t4, ↓b_t5, ↓b_t6, Nat.zero_add, Nat.le_refl, b_rs, b_rn, b_r2, b_ss, b_sn, b_bt, b_bf, b_b0, b_b1, b_bw, b_shl, b_or, b_iv, b_jv, b_sI, b_sJ, ↓z_hl, z_b0, z_b1, z_b2, b_and1c, b_and1z, if_true, if_false, nI_add, pk_mul, b_cl, b_lt, b_le, b_eq, b_eq0, b_le0, b_0lt, b_0le, b_lt0]
  exact e1
end JC
