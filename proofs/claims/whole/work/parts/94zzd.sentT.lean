/-! CALL BY CALL: sentence -/
def x_SR (m j : Nat → Nat → Nat) (w : (Nat × Nat) × Bool) (S : Nat → Nat) (E : Except (Nat × Nat) (List (Nat × Nat × Nat) × Nat)) (r : A_R) : Prop := match E with
  | .ok v => ∃ m1 j2, r = some (b_h (w_cpS m1 148 152) j2 w, some (.int (nI v.2))) ∧ (∀ c, c ≠ 0 → c ≠ 1 → c < 152 ∨ 155 < c → m1 c = m c) ∧ (∀ c, c ≠ 1 → j2 c = j c) ∧ m1 0 = b_s (m 0) 14 0 ∧ m1 1 2 = 0 ∧ z_Q m1 S v.1 v.2 ∧ z_wf v.1 ∧ z_dp v.1 = 1 ∧ 0 < v.2 ∧ v.2 ≤ 20 ∧ v.1.length ≤ 40
  | .error e => ∃ m1 j2, r = some (b_h m1 j2 w, some (.int (nI 4294967295 - nI e.2))) ∧ (∀ c, c ≠ 0 → c ≠ 1 → c < 152 ∨ 155 < c → m1 c = m c) ∧ (∀ c, c ≠ 1 → j2 c = j c) ∧ m1 0 = b_s (m 0) 14 e.1 ∧ m1 1 2 = 0
section ST
variable {X : Nat × (Nat → Int32)} {tx : List Int32} {D d : Nat} {m j : Nat → Nat → Nat} {w : (Nat × Nat) × Bool} {n : Nat} {N S : Nat → Nat}
theorem s_EM_sentence (hn : m 1 2 = n) (hX : l_X m j n 200) (hN : r_N (m 6) (m 7) (m 4 6) (j 5) N S) (hc30 : m 4 6 ≤ 30) (hD : 29 ≤ D) : x_SR m j w S (q_run (m 2) n 200 N S (n + 1) [] [] 0 false 0) (a_ex X tx a_T D 188 [.ref 0] (b_h m j w)) := by
  obtain ⟨d, rfl⟩ : ∃ d, D = d + 1 := ⟨D - 1, by omega⟩
  obtain ⟨m1, j1, e1, e2, e3, e4, e5, e6, e7⟩ := s_Ta_begin (X := X) (tx := tx) (D := d) (m := m) (j := j) (w := w) (by omega) hn hX
  have s5 : ∀ {m j : Nat → Nat → Nat}, a_ex X tx a_T d 85 [.ref 152] (b_h m j w) = some (b_h (b_r m 152 (b_s (b_s (m 152) 0 0) 1 0)) j w, none) := fun {m j} => by
    obtain ⟨d, rfl⟩ : ∃ d2, d = d2 + 1 := ⟨d - 1, by omega⟩
    rw [e_Se_clear, q_Se_clear_0]
    simp (disch := omega) only [↓bc_152, ↓b_t0, ↓b_t1, ↓b_t2, ↓b_t3, ↓b_t4, ↓b_t5, ↓b_t6, Nat.zero_add, Nat.le_refl, b_rs, b_rn, b_r2, b_ss, b_sn, b_bt, b_bf, b_b0, b_b1, b_bw, b_shl, b_or, b_iv, b_jv, b_sI, b_sJ, ↓z_hl, z_b0, z_b1, z_b2, b_and1c, b_and1z, if_true, if_false, nI_add, pk_mul, b_cl, b_lt, b_le, b_eq, b_eq0, b_le0, b_0lt, b_0le, b_lt0]
  generalize hm2 : b_r m1 152 (b_s (b_s (m1 152) 0 0) 1 0) = m2
  have v2 : ∀ c, c ≠ 152 → m2 c = m1 c := fun c hc => by rw [← hm2, b_rn hc]
  have hH : z_H m2 j1 (m 2) n 200 N S [] 0 0 0 := by
    refine ⟨l_X_fr e2 (v2 2 (by decide)) rfl, (v2 2 (by decide)).trans (e4 2 (by decide)), l_C_c e3 (v2 1 (by decide)) (v2 2 (by decide)) rfl, Nat.zero_le _, ?_, ?_, ⟨?_, ?_, trivial⟩, by decide, Nat.le_refl _, trivial, Nat.le_refl _⟩
    · rw [v2 6 (by decide), v2 7 (by decide), v2 4 (by decide), e4 6 (by decide), e4 7 (by decide), e4 4 (by decide), e5 5 (by decide)]
      exact hN
    · rw [v2 4 (by decide), e4 4 (by decide)]
      exact hc30
    · rw [← hm2, b_rs, b_sn (by decide), b_ss]
    · rw [← hm2, b_rs, b_ss]
      rfl
  have s3 := (s_Se_all (X := X) (tx := tx) (w := w) (b := m 2) (n := n) (q := 200) (N := N) (S := S) 8).2 1 (by decide) m2 j1 [] 0 0 0 d hH (by omega)
  have hb0 : ∀ c, c ≠ 1 → c < 152 ∨ 155 < c → m2 c = m c := fun c c1 c2 => by rw [v2 c (by omega), e4 c c1]
  rcases s3 with ⟨m3, j3, e, f1, f2, r3⟩ | ⟨m3, j3, A3, o3, p3, f1, l3, lt3, le3, f3, q3, g3, g4, g5, g6, g7, g8, r3⟩
  · have hr := r3 [] (n + 1) rfl ⟨trivial, trivial, trivial⟩ (by omega)
    rw [hr]
    have s6 := s_EM_leaveText (X := X) (tx := tx) (D := d) (m := m3) (j := j3) (w := w) (by omega)
    refine ⟨w_lvt m3, j3, ?_, fun c c1 c2 c3 => ?_, fun c c1 => (f2.2.1 c c1).trans (e5 c c1), ?_, ?_⟩
    · have f11 := f2.2.2.2
      rw [e_EM_sentence, q_EM_sentence_0]
      simp (disch := omega) only [e1, s5, hm2, f1, q_EM_sentence_23, s6, f11, ↓bc_0, ↓br_0_0, ↓bc_1, ↓br_0_7, ↓bc_152, ↓bc_148, ↓br_0_1, ↓bc_4, ↓br_0_6, ↓b_t0, ↓b_t1, ↓b_t2, ↓b_t3, ↓b_t4, ↓b_t5, ↓b_t6, Nat.zero_add, Nat.le_refl, b_rs, b_rn, b_r2, b_ss, b_sn, b_bt, b_bf, b_b0, b_b1, b_bw, b_shl, b_or, b_iv, b_jv, b_sI, b_sJ, ↓z_hl, z_b0, z_b1, z_b2, b_and1c, b_and1z, if_true, if_false, nI_add, pk_mul, b_cl, b_lt, b_le, b_eq, b_eq0, b_le0, b_0lt, b_0le, b_lt0]
      rfl
    · unfold w_lvt
      rw [b_rn c2, b_rn c1, f2.1 c c2 c3, hb0 c c2 c3]
    · unfold w_lvt
      rw [b_rn (by decide), b_rs, f2.2.2.1, f2.1 0 (by decide) (by decide), hb0 0 (by decide) (by decide)]
    · unfold w_lvt
      rw [b_rs, b_ss]
  · obtain ⟨f4, hf4, r4⟩ := r3 [] (n + 1) rfl ⟨trivial, trivial, trivial⟩ (by omega)
    obtain ⟨f4, rfl⟩ : ∃ f5, f4 = f5 + 1 := ⟨f4 - 1, by omega⟩
    have b3 : m3 2 = m 2 := (f3.1 2 (by decide) (by decide)).trans (hb0 2 (by decide) (by decide))
    have s4 := s_Ta_takeEnd (X := X) (tx := tx) (D := d) (m := m3) (j := j3) (w := w) (l_X_fr hH.1 (f3.1 2 (by decide) (by decide)) (f3.2.1 3 (by decide))) l3 (by omega)
    rw [b3] at s4
    by_cases c3 : w_kd (m 2) n 200 p3 = 3
    · have hr : q_run (m 2) n 200 N S (n + 1) [] [] 0 false 0 = .ok (A3, o3) := by
        rw [r4, q_run_w, if_pos c3]
        rfl
      rw [hr]
      rw [if_pos c3, decide_eq_true c3] at s4
      have s6 := s_EM_leaveText (X := X) (tx := tx) (D := d) (m := m3) (j := j3) (w := w) (by omega)
      have s6 : a_ex X tx a_T d 193 [.ref 0] (b_h m3 j3 w) = some (b_h (w_lvt m3) j3 w, none) := s6
      have lv : ∀ c, c ≠ 0 → c ≠ 1 → w_lvt m3 c = m3 c := fun c c1 c2 => by unfold w_lvt; rw [b_rn c2, b_rn c1]
      have l0 : w_lvt m3 0 = b_s (m 0) 14 0 := by
        unfold w_lvt
        rw [b_rn (by decide), b_rs, f3.2.2.1, f3.1 0 (by decide) (by decide), hb0 0 (by decide) (by decide), v2 1 (by decide), e6]
      have l1 : w_lvt m3 1 2 = 0 := by
        unfold w_lvt
        rw [b_rs, b_ss]
      generalize w_lvt m3 = M at s6 lv l0 l1
      have s7 := s_Se_copy (X := X) (tx := tx) (D := d) (m := M) (j := j3) (w := w) (a := 148) (b := 152) (by unfold b_isse; omega) (by unfold b_isse; omega) (by omega) (by omega)
      have Q3 : z_Q M S A3 o3 := z_Q_c q3 (fun c h1 h2 => lv c (by omega) (by omega))
      have k0 : w_cpS M 148 152 148 0 = o3 := by
        unfold w_cpS
        simp (disch := omega) only [b_rn, b_rs, b_ss, b_sn]
        exact Q3.1
      refine ⟨M, j3, ?_, fun c c1 c2 c3 => by rw [lv c c1 c2, f3.1 c c2 c3, hb0 c c2 c3], fun c c1 => (f3.2.1 c c1).trans (e5 c c1), l0, l1, Q3, g6, g7, by show 0 < o3; omega, g4, by show A3.length ≤ 40; omega⟩
      rw [e_EM_sentence, q_EM_sentence_0]
      simp (disch := omega) only [e1, s5, hm2, f1, s4, q_EM_sentence_23, s6, s7, k0, Nat.one_ne_zero, ↓bc_0, ↓br_0_0, ↓bc_1, ↓br_0_7, ↓bc_152, ↓bc_148, ↓br_0_1, ↓bc_4, ↓br_0_6, ↓b_t0, ↓b_t1, ↓b_t2, ↓b_t3, ↓b_t4, ↓b_t5, ↓b_t6, Nat.zero_add, Nat.le_refl, b_rs, b_rn, b_r2, b_ss, b_sn, b_bt, b_bf, b_b0, b_b1, b_bw, b_shl, b_or, b_iv, b_jv, b_sI, b_sJ, ↓z_hl, z_b0, z_b1, z_b2, b_and1c, b_and1z, if_true, if_false, nI_add, pk_mul, b_cl, b_lt, b_le, b_eq, b_eq0, b_le0, b_0lt, b_0le, b_lt0]
    · have hr : q_run (m 2) n 200 N S (n + 1) [] [] 0 false 0 = .error (1, w_pl (m 2) n 200 p3) := by
        rw [r4]
        refine q_run_be c3 ?_
        unfold q_be
        rw [if_neg g8.2, if_neg g8.1]
        by_cases c41 : w_kd (m 2) n 200 p3 = 41
        · rw [if_pos c41]
          rfl
        · rw [if_neg c41]
      rw [hr]
      rw [if_neg c3, decide_eq_false c3] at s4
      generalize hm4 : b_r m3 1 (b_s (b_s (m3 1) 10 1) 11 (w_pl (m 2) n 200 p3)) = m4 at s4
      have v4 : ∀ c, c ≠ 1 → m4 c = m3 c := fun c hc => by rw [← hm4, b_rn hc]
      have f11 : m4 1 11 = w_pl (m 2) n 200 p3 := by rw [← hm4, b_rs, b_ss]
      have f10 : m4 1 10 = 1 := by rw [← hm4, b_rs, b_sn (by decide), b_ss]
      have s6 := s_EM_leaveText (X := X) (tx := tx) (D := d) (m := m4) (j := j3) (w := w) (by omega)
      refine ⟨w_lvt m4, j3, ?_, fun c c1 c2 c3 => ?_, fun c c1 => (f3.2.1 c c1).trans (e5 c c1), ?_, ?_⟩
      · rw [e_EM_sentence, q_EM_sentence_0]
        simp (disch := omega) only [e1, s5, hm2, f1, s4, q_EM_sentence_23, s6, f11, Nat.one_ne_zero, ↓bc_0, ↓br_0_0, ↓bc_1, ↓br_0_7, ↓bc_152, ↓bc_148, ↓br_0_1, ↓bc_4, ↓br_0_6, ↓b_t0, ↓b_t1, ↓b_t2, ↓b_t3, ↓b_t4, ↓b_t5, ↓b_t6, Nat.zero_add, Nat.le_refl, b_rs, b_rn, b_r2, b_ss, b_sn, b_bt, b_bf, b_b0, b_b1, b_bw, b_shl, b_or, b_iv, b_jv, b_sI, b_sJ, ↓z_hl, z_b0, z_b1, z_b2, b_and1c, b_and1z, if_true, if_false, nI_add, pk_mul, b_cl, b_lt, b_le, b_eq, b_eq0, b_le0, b_0lt, b_0le, b_lt0]
        rfl
      · unfold w_lvt
        rw [b_rn c2, b_rn c1, v4 c c2, f3.1 c c2 c3, hb0 c c2 c3]
      · unfold w_lvt
        rw [b_rn (by decide), b_rs, f10, v4 0 (by decide), f3.1 0 (by decide) (by decide), hb0 0 (by decide) (by decide)]
      · unfold w_lvt
        rw [b_rs, b_ss]
end ST
