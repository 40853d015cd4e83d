/-! CALL BY CALL: sentence, further -/
theorem z_r1 {P Q B S f : Nat → Nat} : ∀ A : List (Nat × Nat × Nat), z_cC P Q B S A → z_cM f A → ∀ i, i < A.length → r_c1 S (P i) (Q i) (B i) (f (3 * i)) (f (3 * i + 1)) (f (3 * i + 2))
  | [], _, _, i, hi => absurd hi (Nat.not_lt_zero i)
  | c :: A, h, g, i, hi => by
    rw [List.length_cons] at hi
    by_cases e : i = A.length
    · subst e
      rw [g.1, g.2.1, g.2.2.1]
      exact h.1
    · exact z_r1 A h.2 g.2.2.2 i (by omega)
theorem z_wf1 {P Q B S : Nat → Nat} : ∀ A : List (Nat × Nat × Nat), z_cC P Q B S A → z_wf A → w_dep P A.length = z_dp A ∧ (∀ i, i < A.length → (P i = 11 → 1 ≤ w_dep P i) ∧ (P i = 9 ∨ P i = 10 → 2 ≤ w_dep P i)) ∧ ∀ i, i ≤ A.length → w_dep P i ≤ 20
  | [], _, _ => ⟨rfl, fun i hi => absurd hi (Nat.not_lt_zero i), fun i hi => by
    have : i = 0 := by
      have h2 : i ≤ 0 := hi
      omega
    rw [this]
    exact Nat.zero_le _⟩
  | c :: A, h, g => by
    obtain ⟨a1, a2, a3⟩ := z_wf1 A h.2 g.2.2.2
    have hr := h.1
    have hp : (P A.length = 11 ↔ c.1 = 20) ∧ (P A.length = 9 ∨ P A.length = 10 ↔ c.1 = 21 ∨ c.1 = 22) := by
      unfold r_c1 at hr
      omega
    have hd : w_dep P (A.length + 1) = z_dp (c :: A) := by
      show (if P A.length = 11 then w_dep P A.length else if P A.length = 9 ∨ P A.length = 10 then w_dep P A.length - 1 else w_dep P A.length + 1) = if c.1 = 20 then z_dp A else if c.1 = 21 ∨ c.1 = 22 then z_dp A - 1 else z_dp A + 1
      rw [a1]
      by_cases c1 : c.1 = 20
      · rw [if_pos c1, if_pos (hp.1.mpr c1)]
      · rw [if_neg c1, if_neg (fun x => c1 (hp.1.mp x))]
        by_cases c2 : c.1 = 21 ∨ c.1 = 22
        · rw [if_pos c2, if_pos (hp.2.mpr c2)]
        · rw [if_neg c2, if_neg (fun x => c2 (hp.2.mp x))]
    rw [List.length_cons]
    refine ⟨hd, fun i hi => ?_, fun i hi => ?_⟩
    · by_cases e : i = A.length
      · subst e
        rw [a1]
        exact ⟨fun x => g.1 (hp.1.mp x), fun x => g.2.1 (hp.2.mp x)⟩
      · exact a2 i (by omega)
    · by_cases e : i = A.length + 1
      · rw [e, hd]
        exact g.2.2.1
      · exact a3 i (by omega)
/-- what can be undone asks for no sentence -/
theorem r_P_s {m : Nat → Nat → Nat} {s r u : Nat → Nat} {n : Nat} (hS : i_S s) (hs : ∀ i, i < 157 → r i = s i) (h : r_P m s u n) : r_P m r u n := by
  obtain ⟨h1, h2, h3, h4⟩ := h
  refine ⟨h1, h2, h3, fun i hi => ?_⟩
  obtain ⟨g1, g2⟩ := h4 i hi
  have e : ∀ x, x < 352 → w_rowS r u i x = w_rowS s u i x := fun x hx => by
    unfold w_rowS b_rg
    by_cases c : 157 ≤ x ∧ x < 157 + 195
    · rw [if_pos c, if_pos c]
    · rw [if_neg c, if_neg c]
      exact hs x (by omega)
  have hSr : i_S (w_rowS s u i) := i_S_ext (fun x hx => by
    unfold w_rowS
    rw [b_rgo (by omega)]) hS
  exact ⟨c_A_exts e hSr g1, i_D_ext e hSr g2⟩
def w_ms (m : Nat → Nat → Nat) : Nat → Nat → Nat := b_r (w_tk m 200) 234 (b_s (b_s (b_s (b_s (b_s (b_s (w_tk m 200 234) 15 0) 45 0) 46 0) 47 0) 48 1) 49 0)
section ST
variable {X : Nat × (Nat → Int32)} {tx : List Int32} {D d : Nat} {m j : Nat → Nat → Nat} {w : (Nat × Nat) × Bool} {b : Nat → Nat} {n : Nat} {N S : Nat → Nat}
theorem w_ms_v : (∀ c, c ≠ 234 → w_ms m c = m c) ∧ w_ms m 234 3 = m 234 2 ∧ w_ms m 234 5 = 200 ∧ w_ms m 234 4 = 0 ∧ w_ms m 234 2 = 0 ∧ w_ms m 234 15 = 0 ∧ w_ms m 234 45 = 0 ∧ w_ms m 234 46 = 0 ∧ w_ms m 234 47 = 0 ∧ w_ms m 234 48 = 1 ∧ w_ms m 234 49 = 0 ∧ ∀ k, 5 < k → k ≠ 15 → (k < 45 ∨ 49 < k) → w_ms m 234 k = m 234 k := by
  unfold w_ms w_tk
  refine ⟨fun c hc => by rw [b_rn hc, b_rn hc], ?_, ?_, ?_, ?_, ?_, ?_, ?_, ?_, ?_, ?_, fun k h1 h2 h3 => ?_⟩
  all_goals simp (disch := omega) only [b_rs, b_ss, b_sn]
theorem s_Mo_sentence (hn : m 234 2 = n) (hn9 : n ≤ 940) (hbt : ∀ x, x < n → m 235 x % 256 = b x) (hw : ∀ k, k < 19 → j 240 k = w_conv (w_wl k)) (hS : m 236 = S) (hi : i_S S) (hN : z_nb (j 239) S) (hD : 10 ≤ D) : y_SR (w_ms m) j w S (q_run b n 200 (j 239) S (n + 1) [] [] 0 false 0) (a_ex X tx a_T D 308 [.ref 234] (b_h m j w)) := by
  obtain ⟨d, rfl⟩ : ∃ d, D = d + 1 := ⟨D - 1, by omega⟩
  have st := s_Mo_taken (X := X) (tx := tx) (D := d) (m := m) (j := j) (w := w) (by omega) (q := 200)
  obtain ⟨v0, f3, f5, f4, f2, f15, f45, f46, f47, f48, f49, fk⟩ := w_ms_v (m := m)
  obtain ⟨m1, j1, e1, l1, r1⟩ := s_Mo_next (X := X) (tx := tx) (D := d) (m := w_ms m) (j := j) (w := w) (by omega) (b := b) (n := n) (q := 200) (p := 0) (f3.trans hn) f5 f4 hn9 (by decide) (Nat.zero_le _) (by rw [v0 235 (by decide)]; exact hbt)
  have X1 : y_X m1 j1 b n 200 := ⟨hn9, by decide, by rw [r1.1 235 (by decide), v0 235 (by decide)]; exact hbt, by rw [r1.2.1 240 (by decide)]; exact hw⟩
  have g : ∀ k, 14 < k → m1 234 k = w_ms m 234 k := fun k hk => r1.2.2 k (by omega) (by omega) (by omega) (by omega) (by omega)
  have Z1 : y_Z m1 j1 b n 200 (j 239) S [] [] 0 false 0 := ⟨X1, l1, Nat.zero_le _, by rw [r1.1 236 (by decide), v0 236 (by decide)]; exact hS, r1.2.1 239 (by decide), ⟨(g 45 (by decide)).trans f45, (g 47 (by decide)).trans f47, (g 48 (by decide)).trans f48, trivial, trivial, trivial, by decide, by decide⟩, (g 46 (by decide)).trans f46, (g 49 (by decide)).trans f49, by decide, by decide, by decide⟩
  have s2 := s_Mo_senR (X := X) (tx := tx) (d := d) (u := .retAddr 0) (w := w) Z1 hi hN (by omega) (a_f1 + 1) (z_fu (by omega))
  rw [l_Mo_sentence_28] at s2
  have F1 : z_Sf (w_ms m) m1 j j1 := ⟨fun c h1 _ _ => r1.1 c h1, r1.2.1, fun k h1 h2 h3 h4 => r1.2.2 k h1 (by omega) (by omega) (by omega) (by omega)⟩
  have pre : a_ex X tx a_T (d + 1) 308 [.ref 234] (b_h m j w) = a_rn X tx (a_ex X tx a_T d) (a_go X tx (a_ex X tx a_T d) k_Mo_sentence_0 a_f1) k_Mo_sentence_28 0 [.ref 234, .int (nI 1), .retAddr 0] [] (b_h m1 j1 w) := by
    unfold w_ms at e1
    rw [e_Mo_sentence, q_Mo_sentence_0]
    simp (disch := omega) only [st, e1, ↓bc_234, ↓br_234_6, ↓bc_236, ↓bx_236, bl_236, ↓br_234_8, ↓bc_238, ↓bx_238, bl_238, ↓b_t0, ↓b_t1, ↓b_t2, ↓b_t3, ↓b_t4, ↓b_t5, ↓b_t6, Nat.zero_add, Nat.le_refl, b_rs, b_rn, b_r2, b_ss, b_sn, b_bt, b_bf, b_b0, b_b1, b_bw, b_shl, b_or, b_iv, b_jv, b_sI, b_sJ, ↓z_hl, z_b0, z_b1, z_b2, b_and1c, b_and1z, if_true, if_false, nI_add, pk_mul, b_cl, b_lt, b_le, b_eq, b_eq0, b_le0, b_0lt, b_0le, b_lt0]
  rw [pre]
  cases hr : q_run b n 200 (j 239) S (n + 1) [] [] 0 false 0 with
  | error e =>
    rw [hr] at s2
    obtain ⟨m2, j2, e2, x2⟩ := s2
    exact ⟨m2, j2, e2, z_SE_t F1 x2⟩
  | ok v =>
    rw [hr] at s2
    obtain ⟨m2, j2, e2, x2, x3⟩ := s2
    exact ⟨m2, j2, e2, z_Sf_t F1 x2, x3⟩
/-- what a sentence may change -/
theorem r_R_sen {m3 j2 : Nat → Nat → Nat} (h : r_R m j) (hm : ∀ c, (4 ≤ c ∧ c ≤ 14) ∨ (26 ≤ c ∧ c ≤ 37) ∨ (50 ≤ c ∧ c ≤ 147) ∨ c = 163 ∨ c = 171 ∨ (178 ≤ c ∧ c ≤ 233) ∨ c = 241 ∨ c = 244 ∨ c = 247 ∨ c = 251 ∨ c = 254 ∨ c = 256 → m3 c = m c) (h0 : ∀ k, k = 15 ∨ k = 16 → m3 0 k = m 0 k) (h156 : ∀ k, 6 ≤ k → m3 156 k = m 156 k) (h162 : m3 162 3 = m 162 3) (h167 : m3 167 7 = m 167 7) (h234 : ∀ k, k = 23 ∨ k = 26 ∨ (30 ≤ k ∧ k ≤ 36) ∨ k = 43 → m3 234 k = m 234 k) (hj : ∀ c, c = 3 ∨ c = 5 ∨ c = 180 ∨ c = 208 ∨ c = 239 ∨ c = 240 ∨ c = 255 → j2 c = j c) (hs : ∀ i, i < 352 → m3 236 i = m 236 i) (hT : r_TT m3) (hf : m3 0 14 = m3 234 15) (hC : r_C (m3 148 0) (m3 148 1) (m3 149) (m3 150) (m3 151) (m3 236)) : r_R m3 j2 := by
  have hS := r_R_st h
  have hI := r_R_dy h
  refine ⟨i_S_ext (fun i hi => hs i (by omega)) hS, i_D_ext hs hS hI, c_F_ext (fun c p1 p2 => hm c (by omega)) (fun i hi => hs i (by omega)) hS (r_R_fa h), c_A_exts hs hS (c_A_ext (fun c p1 p2 => hm c (by omega)) (r_R_af h)), hT, hf, ?_, ?_, hC, ?_, ?_, ?_, ?_, ?_, ?_, ?_, ?_⟩
  · rw [hm 6 (by omega), hm 7 (by omega), hm 4 (by omega), hj 5 (by omega), hj 239 (by omega)]; exact r_N_s (fun i hi => hs i (by omega)) (r_R_nm h)
  · rw [hm 241 (by omega), h234 23 (by omega)]
    exact r_P_s hS (fun i hi => hs i (by omega)) (r_P_ext (fun c p1 p2 => hm c (by omega)) (fun _ _ => rfl) (r_R_pa h))
  · obtain ⟨g1, g2, g3⟩ := r_R_to h
    rw [h156 6 (by omega), h234 43 (by omega)]
    exact ⟨g1, g2, fun hn k hk => by rw [h156 (7 + k) (by omega), hm 251 (by omega)]; exact g3 hn k hk⟩
  · rw [h162, h234 26 (by omega), hm 163 (by omega), hm 244 (by omega)]; exact r_R_ro h
  · rw [h234 30 (by omega), hm 171 (by omega), hm 247 (by omega)]; exact r_R_sr h
  · rw [h234 32 (by omega), h234 31 (by omega), h167]; exact r_R_tr h
  · rw [h234 34 (by omega), h234 33 (by omega), h0 15 (by omega)]; exact r_R_sk h
  · rw [h234 36 (by omega), h234 35 (by omega), h0 16 (by omega)]; exact r_R_rd h
  · intro k hk
    rw [hj 3 (by omega), hj 240 (by omega)]
    exact r_R_wd h k hk
  · intro k hk
    obtain ⟨g1, g2, g3⟩ := r_R_im h k hk
    rw [hm (178 + 28 * k) (by omega), hm 256 (by omega)]
    refine ⟨g1, g2, fun hn => ?_⟩
    have e1 : w_imS m3 k = w_imS m k := by unfold w_imS; rw [hm 254 (by omega)]
    have e2 : w_imN j2 k = w_imN j k := by unfold w_imN; rw [hj 255 (by omega)]
    rw [e1, e2]
    exact r_I_ext (fun c p1 p2 => hm c (by omega)) (hj _ (by omega)) (g3 hn)
theorem t_sentence (h : r_R m j) (hD : 29 ≤ D) : w_step X tx D 188 308 [] m j w := by
  have hS := r_R_st h
  have hI := r_R_dy h
  have hT := i_S_T hS
  have hE := i_S_E hS
  have hM := i_S_M hS
  have hK := i_S_K hS
  obtain ⟨t1, t2, t3⟩ := r_R_tp h
  have hX : l_X m j (m 1 2) 200 := ⟨t2, by decide, fun x hx => (t3 x hx).1, fun k hk => (r_R_wd h k hk).1⟩
  have hc30 : m 4 6 ≤ 30 := by have := (r_R_nm h).1; omega
  have s1 := s_EM_sentence (X := X) (tx := tx) (D := D) (w := w) rfl hX (r_R_nm h) hc30 hD
  have hnb : z_nb (j 239) (m 236) := r_N_b (r_R_nm h)
  have sM : ∀ {m1 j1 : Nat → Nat → Nat}, (∀ c, c = 234 ∨ c = 235 ∨ c = 236 → m1 c = m c) → (∀ c, c = 239 ∨ c = 240 → j1 c = j c) → y_SR (w_ms m1) j1 w (m 236) (q_run (m 2) (m 1 2) 200 (j 239) (m 236) (m 1 2 + 1) [] [] 0 false 0) (a_ex X tx a_T D 308 [.ref 234] (b_h m1 j1 w)) := fun {m1 j1} g1 g2 => by
    have := s_Mo_sentence (X := X) (tx := tx) (D := D) (m := m1) (j := j1) (w := w) (b := m 2) (n := m 1 2) (S := m 236) (by rw [g1 234 (by omega)]; exact t1) t2 (fun x hx => by rw [g1 235 (by omega)]; exact (t3 x hx).2) (fun k hk => by rw [g2 240 (by omega)]; exact (r_R_wd h k hk).2) (g1 236 (by omega)) hS (by rw [g2 239 (by omega)]; exact hnb) (by omega)
    rw [g2 239 (by omega)] at this
    exact this
  cases hr : q_run (m 2) (m 1 2) 200 (j 239) (m 236) (m 1 2 + 1) [] [] 0 false 0 with
  | error e =>
    rw [hr] at s1
    obtain ⟨m1, j1, e1, e2, e3, e4, e5⟩ := s1
    have s2 := sM (m1 := m1) (j1 := j1) (fun c hc => e2 c (by omega) (by omega) (by omega)) (fun c hc => e3 c (by omega))
    rw [hr] at s2
    obtain ⟨m2, j2, f1, f2, f3, f4, f5, f6⟩ := s2
    obtain ⟨v0, _, _, _, v2, _, _, _, _, _, _, vk⟩ := w_ms_v (m := m1)
    have fc : ∀ c, c ≠ 0 → c ≠ 1 → c < 152 ∨ 155 < c → c ≠ 234 → c ≠ 238 → c ≠ 252 → m2 c = m c := fun c c1 c2 c3 c4 c5 c6 => by rw [f4 c c4 c5 c6, v0 c c4, e2 c c1 c2 c3]
    have fk : ∀ k, 18 < k → (k < 45 ∨ 49 < k) → m2 234 k = m 234 k := fun k h1 h2 => by rw [f6 k (by omega) (by omega) h2, vk k (by omega) (by omega) h2, e2 234 (by decide) (by decide) (by decide)]
    have m20 : m2 0 = b_s (m 0) 14 e.1 := by rw [f4 0 (by decide) (by decide) (by decide), v0 0 (by decide)]; exact e4
    refine ⟨m1, j1, m2, j2, _, e1, f1, ?_⟩
    refine r_R_j (j := j) (r_R_txt h ⟨fun c hc => ?_, fun k hk => by rw [m20, b_sn (by omega)], fun k hk => by rw [fc 156 (by decide) (by decide) (by decide) (by decide) (by decide) (by decide)], by rw [fc 162 (by decide) (by decide) (by decide) (by decide) (by decide) (by decide)], by rw [fc 167 (by decide) (by decide) (by decide) (by decide) (by decide) (by decide)], fun k hk => fk k (by omega) (by omega)⟩ ?_ ?_) (fun c hc => ?_) (fun x hx => ?_)
    · exact fc c (by omega) (by omega) (by omega) (by omega) (by omega) (by omega)
    · unfold r_TT
      have a1 : m2 1 2 = 0 := by rw [f4 1 (by decide) (by decide) (by decide), v0 1 (by decide)]; exact e5
      have a2 : m2 234 2 = 0 := by rw [f6 2 (by decide) (by decide) (by decide)]; exact v2
      rw [a1, a2]
      exact ⟨rfl, Nat.zero_le _, fun i hi => absurd hi (Nat.not_lt_zero i)⟩
    · rw [m20, b_ss, f2]
    · rw [f5 c (by omega), e3 c (by omega)]
    · rw [f5 239 (by decide), e3 239 (by decide)]
  | ok v =>
    rw [hr] at s1
    obtain ⟨m1, j1, e1, e2, e3, e4, e5, e6, e7, e8, e9, e10, e11⟩ := s1
    have cS : ∀ c, c < 148 ∨ 151 < c → w_cpS m1 148 152 c = m1 c := fun c hc => w_cpS_fr c (by omega)
    have k1 : w_cpS m1 148 152 148 0 = m1 152 0 := by
      unfold w_cpS
      simp (disch := omega) only [b_rn, b_rs, b_ss, b_sn]
    have k2 : w_cpS m1 148 152 148 1 = m1 152 1 := by
      unfold w_cpS
      simp (disch := omega) only [b_rn, b_rs, b_ss, b_sn]
    have k3 : ∀ i, i < 40 → w_cpS m1 148 152 149 i = m1 153 i := fun i hi => by
      unfold w_cpS
      simp (disch := omega) only [b_rn, b_rs]
      rw [b_rgi (by omega) (by omega)]
      rfl
    have k4 : ∀ i, i < 40 → w_cpS m1 148 152 150 i = m1 154 i := fun i hi => by
      unfold w_cpS
      simp (disch := omega) only [b_rn, b_rs]
      rw [b_rgi (by omega) (by omega)]
      rfl
    have k5 : ∀ i, i < 40 → w_cpS m1 148 152 151 i = m1 155 i := fun i hi => by
      unfold w_cpS
      simp (disch := omega) only [b_rn, b_rs]
      rw [b_rgi (by omega) (by omega)]
      rfl
    generalize w_cpS m1 148 152 = MC at e1 cS k1 k2 k3 k4 k5
    have s2 := sM (m1 := MC) (j1 := j1) (fun c hc => by rw [cS c (by omega), e2 c (by omega) (by omega) (by omega)]) (fun c hc => e3 c (by omega))
    rw [hr] at s2
    obtain ⟨m2, j2, f1, f2, f3⟩ := s2
    obtain ⟨v0, _, _, _, v2, v15, _, _, _, _, _, vk⟩ := w_ms_v (m := MC)
    obtain ⟨f4, f5, f6⟩ := f2
    generalize hMR : b_r m2 236 (b_rg (b_s (m 236) 352 v.1.length) 353 (3 * v.1.length) fun i => m2 238 i) = MR at f1
    have r236 : MR 236 = b_rg (b_s (m 236) 352 v.1.length) 353 (3 * v.1.length) fun i => m2 238 i := by rw [← hMR, b_rs]
    have rc : ∀ c, c ≠ 236 → MR c = m2 c := fun c hc => by rw [← hMR, b_rn hc]
    have fC : ∀ c, c ≠ 234 → c ≠ 236 → c ≠ 238 → c ≠ 252 → MR c = MC c := fun c c1 c2 c3 c4 => by rw [rc c c2, f4 c c1 c3 c4, v0 c c1]
    have fc : ∀ c, c ≠ 0 → c ≠ 1 → c < 148 ∨ 155 < c → c ≠ 234 → c ≠ 236 → c ≠ 238 → c ≠ 252 → MR c = m c := fun c c1 c2 c3 c4 c5 c6 c7 => by rw [fC c c4 c5 c6 c7, cS c (by omega), e2 c c1 c2 (by omega)]
    have fk : ∀ k, 18 < k → (k < 45 ∨ 49 < k) → MR 234 k = m 234 k := fun k h1 h2 => by rw [rc 234 (by decide), f6 k (by omega) (by omega) (by omega) h2, vk k (by omega) (by omega) h2, cS 234 (by decide), e2 234 (by decide) (by decide) (by decide)]
    have m20 : MR 0 = b_s (m 0) 14 0 := by rw [fC 0 (by decide) (by decide) (by decide) (by decide), cS 0 (by decide)]; exact e4
    have hs : ∀ i, i < 352 → MR 236 i = m 236 i := fun i hi => by rw [r236, b_rgo (by omega), b_sn (by omega)]
    refine ⟨MC, j1, MR, j2, _, e1, f1, ?_⟩
    refine r_R_sen h (fun c hc => fc c (by omega) (by omega) (by omega) (by omega) (by omega) (by omega) (by omega)) (fun k hk => by rw [m20, b_sn (by omega)]) (fun k hk => by rw [fc 156 (by decide) (by decide) (by decide) (by decide) (by decide) (by decide) (by decide)]) (by rw [fc 162 (by decide) (by decide) (by decide) (by decide) (by decide) (by decide) (by decide)]) (by rw [fc 167 (by decide) (by decide) (by decide) (by decide) (by decide) (by decide) (by decide)]) (fun k hk => fk k (by omega) (by omega)) (fun c hc => by rw [f5 c (by omega), e3 c (by omega)]) hs ?_ ?_ ?_
    · unfold r_TT
      have a1 : MR 1 2 = 0 := by rw [fC 1 (by decide) (by decide) (by decide) (by decide), cS 1 (by decide)]; exact e5
      have a2 : MR 234 2 = 0 := by rw [rc 234 (by decide), f6 2 (by decide) (by decide) (by decide) (by decide)]; exact v2
      rw [a1, a2]
      exact ⟨rfl, Nat.zero_le _, fun i hi => absurd hi (Nat.not_lt_zero i)⟩
    · rw [m20, b_ss, rc 234 (by decide), f6 15 (by decide) (by decide) (by decide) (by decide)]
      exact v15.symm
    · obtain ⟨q1, q2, q3⟩ := e6
      have w1 := z_wf1 v.1 q3 e7
      rw [fC 148 (by decide) (by decide) (by decide) (by decide), fC 149 (by decide) (by decide) (by decide) (by decide), fC 150 (by decide) (by decide) (by decide) (by decide), fC 151 (by decide) (by decide) (by decide) (by decide)]
      refine r_C_cong k3 k4 k5 ?_
      have hl0 : v.1.length ≠ 0 := fun x => by
        cases hv : v.1 with
        | nil =>
          rw [hv] at e8
          exact absurd e8 (by decide)
        | cons c A =>
          rw [hv, List.length_cons] at x
          omega
      refine ⟨by rw [k2, q2]; exact e11, by rw [r236, b_rgo (by omega), b_ss, k2, q2], ?_, by rw [k1, q1]; omega, fun i hi => ?_, ?_⟩
      · rw [k1, q1, k2, q2]
        exact ⟨fun x => by omega, fun x => absurd x hl0⟩
      · rw [k2, q2] at hi
        have := z_r1 v.1 q3 f3 i hi
        have a0 : MR 236 (353 + 3 * i) = m2 238 (3 * i) := by rw [r236, b_rgi (by omega) (by omega), show 353 + 3 * i - 353 = 3 * i by omega]
        have a1 : MR 236 (353 + 3 * i + 1) = m2 238 (3 * i + 1) := by rw [r236, b_rgi (by omega) (by omega), show 353 + 3 * i + 1 - 353 = 3 * i + 1 by omega]
        have a2 : MR 236 (353 + 3 * i + 2) = m2 238 (3 * i + 2) := by rw [r236, b_rgi (by omega) (by omega), show 353 + 3 * i + 2 - 353 = 3 * i + 2 by omega]
        rw [a0, a1, a2]
        unfold r_c1 at this ⊢
        rw [hs 0 (by decide), hs 1 (by decide), hs 3 (by decide)]
        exact this
      · rw [k2, q2]
        exact ⟨w1.2.1, w1.2.2, fun _ => w1.1.trans e8⟩
end ST
