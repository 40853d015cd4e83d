/-! CALL BY CALL: restoring -/
section S6
variable {X : Nat × (Nat → Int32)} {tx : List Int32} {D : Nat} {m j : Nat → Nat → Nat} {w : (Nat × Nat) × Bool}
/-- a market that is another one: what was told last stays, and so do the images -/
theorem r_R_new {m2 j2 : Nat → Nat → Nat} (h : r_R m j) (hm : ∀ c, c = 163 ∨ c = 171 ∨ (178 ≤ c ∧ c ≤ 233) ∨ c = 244 ∨ c = 247 ∨ c = 251 ∨ c = 254 ∨ c = 256 → m2 c = m c) (h0 : ∀ k, k = 15 ∨ k = 16 → m2 0 k = m 0 k) (h156 : ∀ k, 6 ≤ k → m2 156 k = m 156 k) (h162 : m2 162 3 = m 162 3) (h167 : m2 167 7 = m 167 7) (h234 : ∀ k, k = 26 ∨ (30 ≤ k ∧ k ≤ 36) ∨ k = 43 → m2 234 k = m 234 k) (hj : ∀ c, c = 3 ∨ c = 240 ∨ c = 180 ∨ c = 208 ∨ c = 255 → j2 c = j c)
    (hS : i_S (m2 236)) (hI : i_D (m2 236)) (hF : c_F m2 4 (m2 236)) (hA : c_A m2 26 (m2 236)) (hT : r_TT m2) (hf : m2 0 14 = m2 234 15) (hN : r_N (m2 6) (m2 7) (m2 4 6) (j2 5) (j2 239) (m2 236)) (h23 : m2 234 23 = 0) (h50 : m2 50 1 = 0 ∧ m2 50 2 < 8) (hC : r_C (m2 148 0) (m2 148 1) (m2 149) (m2 150) (m2 151) (m2 236)) : r_R m2 j2 := by
  refine ⟨hS, hI, hF, hA, hT, hf, hN, ⟨by omega, by omega, h50.2, fun r hr => by omega⟩, hC, ?_, ?_, ?_, ?_, ?_, ?_, ?_, ?_⟩
  · obtain ⟨g1, g2, g3⟩ := r_R_to h
    rw [h156 6 (by omega), h234 43 (by omega)]
    exact ⟨g1, g2, fun hn k hk => by rw [h156 (7 + k) (by omega), hm 251 (by omega)]; exact g3 hn k hk⟩
  · rw [h162, h234 26 (by omega), hm 163 (by omega), hm 244 (by omega)]; exact r_R_ro h
  · rw [h234 30 (by omega), hm 171 (by omega), hm 247 (by omega)]; exact r_R_sr h
  · rw [h234 32 (by omega), h234 31 (by omega), h167]; exact r_R_tr h
  · rw [h234 34 (by omega), h234 33 (by omega), h0 15 (by omega)]; exact r_R_sk h
  · rw [h234 36 (by omega), h234 35 (by omega), h0 16 (by omega)]; exact r_R_rd h
  · intro k hk
    rw [hj 3 (by omega), hj 240 (by omega)]
    exact r_R_wd h k hk
  · intro k hk
    obtain ⟨g1, g2, g3⟩ := r_R_im h k hk
    rw [hm (178 + 28 * k) (by omega), hm 256 (by omega)]
    refine ⟨g1, g2, fun hn => ?_⟩
    have e1 : w_imS m2 k = w_imS m k := by unfold w_imS; rw [hm 254 (by omega)]
    have e2 : w_imN j2 k = w_imN j k := by unfold w_imN; rw [hj 255 (by omega)]
    rw [e1, e2]
    exact r_I_ext (fun c p1 p2 => hm c (by omega)) (hj _ (by omega)) (g3 hn)
theorem t_restore0 (h : r_R m j) (hD : 10 ≤ D) (hk : m 256 0 ≠ 0) : w_step X tx D 191 313 [.int (nI 0)] m j w := by
  obtain ⟨g1, g2, g3⟩ := r_R_im h 0 (by decide)
  have g1 : m 178 3 = m 256 0 := g1
  have g3 : r_I m j 179 (w_imS m 0) (w_imN j 0) := g3 hk
  obtain ⟨i1, i2, i3, i4, i5, i6⟩ := g3
  generalize hM1 : b_r (w_cpS (w_cpA (w_cpF m 4 179) 26 190) 148 202) 50 (b_s (b_s (m 50) 1 0) 2 0) = m1
  have f1 : ∀ c, c < 4 ∨ (14 < c ∧ c < 26) ∨ (37 < c ∧ c < 50) ∨ (50 < c ∧ c < 148) ∨ 151 < c → m1 c = m c := fun c hc => by
    rw [← hM1, b_rn (by omega)]
    exact (w_cpS_fr c (by omega)).trans ((w_cpA_fr c (by omega)).trans (w_cpF_fr c (by omega)))
  have s2 := s_Mo_restore (X := X) (tx := tx) (D := D) (m := m1) (j := w_cpN j 4 179) (w := w) (by omega) (k := 0) (by decide) (by rw [f1 256 (by omega)]; exact hk) (by rw [f1 256 (by omega)]; exact g2)
  refine ⟨m1, w_cpN j 4 179, _, _, _, (by rw [← hM1]; exact s_EM_restore0 (by omega) (by omega) (by omega)), s2, ?_⟩
  have f2 : ∀ c, c ≠ 234 → c ≠ 236 → w_reM m1 0 c = m1 c := fun c h1 h2 => by unfold w_reM; rw [b_rn h2, b_rn h1]
  have e236 : ∀ i, i < 533 → w_reM m1 0 236 i = w_imS m 0 i := fun i hi => by
    unfold w_reM
    rw [b_rs, b_rgi (by omega) (by omega), f1 254 (by omega)]
    rfl
  have e234 : w_reM m1 0 234 = b_s (b_s (m 234) 0 0) 23 0 := by
    unfold w_reM
    rw [b_rn (by decide), b_rs, f1 234 (by omega)]
  have jo : ∀ c, c ≠ 5 → c ≠ 239 → w_reJ (w_cpN j 4 179) 0 c = j c := fun c h1 h2 => by
    unfold w_reJ
    rw [b_rn h2]
    exact w_cpN_fr c (by omega)
  have j5 : ∀ i, i < 30 → w_reJ (w_cpN j 4 179) 0 5 i = j (179 + 1) i := fun i hi => by
    unfold w_reJ
    rw [b_rn (by decide)]
    unfold w_cpN
    rw [b_rs, b_rgi (by omega) (by omega)]
    rfl
  have j239 : ∀ i, i < 30 → w_reJ (w_cpN j 4 179) 0 239 i = w_imN j 0 i := fun i hi => by
    unfold w_reJ
    rw [b_rs, b_rgi (by omega) (by omega), w_cpN_fr 255 (by omega)]
    rfl
  have hS : i_S (w_reM m1 0 236) := i_S_ext (fun i hi => e236 i (by omega)) i1
  have cF : ∀ c, 4 ≤ c → c ≤ 14 → w_reM m1 0 c = w_cpF m 4 179 c := fun c p1 p2 => by
    rw [f2 c (by omega) (by omega), ← hM1, b_rn (by omega)]
    exact (w_cpS_fr c (by omega)).trans (w_cpA_fr c (by omega))
  have cA : ∀ c, 26 ≤ c → c ≤ 37 → w_reM m1 0 c = w_cpA (w_cpF m 4 179) 26 190 c := fun c p1 p2 => by
    rw [f2 c (by omega) (by omega), ← hM1, b_rn (by omega)]
    exact w_cpS_fr c (by omega)
  have cS : ∀ c, 148 ≤ c → c ≤ 151 → w_reM m1 0 c = w_cpS (w_cpA (w_cpF m 4 179) 26 190) 148 202 c := fun c p1 p2 => by
    rw [f2 c (by omega) (by omega), ← hM1, b_rn (by omega)]
  refine r_R_new h (fun c hc => by rw [f2 c (by omega) (by omega), f1 c (by omega)]) (fun k hk => by rw [f2 0 (by omega) (by omega), f1 0 (by omega)]) (fun k hk => by rw [f2 156 (by omega) (by omega), f1 156 (by omega)]) (by rw [f2 162 (by omega) (by omega), f1 162 (by omega)]) (by rw [f2 167 (by omega) (by omega), f1 167 (by omega)]) (fun k hk => by rw [e234, b_sn (by omega), b_sn (by omega)]) (fun c hc => jo c (by omega) (by omega)) hS (i_D_ext (fun i hi => e236 i (by omega)) i1 i2) ?_ ?_ ?_ ?_ ?_ ?_ ?_ ?_
  · exact c_F_ext (m := w_cpF m 4 179) cF (fun i hi => e236 i (by omega)) i1 (c_F_cp (by omega) i1 i3)
  · refine c_A_exts (fun i hi => e236 i (by omega)) i1 (c_A_ext (m := w_cpA (w_cpF m 4 179) 26 190) cA (c_A_cp (by omega) i1 (c_A_ext (fun c p1 p2 => w_cpF_fr c (by omega)) i4)))
  · unfold r_TT
    rw [f2 1 (by omega) (by omega), f1 1 (by omega), f2 2 (by omega) (by omega), f1 2 (by omega), f2 235 (by omega) (by omega), f1 235 (by omega), e234, b_sn (by decide), b_sn (by decide)]
    exact r_R_tp h
  · rw [f2 0 (by omega) (by omega), f1 0 (by omega), e234, b_sn (by decide), b_sn (by decide)]
    exact r_R_ft h
  · rw [cF 6 (by omega) (by omega), cF 7 (by omega) (by omega), cF 4 (by omega) (by omega)]
    have e6 : w_cpF m 4 179 4 6 = m 179 6 := by
      unfold w_cpF
      simp (disch := omega) only [b_rn, b_rs, b_ss, b_sn]
    rw [e6]
    refine r_N_cong hS (fun i hi => ?_) (fun i hi => ?_) j5 j239 (r_N_s (fun i hi => e236 i (by omega)) i5)
    · unfold w_cpF
      simp (disch := omega) only [b_rn, b_rs]
      rw [b_rgi (by omega) (by omega)]
      rfl
    · unfold w_cpF
      simp (disch := omega) only [b_rn, b_rs]
      rw [b_rgi (by omega) (by omega)]
      rfl
  · rw [e234, b_ss]
  · rw [f2 50 (by omega) (by omega), ← hM1, b_rs, b_sn (by decide), b_ss, b_ss]
    exact ⟨rfl, by decide⟩
  · have gq : ∀ c, 202 ≤ c → c ≤ 202 + 3 → w_cpA (w_cpF m 4 179) 26 190 c = m c := fun c p1 p2 => (w_cpA_fr c (by omega)).trans (w_cpF_fr c (by omega))
    rw [cS 148 (by omega) (by omega), cS 149 (by omega) (by omega), cS 150 (by omega) (by omega), cS 151 (by omega) (by omega)]
    generalize hq : w_cpA (w_cpF m 4 179) 26 190 = mq at gq ⊢
    have e0 : w_cpS mq 148 202 148 0 = m 202 0 := by
      unfold w_cpS
      simp (disch := omega) only [b_rn, b_rs, b_ss, b_sn]
      rw [gq 202 (by omega) (by omega)]
    have e1 : w_cpS mq 148 202 148 1 = m 202 1 := by
      unfold w_cpS
      simp (disch := omega) only [b_rn, b_rs, b_ss, b_sn]
      rw [gq 202 (by omega) (by omega)]
    rw [e0, e1]
    refine r_C_cong (fun i hi => ?_) (fun i hi => ?_) (fun i hi => ?_) (r_C_s (fun i hi => e236 i (by omega)) i6)
    · unfold w_cpS
      simp (disch := omega) only [b_rn, b_rs]
      rw [b_rgi (by omega) (by omega), gq (202 + 1) (by omega) (by omega)]
      rfl
    · unfold w_cpS
      simp (disch := omega) only [b_rn, b_rs]
      rw [b_rgi (by omega) (by omega), gq (202 + 2) (by omega) (by omega)]
      rfl
    · unfold w_cpS
      simp (disch := omega) only [b_rn, b_rs]
      rw [b_rgi (by omega) (by omega), gq (202 + 3) (by omega) (by omega)]
      rfl
theorem t_restore1 (h : r_R m j) (hD : 10 ≤ D) (hk : m 256 1 ≠ 0) : w_step X tx D 191 313 [.int (nI 1)] m j w := by
  obtain ⟨g1, g2, g3⟩ := r_R_im h 1 (by decide)
  have g1 : m 206 3 = m 256 1 := g1
  have g3 : r_I m j 207 (w_imS m 1) (w_imN j 1) := g3 hk
  obtain ⟨i1, i2, i3, i4, i5, i6⟩ := g3
  generalize hM1 : b_r (w_cpS (w_cpA (w_cpF m 4 207) 26 218) 148 230) 50 (b_s (b_s (m 50) 1 0) 2 0) = m1
  have f1 : ∀ c, c < 4 ∨ (14 < c ∧ c < 26) ∨ (37 < c ∧ c < 50) ∨ (50 < c ∧ c < 148) ∨ 151 < c → m1 c = m c := fun c hc => by
    rw [← hM1, b_rn (by omega)]
    exact (w_cpS_fr c (by omega)).trans ((w_cpA_fr c (by omega)).trans (w_cpF_fr c (by omega)))
  have s2 := s_Mo_restore (X := X) (tx := tx) (D := D) (m := m1) (j := w_cpN j 4 207) (w := w) (by omega) (k := 1) (by decide) (by rw [f1 256 (by omega)]; exact hk) (by rw [f1 256 (by omega)]; exact g2)
  refine ⟨m1, w_cpN j 4 207, _, _, _, (by rw [← hM1]; exact s_EM_restore1 (by omega) (by omega) (by omega)), s2, ?_⟩
  have f2 : ∀ c, c ≠ 234 → c ≠ 236 → w_reM m1 1 c = m1 c := fun c h1 h2 => by unfold w_reM; rw [b_rn h2, b_rn h1]
  have e236 : ∀ i, i < 533 → w_reM m1 1 236 i = w_imS m 1 i := fun i hi => by
    unfold w_reM
    rw [b_rs, b_rgi (by omega) (by omega), f1 254 (by omega)]
    rfl
  have e234 : w_reM m1 1 234 = b_s (b_s (m 234) 0 0) 23 0 := by
    unfold w_reM
    rw [b_rn (by decide), b_rs, f1 234 (by omega)]
  have jo : ∀ c, c ≠ 5 → c ≠ 239 → w_reJ (w_cpN j 4 207) 1 c = j c := fun c h1 h2 => by
    unfold w_reJ
    rw [b_rn h2]
    exact w_cpN_fr c (by omega)
  have j5 : ∀ i, i < 30 → w_reJ (w_cpN j 4 207) 1 5 i = j (207 + 1) i := fun i hi => by
    unfold w_reJ
    rw [b_rn (by decide)]
    unfold w_cpN
    rw [b_rs, b_rgi (by omega) (by omega)]
    rfl
  have j239 : ∀ i, i < 30 → w_reJ (w_cpN j 4 207) 1 239 i = w_imN j 1 i := fun i hi => by
    unfold w_reJ
    rw [b_rs, b_rgi (by omega) (by omega), w_cpN_fr 255 (by omega)]
    rfl
  have hS : i_S (w_reM m1 1 236) := i_S_ext (fun i hi => e236 i (by omega)) i1
  have cF : ∀ c, 4 ≤ c → c ≤ 14 → w_reM m1 1 c = w_cpF m 4 207 c := fun c p1 p2 => by
    rw [f2 c (by omega) (by omega), ← hM1, b_rn (by omega)]
    exact (w_cpS_fr c (by omega)).trans (w_cpA_fr c (by omega))
  have cA : ∀ c, 26 ≤ c → c ≤ 37 → w_reM m1 1 c = w_cpA (w_cpF m 4 207) 26 218 c := fun c p1 p2 => by
    rw [f2 c (by omega) (by omega), ← hM1, b_rn (by omega)]
    exact w_cpS_fr c (by omega)
  have cS : ∀ c, 148 ≤ c → c ≤ 151 → w_reM m1 1 c = w_cpS (w_cpA (w_cpF m 4 207) 26 218) 148 230 c := fun c p1 p2 => by
    rw [f2 c (by omega) (by omega), ← hM1, b_rn (by omega)]
  refine r_R_new h (fun c hc => by rw [f2 c (by omega) (by omega), f1 c (by omega)]) (fun k hk => by rw [f2 0 (by omega) (by omega), f1 0 (by omega)]) (fun k hk => by rw [f2 156 (by omega) (by omega), f1 156 (by omega)]) (by rw [f2 162 (by omega) (by omega), f1 162 (by omega)]) (by rw [f2 167 (by omega) (by omega), f1 167 (by omega)]) (fun k hk => by rw [e234, b_sn (by omega), b_sn (by omega)]) (fun c hc => jo c (by omega) (by omega)) hS (i_D_ext (fun i hi => e236 i (by omega)) i1 i2) ?_ ?_ ?_ ?_ ?_ ?_ ?_ ?_
  · exact c_F_ext (m := w_cpF m 4 207) cF (fun i hi => e236 i (by omega)) i1 (c_F_cp (by omega) i1 i3)
  · refine c_A_exts (fun i hi => e236 i (by omega)) i1 (c_A_ext (m := w_cpA (w_cpF m 4 207) 26 218) cA (c_A_cp (by omega) i1 (c_A_ext (fun c p1 p2 => w_cpF_fr c (by omega)) i4)))
  · unfold r_TT
    rw [f2 1 (by omega) (by omega), f1 1 (by omega), f2 2 (by omega) (by omega), f1 2 (by omega), f2 235 (by omega) (by omega), f1 235 (by omega), e234, b_sn (by decide), b_sn (by decide)]
    exact r_R_tp h
  · rw [f2 0 (by omega) (by omega), f1 0 (by omega), e234, b_sn (by decide), b_sn (by decide)]
    exact r_R_ft h
  · rw [cF 6 (by omega) (by omega), cF 7 (by omega) (by omega), cF 4 (by omega) (by omega)]
    have e6 : w_cpF m 4 207 4 6 = m 207 6 := by
      unfold w_cpF
      simp (disch := omega) only [b_rn, b_rs, b_ss, b_sn]
    rw [e6]
    refine r_N_cong hS (fun i hi => ?_) (fun i hi => ?_) j5 j239 (r_N_s (fun i hi => e236 i (by omega)) i5)
    · unfold w_cpF
      simp (disch := omega) only [b_rn, b_rs]
      rw [b_rgi (by omega) (by omega)]
      rfl
    · unfold w_cpF
      simp (disch := omega) only [b_rn, b_rs]
      rw [b_rgi (by omega) (by omega)]
      rfl
  · rw [e234, b_ss]
  · rw [f2 50 (by omega) (by omega), ← hM1, b_rs, b_sn (by decide), b_ss, b_ss]
    exact ⟨rfl, by decide⟩
  · have gq : ∀ c, 230 ≤ c → c ≤ 230 + 3 → w_cpA (w_cpF m 4 207) 26 218 c = m c := fun c p1 p2 => (w_cpA_fr c (by omega)).trans (w_cpF_fr c (by omega))
    rw [cS 148 (by omega) (by omega), cS 149 (by omega) (by omega), cS 150 (by omega) (by omega), cS 151 (by omega) (by omega)]
    generalize hq : w_cpA (w_cpF m 4 207) 26 218 = mq at gq ⊢
    have e0 : w_cpS mq 148 230 148 0 = m 230 0 := by
      unfold w_cpS
      simp (disch := omega) only [b_rn, b_rs, b_ss, b_sn]
      rw [gq 230 (by omega) (by omega)]
    have e1 : w_cpS mq 148 230 148 1 = m 230 1 := by
      unfold w_cpS
      simp (disch := omega) only [b_rn, b_rs, b_ss, b_sn]
      rw [gq 230 (by omega) (by omega)]
    rw [e0, e1]
    refine r_C_cong (fun i hi => ?_) (fun i hi => ?_) (fun i hi => ?_) (r_C_s (fun i hi => e236 i (by omega)) i6)
    · unfold w_cpS
      simp (disch := omega) only [b_rn, b_rs]
      rw [b_rgi (by omega) (by omega), gq (230 + 1) (by omega) (by omega)]
      rfl
    · unfold w_cpS
      simp (disch := omega) only [b_rn, b_rs]
      rw [b_rgi (by omega) (by omega), gq (230 + 2) (by omega) (by omega)]
      rfl
    · unfold w_cpS
      simp (disch := omega) only [b_rn, b_rs]
      rw [b_rgi (by omega) (by omega), gq (230 + 3) (by omega) (by omega)]
      rfl
theorem t_restore (h : r_R m j) (hD : 10 ≤ D) {k : Nat} (hk : k < 4294967296) : w_step X tx D 191 313 [.int (nI k)] m j w := by
  by_cases c : 2 ≤ k
  · exact ⟨m, j, _, j, _, s_EM_restoreX (by omega) hk c, s_Mo_restoreN (by omega) hk (Or.inl c), r_R_thr h⟩
  · by_cases c2 : m 256 k = 0
    · obtain c | c : k = 0 ∨ k = 1 := by omega
      · subst c
        have g := (r_R_im h 0 (by decide)).1
        exact ⟨m, j, _, j, _, s_EM_restoreN0 (g.trans c2) (by omega), s_Mo_restoreN (by omega) hk (Or.inr c2), r_R_thr h⟩
      · subst c
        have g := (r_R_im h 1 (by decide)).1
        exact ⟨m, j, _, j, _, s_EM_restoreN1 (g.trans c2) (by omega), s_Mo_restoreN (by omega) hk (Or.inr c2), r_R_thr h⟩
    · obtain c | c : k = 0 ∨ k = 1 := by omega
      · subst c; exact t_restore0 h hD c2
      · subst c; exact t_restore1 h hD c2
end S6
