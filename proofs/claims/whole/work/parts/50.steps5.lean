/-! CALL BY CALL: images -/
theorem r_N_cong {so nu so2 nu2 : Nat → Nat} {c : Nat} {L N L2 N2 s : Nat → Nat} (hS : i_S s) (h1 : ∀ i, i < 30 → so2 i = so i) (h2 : ∀ i, i < 30 → nu2 i = nu i) (h3 : ∀ i, i < 30 → L2 i = L i) (h4 : ∀ i, i < 30 → N2 i = N i) (h : r_N so nu c L N s) : r_N so2 nu2 c L2 N2 s := by
  refine r_N_N hS h4 ?_
  obtain ⟨g1, g2, g3, g4⟩ := h
  have hT := i_S_T hS
  have hE := i_S_E hS
  have hM := i_S_M hS
  have hK := i_S_K hS
  refine ⟨g1, fun i hi => by rw [h1 i (by omega), h2 i (by omega), h3 i (by omega)]; exact g2 i hi, fun q hq n hn => ?_, fun i hi k hk e => g4 i hi k hk (by rw [← h3 i (by omega), ← h3 k (by omega)]; exact e)⟩
  obtain ⟨i, k1, k2, k3⟩ := g3 q hq n hn
  exact ⟨i, k1, by rw [h1 i (by omega)]; exact k2, by rw [h2 i (by omega)]; exact k3⟩
theorem w_dep_congr {p q : Nat → Nat} : ∀ n, (∀ i, i < n → q i = p i) → w_dep q n = w_dep p n
  | 0, _ => rfl
  | n + 1, h => by
    unfold w_dep
    rw [h n (by omega), w_dep_congr n (fun i hi => h i (by omega))]
theorem r_C_cong {ones parts : Nat} {p n b p2 n2 b2 s : Nat → Nat} (h1 : ∀ i, i < 40 → p2 i = p i) (h2 : ∀ i, i < 40 → n2 i = n i) (h3 : ∀ i, i < 40 → b2 i = b i) (h : r_C ones parts p n b s) : r_C ones parts p2 n2 b2 s := by
  obtain ⟨g1, g2, g3, g4, g5, g6, g7, g8⟩ := h
  have hd : ∀ i, i ≤ parts → w_dep p2 i = w_dep p i := fun i hi => w_dep_congr i (fun k hk => h1 k (by omega))
  refine ⟨g1, g2, g3, g4, fun i hi => by rw [h1 i (by omega), h2 i (by omega), h3 i (by omega)]; exact g5 i hi, fun i hi => ?_, fun i hi => by rw [hd i hi]; exact g7 i hi, fun h0 => by rw [hd parts (Nat.le_refl _)]; exact g8 h0⟩
  rw [h1 i (by omega), hd i (by omega)]
  exact g6 i hi
theorem r_I_exts {m j : Nat → Nat → Nat} {f : Nat} {s r N M : Nat → Nat} (hs : ∀ i, i < 533 → r i = s i) (hN : ∀ i, i < 30 → M i = N i) (h : r_I m j f s N) : r_I m j f r M := by
  obtain ⟨h1, h2, h3, h4, h5, h6⟩ := h
  refine ⟨i_S_ext (fun i hi => hs i (by omega)) h1, i_D_ext (fun i hi => hs i (by omega)) h1 h2, c_F_ext (fun _ _ _ => rfl) (fun i hi => hs i (by omega)) h1 h3, c_A_exts (fun i hi => hs i (by omega)) h1 h4, r_N_s (fun i hi => hs i (by omega)) (r_N_N h1 hN h5), r_C_s (fun i hi => hs i (by omega)) h6⟩
section S5
variable {X : Nat × (Nat → Int32)} {tx : List Int32} {D : Nat} {m j : Nat → Nat → Nat} {w : (Nat × Nat) × Bool}
theorem r_R_imn {m2 j2 : Nat → Nat → Nat} (h : r_R m j) (hm : ∀ c, (c < 178 ∨ (233 < c ∧ c ≠ 234 ∧ c ≠ 254 ∧ c ≠ 256)) → m2 c = m c) (h234 : ∀ k, k ≠ 0 → m2 234 k = m 234 k) (hj : ∀ c, c ≠ 180 → c ≠ 208 → c ≠ 255 → j2 c = j c) (him : ∀ k, k < 2 → m2 (178 + 28 * k) 3 = m2 256 k ∧ m2 256 k < 2 ∧ (m2 256 k ≠ 0 → r_I m2 j2 (179 + 28 * k) (w_imS m2 k) (w_imN j2 k))) : r_R m2 j2 := by
  unfold r_R
  rw [hm 236 (by omega), hm 1 (by omega), hm 2 (by omega), hm 235 (by omega), hm 0 (by omega), hm 6 (by omega), hm 7 (by omega), hm 4 (by omega), hm 241 (by omega), hm 148 (by omega), hm 149 (by omega), hm 150 (by omega), hm 151 (by omega), hm 156 (by omega), hm 251 (by omega), hm 162 (by omega), hm 163 (by omega), hm 244 (by omega), hm 171 (by omega), hm 247 (by omega), hm 167 (by omega), h234 2 (by omega), h234 15 (by omega), h234 23 (by omega), h234 43 (by omega), h234 26 (by omega), h234 30 (by omega), h234 32 (by omega), h234 31 (by omega), h234 34 (by omega), h234 33 (by omega), h234 36 (by omega), h234 35 (by omega), hj 5 (by omega) (by omega) (by omega), hj 239 (by omega) (by omega) (by omega)]
  have hS := r_R_st h
  refine ⟨hS, r_R_dy h, c_F_ext (fun c p1 p2 => hm c (by omega)) (fun _ _ => rfl) hS (r_R_fa h), c_A_ext (fun c p1 p2 => hm c (by omega)) (r_R_af h), r_R_tp h, r_R_ft h, r_R_nm h, r_P_ext (fun c p1 p2 => hm c (by omega)) (fun _ _ => rfl) (r_R_pa h), r_R_cl h, r_R_to h, r_R_ro h, r_R_sr h, r_R_tr h, r_R_sk h, r_R_rd h, ?_, him⟩
  intro k hk
  rw [hj 3 (by omega) (by omega) (by omega), hj 240 (by omega) (by omega) (by omega)]
  exact r_R_wd h k hk
theorem t_image0 (h : r_R m j) (hD : 10 ≤ D) : w_step X tx D 190 312 [.int (nI 0)] m j w := by
  refine ⟨_, _, _, _, _, s_EM_image0 (by omega), s_Mo_image (by omega) (by decide), ?_⟩
  have f1 : ∀ c, (c < 178 ∨ 178 + 27 < c) → w_imC0 m c = m c := fun c hc => by
    unfold w_imC0
    rw [b_rn (by omega)]
    exact (w_cpS_fr c (by omega)).trans ((w_cpA_fr c (by omega)).trans (w_cpF_fr c (by omega)))
  have f2 : ∀ c, (c < 178 ∨ (233 < c ∧ c ≠ 234 ∧ c ≠ 254 ∧ c ≠ 256) ∨ (206 ≤ c ∧ c ≤ 206 + 27)) → w_imM (w_imC0 m) 0 c = m c := fun c hc => by
    unfold w_imM
    rw [b_rn (by omega), b_rn (by omega), b_rn (by omega)]
    exact f1 c (by omega)
  have f3 : ∀ c, (178 ≤ c ∧ c ≤ 178 + 27) → w_imM (w_imC0 m) 0 c = w_imC0 m c := fun c hc => by
    unfold w_imM
    rw [b_rn (by omega), b_rn (by omega), b_rn (by omega)]
  have e254 : w_imM (w_imC0 m) 0 254 = b_rg (m 254) (533 * 0) 533 fun i => m 236 i := by
    unfold w_imM
    rw [b_rn (by decide), b_rs, f1 254 (by omega), f1 236 (by omega)]
  have e256 : w_imM (w_imC0 m) 0 256 = b_s (m 256) 0 1 := by
    unfold w_imM
    rw [b_rs, f1 256 (by omega)]
  have j1 : ∀ c, c ≠ 179 + 1 → c ≠ 255 → w_imJ (w_cpN j 179 4) 0 c = j c := fun c h1 h2 => by
    unfold w_imJ
    rw [b_rn h2]
    exact w_cpN_fr c (by omega)
  have j255 : w_imJ (w_cpN j 179 4) 0 255 = b_rg (j 255) (30 * 0) 30 fun i => j 239 i := by
    unfold w_imJ
    rw [b_rs, w_cpN_fr 255 (by omega), w_cpN_fr 239 (by omega)]
  have jf : ∀ i, i < 30 → w_imJ (w_cpN j 179 4) 0 (179 + 1) i = j 5 i := fun i hi => by
    unfold w_imJ
    rw [b_rn (by decide)]
    unfold w_cpN
    rw [b_rs, b_rgi (by omega) (by omega)]
    rfl
  have hS := r_R_st h
  refine r_R_imn h (fun c hc => f2 c (by omega)) (fun k hk => ?_) (fun c h1 h2 h3 => j1 c (by omega) h3) (fun k hk => ?_)
  · unfold w_imM
    rw [b_rn (by decide), b_rn (by decide), b_rs, b_sn hk, f1 234 (by omega)]
  · obtain hk | hk : k = 0 ∨ k = 1 := by omega
    · subst hk
      have eflag : w_imM (w_imC0 m) 0 (178 + 28 * 0) 3 = 1 := by
        rw [f3 (178 + 28 * 0) (by omega)]
        unfold w_imC0
        show b_r _ 178 _ 178 3 = 1
        rw [b_rs, b_ss]
      rw [eflag, e256, b_ss]
      refine ⟨rfl, by decide, fun _ => ?_⟩
      have rI : r_I (w_imM (w_imC0 m) 0) (w_imJ (w_cpN j 179 4) 0) 179 (m 236) (j 239) := by
        refine ⟨hS, r_R_dy h, ?_, ?_, ?_, ?_⟩
        · refine c_F_ext (m := w_cpF m 179 4) (fun c p1 p2 => ?_) (fun _ _ => rfl) hS (c_F_cp (by omega) hS (r_R_fa h))
          rw [f3 c (by omega)]
          unfold w_imC0
          rw [b_rn (by omega)]
          exact (w_cpS_fr c (by omega)).trans (w_cpA_fr c (by omega))
        · refine c_A_ext (m := w_cpA (w_cpF m 179 4) 190 26) (fun c p1 p2 => ?_) (c_A_cp (by omega) hS (c_A_ext (fun c p1 p2 => w_cpF_fr c (by omega)) (r_R_af h)))
          rw [f3 c (by omega)]
          unfold w_imC0
          rw [b_rn (by omega)]
          exact w_cpS_fr c (by omega)
        · have g : ∀ c, 179 ≤ c → c ≤ 179 + 10 → w_imM (w_imC0 m) 0 c = w_cpF m 179 4 c := fun c p1 p2 => by
            rw [f3 c (by omega)]
            unfold w_imC0
            rw [b_rn (by omega)]
            exact (w_cpS_fr c (by omega)).trans (w_cpA_fr c (by omega))
          rw [g (179 + 2) (by omega) (by omega), g (179 + 3) (by omega) (by omega), g 179 (by omega) (by omega)]
          have e6 : w_cpF m 179 4 179 6 = m 4 6 := by
            unfold w_cpF
            simp (disch := omega) only [b_rn, b_rs, b_ss, b_sn]
          rw [e6]
          refine r_N_cong hS (fun i hi => ?_) (fun i hi => ?_) jf (fun _ _ => rfl) (r_R_nm h)
          · unfold w_cpF
            simp (disch := omega) only [b_rn, b_rs]
            rw [b_rgi (by omega) (by omega)]
            rfl
          · unfold w_cpF
            simp (disch := omega) only [b_rn, b_rs]
            rw [b_rgi (by omega) (by omega)]
            rfl
        · have g : ∀ c, 202 ≤ c → c ≤ 202 + 3 → w_imM (w_imC0 m) 0 c = w_cpS (w_cpA (w_cpF m 179 4) 190 26) 202 148 c := fun c p1 p2 => by
            rw [f3 c (by omega)]
            unfold w_imC0
            rw [b_rn (by omega)]
          have g2 : ∀ c, 148 ≤ c → c ≤ 151 → w_cpA (w_cpF m 179 4) 190 26 c = m c := fun c p1 p2 => (w_cpA_fr c (by omega)).trans (w_cpF_fr c (by omega))
          rw [g (179 + 23) (by omega) (by omega), g (179 + 24) (by omega) (by omega), g (179 + 25) (by omega) (by omega), g (179 + 26) (by omega) (by omega)]
          generalize hq : w_cpA (w_cpF m 179 4) 190 26 = mq at g2 ⊢
          have e0 : w_cpS mq 202 148 (179 + 23) 0 = m 148 0 := by
            unfold w_cpS
            simp (disch := omega) only [b_rn, b_rs, b_ss, b_sn]
            rw [g2 148 (by omega) (by omega)]
          have e1 : w_cpS mq 202 148 (179 + 23) 1 = m 148 1 := by
            unfold w_cpS
            simp (disch := omega) only [b_rn, b_rs, b_ss, b_sn]
            rw [g2 148 (by omega) (by omega)]
          rw [e0, e1]
          refine r_C_cong (fun i hi => ?_) (fun i hi => ?_) (fun i hi => ?_) (r_R_cl h)
          · unfold w_cpS
            simp (disch := omega) only [b_rn, b_rs]
            rw [b_rgi (by omega) (by omega), g2 149 (by omega) (by omega)]
            rfl
          · unfold w_cpS
            simp (disch := omega) only [b_rn, b_rs]
            rw [b_rgi (by omega) (by omega), g2 150 (by omega) (by omega)]
            rfl
          · unfold w_cpS
            simp (disch := omega) only [b_rn, b_rs]
            rw [b_rgi (by omega) (by omega), g2 151 (by omega) (by omega)]
            rfl
      refine r_I_exts (fun i hi => ?_) (fun i hi => ?_) rI
      · unfold w_imS
        rw [e254, b_rgk hi]
      · unfold w_imN
        rw [j255, b_rgk hi]
    · subst hk
      obtain ⟨g1, g2, g3⟩ := r_R_im h 1 (by omega)
      rw [f2 (178 + 28 * 1) (by omega), e256, b_sn (by decide)]
      refine ⟨g1, g2, fun hn => ?_⟩
      refine r_I_exts (fun i hi => ?_) (fun i hi => ?_) (r_I_ext (fun c p1 p2 => f2 c (by omega)) (j1 _ (by decide) (by decide)) (g3 hn))
      · unfold w_imS
        rw [e254, b_rgo (by omega)]
      · unfold w_imN
        rw [j255, b_rgo (by omega)]
theorem t_image1 (h : r_R m j) (hD : 10 ≤ D) : w_step X tx D 190 312 [.int (nI 1)] m j w := by
  refine ⟨_, _, _, _, _, s_EM_image1 (by omega), s_Mo_image (by omega) (by decide), ?_⟩
  have f1 : ∀ c, (c < 206 ∨ 206 + 27 < c) → w_imC1 m c = m c := fun c hc => by
    unfold w_imC1
    rw [b_rn (by omega)]
    exact (w_cpS_fr c (by omega)).trans ((w_cpA_fr c (by omega)).trans (w_cpF_fr c (by omega)))
  have f2 : ∀ c, (c < 206 ∨ (233 < c ∧ c ≠ 234 ∧ c ≠ 254 ∧ c ≠ 256) ∨ (178 ≤ c ∧ c ≤ 178 + 27)) → w_imM (w_imC1 m) 1 c = m c := fun c hc => by
    unfold w_imM
    rw [b_rn (by omega), b_rn (by omega), b_rn (by omega)]
    exact f1 c (by omega)
  have f3 : ∀ c, (206 ≤ c ∧ c ≤ 206 + 27) → w_imM (w_imC1 m) 1 c = w_imC1 m c := fun c hc => by
    unfold w_imM
    rw [b_rn (by omega), b_rn (by omega), b_rn (by omega)]
  have e254 : w_imM (w_imC1 m) 1 254 = b_rg (m 254) (533 * 1) 533 fun i => m 236 i := by
    unfold w_imM
    rw [b_rn (by decide), b_rs, f1 254 (by omega), f1 236 (by omega)]
  have e256 : w_imM (w_imC1 m) 1 256 = b_s (m 256) 1 1 := by
    unfold w_imM
    rw [b_rs, f1 256 (by omega)]
  have j1 : ∀ c, c ≠ 207 + 1 → c ≠ 255 → w_imJ (w_cpN j 207 4) 1 c = j c := fun c h1 h2 => by
    unfold w_imJ
    rw [b_rn h2]
    exact w_cpN_fr c (by omega)
  have j255 : w_imJ (w_cpN j 207 4) 1 255 = b_rg (j 255) (30 * 1) 30 fun i => j 239 i := by
    unfold w_imJ
    rw [b_rs, w_cpN_fr 255 (by omega), w_cpN_fr 239 (by omega)]
  have jf : ∀ i, i < 30 → w_imJ (w_cpN j 207 4) 1 (207 + 1) i = j 5 i := fun i hi => by
    unfold w_imJ
    rw [b_rn (by decide)]
    unfold w_cpN
    rw [b_rs, b_rgi (by omega) (by omega)]
    rfl
  have hS := r_R_st h
  refine r_R_imn h (fun c hc => f2 c (by omega)) (fun k hk => ?_) (fun c h1 h2 h3 => j1 c (by omega) h3) (fun k hk => ?_)
  · unfold w_imM
    rw [b_rn (by decide), b_rn (by decide), b_rs, b_sn hk, f1 234 (by omega)]
  · obtain hk | hk : k = 1 ∨ k = 0 := by omega
    · subst hk
      have eflag : w_imM (w_imC1 m) 1 (178 + 28 * 1) 3 = 1 := by
        rw [f3 (178 + 28 * 1) (by omega)]
        unfold w_imC1
        show b_r _ 206 _ 206 3 = 1
        rw [b_rs, b_ss]
      rw [eflag, e256, b_ss]
      refine ⟨rfl, by decide, fun _ => ?_⟩
      have rI : r_I (w_imM (w_imC1 m) 1) (w_imJ (w_cpN j 207 4) 1) 207 (m 236) (j 239) := by
        refine ⟨hS, r_R_dy h, ?_, ?_, ?_, ?_⟩
        · refine c_F_ext (m := w_cpF m 207 4) (fun c p1 p2 => ?_) (fun _ _ => rfl) hS (c_F_cp (by omega) hS (r_R_fa h))
          rw [f3 c (by omega)]
          unfold w_imC1
          rw [b_rn (by omega)]
          exact (w_cpS_fr c (by omega)).trans (w_cpA_fr c (by omega))
        · refine c_A_ext (m := w_cpA (w_cpF m 207 4) 218 26) (fun c p1 p2 => ?_) (c_A_cp (by omega) hS (c_A_ext (fun c p1 p2 => w_cpF_fr c (by omega)) (r_R_af h)))
          rw [f3 c (by omega)]
          unfold w_imC1
          rw [b_rn (by omega)]
          exact w_cpS_fr c (by omega)
        · have g : ∀ c, 207 ≤ c → c ≤ 207 + 10 → w_imM (w_imC1 m) 1 c = w_cpF m 207 4 c := fun c p1 p2 => by
            rw [f3 c (by omega)]
            unfold w_imC1
            rw [b_rn (by omega)]
            exact (w_cpS_fr c (by omega)).trans (w_cpA_fr c (by omega))
          rw [g (207 + 2) (by omega) (by omega), g (207 + 3) (by omega) (by omega), g 207 (by omega) (by omega)]
          have e6 : w_cpF m 207 4 207 6 = m 4 6 := by
            unfold w_cpF
            simp (disch := omega) only [b_rn, b_rs, b_ss, b_sn]
          rw [e6]
          refine r_N_cong hS (fun i hi => ?_) (fun i hi => ?_) jf (fun _ _ => rfl) (r_R_nm h)
          · unfold w_cpF
            simp (disch := omega) only [b_rn, b_rs]
            rw [b_rgi (by omega) (by omega)]
            rfl
          · unfold w_cpF
            simp (disch := omega) only [b_rn, b_rs]
            rw [b_rgi (by omega) (by omega)]
            rfl
        · have g : ∀ c, 230 ≤ c → c ≤ 230 + 3 → w_imM (w_imC1 m) 1 c = w_cpS (w_cpA (w_cpF m 207 4) 218 26) 230 148 c := fun c p1 p2 => by
            rw [f3 c (by omega)]
            unfold w_imC1
            rw [b_rn (by omega)]
          have g2 : ∀ c, 148 ≤ c → c ≤ 151 → w_cpA (w_cpF m 207 4) 218 26 c = m c := fun c p1 p2 => (w_cpA_fr c (by omega)).trans (w_cpF_fr c (by omega))
          rw [g (207 + 23) (by omega) (by omega), g (207 + 24) (by omega) (by omega), g (207 + 25) (by omega) (by omega), g (207 + 26) (by omega) (by omega)]
          generalize hq : w_cpA (w_cpF m 207 4) 218 26 = mq at g2 ⊢
          have e0 : w_cpS mq 230 148 (207 + 23) 0 = m 148 0 := by
            unfold w_cpS
            simp (disch := omega) only [b_rn, b_rs, b_ss, b_sn]
            rw [g2 148 (by omega) (by omega)]
          have e1 : w_cpS mq 230 148 (207 + 23) 1 = m 148 1 := by
            unfold w_cpS
            simp (disch := omega) only [b_rn, b_rs, b_ss, b_sn]
            rw [g2 148 (by omega) (by omega)]
          rw [e0, e1]
          refine r_C_cong (fun i hi => ?_) (fun i hi => ?_) (fun i hi => ?_) (r_R_cl h)
          · unfold w_cpS
            simp (disch := omega) only [b_rn, b_rs]
            rw [b_rgi (by omega) (by omega), g2 149 (by omega) (by omega)]
            rfl
          · unfold w_cpS
            simp (disch := omega) only [b_rn, b_rs]
            rw [b_rgi (by omega) (by omega), g2 150 (by omega) (by omega)]
            rfl
          · unfold w_cpS
            simp (disch := omega) only [b_rn, b_rs]
            rw [b_rgi (by omega) (by omega), g2 151 (by omega) (by omega)]
            rfl
      refine r_I_exts (fun i hi => ?_) (fun i hi => ?_) rI
      · unfold w_imS
        rw [e254, b_rgk hi]
      · unfold w_imN
        rw [j255, b_rgk hi]
    · subst hk
      obtain ⟨g1, g2, g3⟩ := r_R_im h 0 (by omega)
      rw [f2 (178 + 28 * 0) (by omega), e256, b_sn (by decide)]
      refine ⟨g1, g2, fun hn => ?_⟩
      refine r_I_exts (fun i hi => ?_) (fun i hi => ?_) (r_I_ext (fun c p1 p2 => f2 c (by omega)) (j1 _ (by decide) (by decide)) (g3 hn))
      · unfold w_imS
        rw [e254, b_rgo (by omega)]
      · unfold w_imN
        rw [j255, b_rgo (by omega)]
theorem t_image (h : r_R m j) (hD : 10 ≤ D) {k : Nat} (hk : k < 4294967296) : w_step X tx D 190 312 [.int (nI k)] m j w := by
  by_cases c : 2 ≤ k
  · exact ⟨m, j, _, j, _, s_EM_imageN (by omega) hk c, s_Mo_imageN (by omega) hk c, r_R_thr h⟩
  · obtain c | c : k = 0 ∨ k = 1 := by omega
    · subst c; exact t_image0 h hD
    · subst c; exact t_image1 h hD
end S5
