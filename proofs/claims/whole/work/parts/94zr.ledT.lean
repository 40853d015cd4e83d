/-! CALL BY CALL: ledger -/
def x_LG (m j : Nat → Nat → Nat) (w : (Nat × Nat) × Bool) (i1 : Nat) (E : Except (Nat × Nat) ((Nat → Nat × Nat × Nat) × Nat)) (r : A_R) : Prop := match E with
  | .error e => ∃ m2 j2, r = some (b_h m2 j2 w, some (.int (nI 4294967294 - nI e.2))) ∧ (∀ c, c ≠ 0 → c ≠ 1 → c < 156 ∨ 161 < c → m2 c = m c) ∧ (∀ c, c ≠ 1 → j2 c = j c) ∧ m2 0 = b_s (m 0) 14 e.1 ∧ m2 1 2 = 0 ∧ ∀ k, k ≠ 0 → m2 156 k = m 156 k
  | .ok v => ∃ m2 j2, r = some (b_h m2 j2 w, some (.int (nI (if (w_jg v.1 v.2 0 (m 236)).1 = 0 then 4294967295 else (w_jg v.1 v.2 0 (m 236)).2.1)))) ∧ (∀ c, c ≠ 0 → c ≠ 1 → c < 26 ∨ 147 < c → c < 156 ∨ 161 < c → m2 c = m c) ∧ (∀ c, c ≠ 1 → j2 c = j c) ∧ m2 0 = b_s (m 0) 14 0 ∧ m2 1 2 = 0 ∧ m2 156 6 = 1 ∧ m2 156 7 = (w_jg v.1 v.2 0 (m 236)).1 ∧ m2 156 8 = (w_jg v.1 v.2 0 (m 236)).2.1 ∧ m2 156 9 = (w_jg v.1 v.2 0 (m 236)).2.2 157 ∧ m2 156 10 = w_ended (w_jg v.1 v.2 0 (m 236)).2.2 ∧ i_D (w_jg v.1 v.2 0 (m 236)).2.2 ∧ (∀ x, x < 157 ∨ 352 ≤ x → (w_jg v.1 v.2 0 (m 236)).2.2 x = m 236 x) ∧ (if i1 = 1 ∧ (w_jg v.1 v.2 0 (m 236)).2.1 ≠ 0 then c_A m2 26 (w_jg v.1 v.2 0 (m 236)).2.2 ∧ ∃ M2 : Nat → Nat → Nat, (∀ c, (26 ≤ c ∧ c ≤ 37) ∨ (50 ≤ c ∧ c ≤ 147) → M2 c = m c) ∧ ∀ c, 50 ≤ c → c ≤ 147 → m2 c = w_pk M2 c else ∀ c, (26 ≤ c ∧ c ≤ 37) ∨ (50 ≤ c ∧ c ≤ 147) → m2 c = m c)
section LT
variable {X : Nat × (Nat → Int32)} {tx : List Int32} {D d : Nat} {m j : Nat → Nat → Nat} {w : (Nat × Nat) × Bool} {n i1 : Nat} {N : Nat → Nat}
theorem s_EM_ledger (hn : m 1 2 = n) (hX : l_X m j n 400) (hF : c_F m 4 (m 236)) (hA : c_A m 26 (m 236)) (hS : i_S (m 236)) (hI : i_D (m 236)) (hN : r_N (m 6) (m 7) (m 4 6) (j 5) N (m 236)) (hp1 : m 50 1 ≤ 8) (hp2 : m 50 2 < 8) (hi : i1 < 2) (hD : 14 ≤ D) (L0 : Nat → Nat × Nat × Nat) : x_LG m j w i1 (k_lg (m 2) n 400 N (m 236) (n + 1) L0 0 0) (a_ex X tx a_T D 186 [.ref 0, .int (nI i1)] (b_h m j w)) := by
  obtain ⟨d, rfl⟩ : ∃ d, D = d + 1 := ⟨D - 1, by omega⟩
  obtain ⟨m1, j1, e1, e2, e3, e4, e5, e6, e7⟩ := s_Ta_begin (X := X) (tx := tx) (D := d) (m := m) (j := j) (w := w) (by omega) hn hX
  have k236 : m1 236 = m 236 := e4 236 (by decide)
  have s2 := s_Le_read (X := X) (tx := tx) (D := d) (m := m1) (j := j1) (w := w) (b := m 2) (N := N) e2 e3 (Nat.zero_le _) (e4 2 (by decide)) (by rw [k236]; exact hS) (by rw [k236, e4 6 (by decide), e4 7 (by decide), e4 4 (by decide), e5 5 (by decide)]; exact hN) (by omega) L0
  rw [k236] at s2
  have pre : a_ex X tx a_T (d + 1) 186 [.ref 0, .int (nI i1)] (b_h m j w) = a_rn X tx (a_ex X tx a_T d) (a_go X tx (a_ex X tx a_T d) k_EM_ledger_0 a_f1) k_EM_ledger_7 0 [.ref 0, .int (nI i1), .retAddr 0, .retAddr 0] [] (b_h m j w) := by
    rw [e_EM_ledger, q_EM_ledger_0]
    by_cases c : i1 = 0
    · subst c
      rw [if_pos (by decide +kernel)]
    · have c1 : i1 = 1 := by omega
      subst c1
      rw [if_neg (by decide +kernel), if_pos rfl]
  rw [pre, q_EM_ledger_7]
  cases hr : k_lg (m 2) n 400 N (m 236) (n + 1) L0 0 0 with
  | error e =>
    rw [hr] at s2
    obtain ⟨m2, j2, f1, f2, f3, f4⟩ := s2
    have s3 := s_EM_leaveText (X := X) (tx := tx) (D := d) (m := m2) (j := j2) (w := w) (by omega)
    refine ⟨w_lvt m2, j2, ?_, fun c c1 c2 c3 => ?_, fun c c1 => (f2.2.1 c c1).trans (e5 c c1), ?_, ?_, fun k hk => ?_⟩
    · simp (disch := omega) only [e1, f1, s3, f4, ↓bc_0, ↓br_0_0, ↓bc_1, ↓br_0_8, ↓bc_156, ↓br_0_1, ↓bc_4, ↓br_0_4, ↓bc_38, ↓br_0_3, ↓bc_26, ↓br_0_5, ↓bc_50, ↓b_t0, ↓b_t1, ↓b_t2, ↓b_t3, ↓b_t4, ↓b_t5, ↓b_t6, Nat.zero_add, Nat.le_refl, b_rs, b_rn, b_r2, b_ss, b_sn, b_bt, b_bf, b_b0, b_b1, b_bw, b_shl, b_or, b_iv, b_jv, b_sI, b_sJ, ↓z_hl, z_b0, z_b1, z_b2, b_and1c, b_and1z, if_true, if_false, nI_add, pk_mul, b_cl, b_lt, b_le, b_eq, b_eq0, b_le0, b_0lt, b_0le, b_lt0]
      rfl
    · unfold w_lvt
      rw [b_rn c2, b_rn c1, f2.1 c c2 c3, e4 c c2]
    · unfold w_lvt
      rw [b_rn (by decide), b_rs, f3, f2.1 0 (by decide) (by decide), e4 0 (by decide)]
    · unfold w_lvt
      rw [b_rs, b_ss]
    · unfold w_lvt
      rw [b_rn (by decide), b_rn (by decide), f2.2.2 k hk, e4 156 (by decide)]
  | ok v =>
    rw [hr] at s2
    obtain ⟨m2, j2, f1, f2, f3, f4, f5, f6, f7⟩ := s2
    rw [k236] at f5
    have s3 := s_EM_leaveText (X := X) (tx := tx) (D := d) (m := m2) (j := j2) (w := w) (by omega)
    have s3 : a_ex X tx a_T d 193 [.ref 0] (b_h m2 j2 w) = some (b_h (w_lvt m2) j2 w, none) := s3
    have lv : ∀ c, c ≠ 0 → c ≠ 1 → w_lvt m2 c = m2 c := fun c c1 c2 => by unfold w_lvt; rw [b_rn c2, b_rn c1]
    have l0 : w_lvt m2 0 = b_s (m 0) 14 0 := by
      unfold w_lvt
      rw [b_rn (by decide), b_rs, f6, e6, f2.1 0 (by decide) (by decide), e4 0 (by decide)]
    have l1 : w_lvt m2 1 2 = 0 := by
      unfold w_lvt
      rw [b_rs, b_ss]
    generalize w_lvt m2 = M at s3 lv l0 l1
    have Mm : ∀ c, c ≠ 0 → c ≠ 1 → c < 156 ∨ 161 < c → M c = m c := fun c c1 c2 c3 => by rw [lv c c1 c2, f2.1 c c2 c3, e4 c c2]
    have s4 := s_Af_copy (X := X) (tx := tx) (D := d) (m := M) (j := j2) (w := w) (a := 38) (b := 26) b_is38 b_is26 (by omega) (by omega)
    have hAM : c_A M 26 (m 236) := c_A_ext (fun c q1 q2 => Mm c (by omega) (by omega) (by omega)) hA
    have hA38 : c_A (w_cpA M 38 26) 38 (m 236) := c_A_cp (by omega) hS hAM
    have cp : ∀ c, c < 38 ∨ 49 < c → w_cpA M 38 26 c = M c := fun c hc => w_cpA_fr c (by omega)
    generalize w_cpA M 38 26 = MC at s4 hA38 cp
    have hF2 : c_F MC 4 (m 236) := c_F_ext (fun c q1 q2 => by rw [cp c (by omega), Mm c (by omega) (by omega) (by omega)]) (fun _ _ => rfl) hS hF
    have c156 : ∀ c, 156 ≤ c → c ≤ 161 → MC c = m2 c := fun c h1 h2 => by rw [cp c (by omega), lv c (by omega) (by omega)]
    obtain ⟨t1, t2, t3, t4, t5, t6, t7⟩ := w_jg_ok v.2 0 (m 236) hS hI (fun x _ hx => (f5 x (by omega)).2)
    obtain ⟨m3, g1, g2, g3, g4, g5, g6, g7, g8⟩ := s_Le_judge (X := X) (tx := tx) (D := d) (m := MC) (j := j2) (w := w) (s := m 236) (L := v.1) (n := v.2) hF2 hA38 hS hI (by rw [c156 156 (by omega) (by omega)]; exact f3) f4 (fun i hi => by
      refine ⟨?_, (f5 i hi).2⟩
      unfold x_ln
      rw [c156 157 (by omega) (by omega), c156 158 (by omega) (by omega), c156 159 (by omega) (by omega), c156 160 (by omega) (by omega), c156 161 (by omega) (by omega)]
      exact (f5 i hi).1) (by omega)
    unfold x_LG
    dsimp only
    generalize w_jg v.1 v.2 0 (m 236) = R at t1 t2 t3 t4 t5 t6 t7 g1 g3 g5 g6 g7 g8 ⊢
    have m3m : ∀ c, c ≠ 0 → c ≠ 1 → c < 38 ∨ 49 < c → c < 156 ∨ 161 < c → m3 c = m c := fun c h1 h2 h3 h4 => by rw [g2 c h3 (by omega), cp c h3, Mm c h1 h2 h4]
    have m30 : m3 0 = b_s (m 0) 14 0 := by rw [g2 0 (by decide) (by decide), cp 0 (by decide)]; exact l0
    have m31 : m3 1 2 = 0 := by rw [g2 1 (by decide) (by decide), cp 1 (by decide)]; exact l1
    have jj : ∀ c, c ≠ 1 → j2 c = j c := fun c c1 => (f2.2.1 c c1).trans (e5 c c1)
    by_cases c : i1 = 1 ∧ R.2.1 ≠ 0
    · have c50 : m3 50 = m 50 := m3m 50 (by decide) (by decide) (by decide) (by decide)
      have hx3 : m3 50 2 < 8 := by rw [c50]; exact hp2
      have s5 := s_Pa_keep (X := X) (tx := tx) (D := d) (m := m3) (j := j2) (w := w) hx3 (by rw [c50]; exact hp1) (by omega)
      have s6 := s_Af_copy (X := X) (tx := tx) (D := d) (m := w_pk m3) (j := j2) (w := w) (a := 26) (b := 38) b_is26 b_is38 (by omega) (by omega)
      have hA5 : c_A (w_pk m3) 38 R.2.2 := c_A_ext (fun c q1 q2 => w_pk_same hx3 (by omega)) g3
      have hA6 : c_A (w_cpA (w_pk m3) 26 38) 26 R.2.2 := c_A_cp (by omega) t1 hA5
      have fr : ∀ c, c < 26 ∨ 37 < c → w_cpA (w_pk m3) 26 38 c = w_pk m3 c := fun c hc => w_cpA_fr c (by omega)
      have fr2 : ∀ c, c < 26 ∨ 147 < c → w_cpA (w_pk m3) 26 38 c = m3 c := fun c hc => by rw [fr c (by omega), w_pk_same hx3 (by omega)]
      generalize w_cpA (w_pk m3) 26 38 = m4 at s6 hA6 fr fr2
      have f156 : m4 156 = m3 156 := fr2 156 (by decide)
      refine ⟨m4, j2, ?_, fun c h1 h2 h3 h4 => by rw [fr2 c h3, m3m c h1 h2 (by omega) h4], jj, by rw [fr2 0 (by decide)]; exact m30, by rw [fr2 1 (by decide)]; exact m31, by rw [f156]; exact g4, by rw [f156]; exact g5, by rw [f156]; exact g6, by rw [f156]; exact g7, by rw [f156]; exact g8, t2, t3, ?_⟩
      · obtain ⟨rfl, c2⟩ := c
        simp (disch := omega) only [e1, f1, s3, s4, g1, g6, s5, s6, Nat.one_ne_zero, ↓bc_0, ↓br_0_0, ↓bc_1, ↓br_0_8, ↓bc_156, ↓br_0_1, ↓bc_4, ↓br_0_4, ↓bc_38, ↓br_0_3, ↓bc_26, ↓br_0_5, ↓bc_50, ↓b_t0, ↓b_t1, ↓b_t2, ↓b_t3, ↓b_t4, ↓b_t5, ↓b_t6, Nat.zero_add, Nat.le_refl, b_rs, b_rn, b_r2, b_ss, b_sn, b_bt, b_bf, b_b0, b_b1, b_bw, b_shl, b_or, b_iv, b_jv, b_sI, b_sJ, ↓z_hl, z_b0, z_b1, z_b2, b_and1c, b_and1z, if_true, if_false, nI_add, pk_mul, b_cl, b_lt, b_le, b_eq, b_eq0, b_le0, b_0lt, b_0le, b_lt0]
        rw [if_neg c2]
      · rw [if_pos c]
        exact ⟨hA6, m3, fun c hc => m3m c (by omega) (by omega) (by omega) (by omega), fun c h1 h2 => fr c (by omega)⟩
    · refine ⟨m3, j2, ?_, fun c h1 h2 h3 h4 => m3m c h1 h2 (by omega) h4, jj, m30, m31, g4, g5, g6, g7, g8, t2, t3, ?_⟩
      · by_cases c1 : i1 = 1
        · subst c1
          have c2 : R.2.1 = 0 := Classical.byContradiction fun x => c ⟨rfl, x⟩
          rw [c2] at g6
          simp (disch := omega) only [e1, f1, s3, s4, g1, g6, Nat.one_ne_zero, ↓bc_0, ↓br_0_0, ↓bc_1, ↓br_0_8, ↓bc_156, ↓br_0_1, ↓bc_4, ↓br_0_4, ↓bc_38, ↓br_0_3, ↓bc_26, ↓br_0_5, ↓bc_50, ↓b_t0, ↓b_t1, ↓b_t2, ↓b_t3, ↓b_t4, ↓b_t5, ↓b_t6, Nat.zero_add, Nat.le_refl, b_rs, b_rn, b_r2, b_ss, b_sn, b_bt, b_bf, b_b0, b_b1, b_bw, b_shl, b_or, b_iv, b_jv, b_sI, b_sJ, ↓z_hl, z_b0, z_b1, z_b2, b_and1c, b_and1z, if_true, if_false, nI_add, pk_mul, b_cl, b_lt, b_le, b_eq, b_eq0, b_le0, b_0lt, b_0le, b_lt0]
        · have c0 : i1 = 0 := by omega
          subst c0
          simp (disch := omega) only [e1, f1, s3, s4, g1, Nat.one_ne_zero, Nat.zero_ne_one, ↓bc_0, ↓br_0_0, ↓bc_1, ↓br_0_8, ↓bc_156, ↓br_0_1, ↓bc_4, ↓br_0_4, ↓bc_38, ↓br_0_3, ↓bc_26, ↓br_0_5, ↓bc_50, ↓b_t0, ↓b_t1, ↓b_t2, ↓b_t3, ↓b_t4, ↓b_t5, ↓b_t6, Nat.zero_add, Nat.le_refl, b_rs, b_rn, b_r2, b_ss, b_sn, b_bt, b_bf, b_b0, b_b1, b_bw, b_shl, b_or, b_iv, b_jv, b_sI, b_sJ, ↓z_hl, z_b0, z_b1, z_b2, b_and1c, b_and1z, if_true, if_false, nI_add, pk_mul, b_cl, b_lt, b_le, b_eq, b_eq0, b_le0, b_0lt, b_0le, b_lt0]
      · rw [if_neg c]
        exact fun c hc => m3m c (by omega) (by omega) (by omega) (by omega)
/-- what a ledger may change -/
theorem r_R_led {m3 j2 : Nat → Nat → Nat} (h : r_R m j) (hm : ∀ c, (4 ≤ c ∧ c ≤ 14) ∨ (148 ≤ c ∧ c ≤ 151) ∨ c = 163 ∨ c = 171 ∨ (178 ≤ c ∧ c ≤ 233) ∨ c = 244 ∨ c = 247 ∨ c = 254 ∨ c = 256 → m3 c = m c) (h0 : ∀ k, k = 15 ∨ k = 16 → m3 0 k = m 0 k) (h162 : m3 162 3 = m 162 3) (h167 : m3 167 7 = m 167 7) (h234 : ∀ k, k = 26 ∨ (30 ≤ k ∧ k ≤ 36) → m3 234 k = m 234 k) (hj : ∀ c, c = 3 ∨ c = 5 ∨ c = 180 ∨ c = 208 ∨ c = 239 ∨ c = 240 ∨ c = 255 → j2 c = j c) (hs : ∀ i, i < 157 ∨ 352 ≤ i → m3 236 i = m 236 i) (hI : i_D (m3 236)) (hA : c_A m3 26 (m3 236)) (hT : r_TT m3) (hf : m3 0 14 = m3 234 15) (hP : r_P m3 (m3 236) (m3 241) (m3 234 23)) (hto : m3 156 6 = m3 234 43 ∧ m3 234 43 < 2 ∧ (m3 234 43 ≠ 0 → ∀ k, k < 4 → m3 156 (7 + k) = m3 251 k)) : r_R m3 j2 := by
  have hS := r_R_st h
  refine ⟨i_S_ext (fun i hi => hs i (by omega)) hS, hI, c_F_ext (fun c p1 p2 => hm c (by omega)) (fun i hi => hs i (by omega)) hS (r_R_fa h), hA, hT, hf, ?_, hP, ?_, hto, ?_, ?_, ?_, ?_, ?_, ?_, ?_⟩
  · rw [hm 6 (by omega), hm 7 (by omega), hm 4 (by omega), hj 5 (by omega), hj 239 (by omega)]; exact r_N_s (fun i hi => hs i (by omega)) (r_R_nm h)
  · rw [hm 148 (by omega), hm 149 (by omega), hm 150 (by omega), hm 151 (by omega)]; exact r_C_s (fun i hi => hs i (by omega)) (r_R_cl h)
  · rw [h162, h234 26 (by omega), hm 163 (by omega), hm 244 (by omega)]; exact r_R_ro h
  · rw [h234 30 (by omega), hm 171 (by omega), hm 247 (by omega)]; exact r_R_sr h
  · rw [h234 32 (by omega), h234 31 (by omega), h167]; exact r_R_tr h
  · rw [h234 34 (by omega), h234 33 (by omega), h0 15 (by omega)]; exact r_R_sk h
  · rw [h234 36 (by omega), h234 35 (by omega), h0 16 (by omega)]; exact r_R_rd h
  · intro k hk
    rw [hj 3 (by omega), hj 240 (by omega)]
    exact r_R_wd h k hk
  · intro k hk
    obtain ⟨g1, g2, g3⟩ := r_R_im h k hk
    rw [hm (178 + 28 * k) (by omega), hm 256 (by omega)]
    refine ⟨g1, g2, fun hn => ?_⟩
    have e1 : w_imS m3 k = w_imS m k := by unfold w_imS; rw [hm 254 (by omega)]
    have e2 : w_imN j2 k = w_imN j k := by unfold w_imN; rw [hj 255 (by omega)]
    rw [e1, e2]
    exact r_I_ext (fun c p1 p2 => hm c (by omega)) (hj _ (by omega)) (g3 hn)
theorem t_ledger (h : r_R m j) (hD : 14 ≤ D) (hi : i1 < 4294967296) : w_step X tx D 186 300 [.int (nI i1)] m j w := by
  have hS := r_R_st h
  have hI := r_R_dy h
  obtain ⟨t1, t2, t3⟩ := r_R_tp h
  obtain ⟨p1, p2, p3, p4⟩ := r_R_pa h
  by_cases ci : i1 < 2
  · have hX : l_X m j (m 1 2) 400 := ⟨t2, by decide, fun x hx => (t3 x hx).1, fun k hk => (r_R_wd h k hk).1⟩
    have s1 := s_EM_ledger (X := X) (tx := tx) (D := D) (w := w) (N := j 239) (i1 := i1) rfl hX (r_R_fa h) (r_R_af h) hS hI (r_R_nm h) (by omega) p3 ci (by omega) (fun _ => (0, 0, 0))
    have hnb : z_nb (j 239) (m 236) := r_N_b (r_R_nm h)
    have sM : ∀ {m1 j1 : Nat → Nat → Nat}, (∀ c, c = 234 ∨ c = 235 ∨ c = 236 → m1 c = m c) → (∀ c, c = 239 ∨ c = 240 → j1 c = j c) → y_LG m1 j1 w i1 (k_lg (m 2) (m 1 2) 400 (j 239) (m 236) (m 1 2 + 1) (fun _ => (0, 0, 0)) 0 0) (a_ex X tx a_T D 300 [.ref 234, .int (nI i1)] (b_h m1 j1 w)) := fun {m1 j1} g1 g2 => by
      have k236 : m1 236 = m 236 := g1 236 (by omega)
      have := s_Mo_ledger (X := X) (tx := tx) (D := D) (m := m1) (j := j1) (w := w) (b := m 2) (n := m 1 2) (i1 := i1) (by rw [g1 234 (by omega)]; exact t1) t2 (fun x hx => by rw [g1 235 (by omega)]; exact (t3 x hx).2) (fun k hk => by rw [g2 240 (by omega)]; exact (r_R_wd h k hk).2) (by rw [k236]; exact hS) (by rw [k236]; exact hI) (by rw [k236, g2 239 (by omega)]; exact hnb) (by rw [g1 234 (by omega)]; exact p1) ci (by omega) (fun _ => (0, 0, 0))
      rw [k236, g2 239 (by omega)] at this
      exact this
    cases hr : k_lg (m 2) (m 1 2) 400 (j 239) (m 236) (m 1 2 + 1) (fun _ => (0, 0, 0)) 0 0 with
    | error e =>
      rw [hr] at s1
      obtain ⟨m1, j1, e1, e2, e3, e4, e5, e6⟩ := s1
      have s2 := sM (m1 := m1) (j1 := j1) (fun c hc => e2 c (by omega) (by omega) (by omega)) (fun c hc => e3 c (by omega))
      rw [hr] at s2
      obtain ⟨m2, j2, f1, f2, f3, f4, f5, f6⟩ := s2
      have fc : ∀ c, c ≠ 0 → c ≠ 1 → c < 156 ∨ 161 < c → c ≠ 234 → c ≠ 238 → m2 c = m c := fun c c1 c2 c3 c4 c5 => by rw [f4 c c4 c5, e2 c c1 c2 c3]
      have fk : ∀ k, 18 < k → k ≠ 41 → m2 234 k = m 234 k := fun k h1 h2 => by rw [f6 k h1 h2, e2 234 (by decide) (by decide) (by decide)]
      have m20 : m2 0 = b_s (m 0) 14 e.1 := by rw [f4 0 (by decide) (by decide)]; exact e4
      have m156 : ∀ k, k ≠ 0 → m2 156 k = m 156 k := fun k hk => by rw [f4 156 (by decide) (by decide)]; exact e6 k hk
      refine ⟨m1, j1, m2, j2, _, e1, f1, ?_⟩
      refine r_R_j (j := j) (r_R_txt h ⟨fun c hc => fc c (by omega) (by omega) (by omega) (by omega) (by omega), fun k hk => by rw [m20, b_sn (by omega)], fun k hk => m156 k (by omega), by rw [fc 162 (by decide) (by decide) (by decide) (by decide) (by decide)], by rw [fc 167 (by decide) (by decide) (by decide) (by decide) (by decide)], fun k hk => fk k (by omega) (by omega)⟩ ?_ ?_) (fun c hc => ?_) (fun x hx => ?_)
      · unfold r_TT
        have a1 : m2 1 2 = 0 := by rw [f4 1 (by decide) (by decide)]; exact e5
        rw [a1, f3]
        exact ⟨rfl, Nat.zero_le _, fun i hi => absurd hi (Nat.not_lt_zero i)⟩
      · rw [m20, b_ss, f2]
      · rw [f5 c (by omega), e3 c (by omega)]
      · rw [f5 239 (by decide), e3 239 (by decide)]
    | ok v =>
      rw [hr] at s1
      obtain ⟨m1, j1, e1, e2, e3, e4, e5, e6, e7, e8, e9, e10, e11, e12, e13⟩ := s1
      have k236 : m1 236 = m 236 := e2 236 (by decide) (by decide) (by decide) (by decide)
      have s2 := sM (m1 := m1) (j1 := j1) (fun c hc => e2 c (by omega) (by omega) (by omega) (by omega)) (fun c hc => e3 c (by omega))
      rw [hr] at s2
      obtain ⟨m2, j2, f1, f2, f3, f4, f5, f6, f7, f8, f9, f10, f11, f12⟩ := s2
      rw [k236] at f1 f8 f9 f10 f11 f12
      have k234 : m1 234 = m 234 := e2 234 (by decide) (by decide) (by decide) (by decide)
      have k241 : m1 241 = m 241 := e2 241 (by decide) (by decide) (by decide) (by decide)
      rw [k234, k241] at f12
      have fc : ∀ c, c ≠ 0 → c ≠ 1 → c < 26 ∨ 147 < c → c < 156 ∨ 161 < c → c ≠ 234 → c ≠ 236 → c ≠ 238 → c ≠ 241 → c ≠ 242 → c ≠ 251 → m2 c = m c := fun c c1 c2 c3 c4 c5 c6 c7 c8 c9 c10 => by rw [f4 c c5 c6 c7 c8 c9 c10, e2 c c1 c2 c3 c4]
      have fl : ∀ c, c < 234 → m2 c = m1 c := fun c hc => f4 c (by omega) (by omega) (by omega) (by omega) (by omega) (by omega)
      refine ⟨m1, j1, m2, j2, _, e1, f1, ?_⟩
      have key : (∀ i, i < 157 ∨ 352 ≤ i → m2 236 i = m 236 i) ∧ i_D (m2 236) ∧ c_A m2 26 (m2 236) ∧ r_P m2 (m2 236) (m2 241) (m2 234 23) := by
        by_cases c : i1 = 1 ∧ (w_jg v.1 v.2 0 (m 236)).2.1 ≠ 0
        · rw [if_pos c] at e13 f12
          obtain ⟨a1, M2, a2, a3⟩ := e13
          obtain ⟨b1, b2, b3⟩ := f12
          rw [b1, b2, b3]
          refine ⟨e12, e11, c_A_ext (fun c q1 q2 => fl c (by omega)) a1, ?_⟩
          exact r_P_ext (fun c q1 q2 => by rw [fl c (by omega)]; exact a3 c q1 q2) e12 (r_P_keep hS hI (c_A_ext (fun c q1 q2 => a2 c (by omega)) (r_R_af h)) (r_P_ext (fun c q1 q2 => a2 c (by omega)) (fun _ _ => rfl) (r_R_pa h)))
        · rw [if_neg c] at e13 f12
          obtain ⟨b1, b2, b3⟩ := f12
          rw [b1, b2, b3]
          refine ⟨fun _ _ => rfl, hI, c_A_ext (fun c q1 q2 => by rw [fl c (by omega)]; exact e13 c (by omega)) (r_R_af h), ?_⟩
          exact r_P_ext (fun c q1 q2 => by rw [fl c (by omega)]; exact e13 c (by omega)) (fun _ _ => rfl) (r_R_pa h)
      obtain ⟨y1, y2, y3, y4⟩ := key
      have m20 : m2 0 = b_s (m 0) 14 0 := by rw [fl 0 (by decide)]; exact e4
      have m156 : m2 156 = m1 156 := fl 156 (by decide)
      refine r_R_led h (fun c hc => fc c (by omega) (by omega) (by omega) (by omega) (by omega) (by omega) (by omega) (by omega) (by omega) (by omega)) (fun k hk => by rw [m20, b_sn (by omega)]) (by rw [fc 162 (by decide) (by decide) (by decide) (by decide) (by decide) (by decide) (by decide) (by decide) (by decide) (by decide)]) (by rw [fc 167 (by decide) (by decide) (by decide) (by decide) (by decide) (by decide) (by decide) (by decide) (by decide) (by decide)]) (fun k hk => by rw [f6 k (by omega) (by omega) (by omega) (by omega), k234]) (fun c hc => by rw [f5 c (by omega), e3 c (by omega)]) y1 y2 y3 ?_ ?_ y4 ⟨by rw [m156, e6, f7], by rw [f7]; decide, fun _ k hk => ?_⟩
      · unfold r_TT
        have a1 : m2 1 2 = 0 := by rw [fl 1 (by decide)]; exact e5
        rw [a1, f3]
        exact ⟨rfl, Nat.zero_le _, fun i hi => absurd hi (Nat.not_lt_zero i)⟩
      · rw [m20, b_ss, f2]
      · rw [m156]
        obtain q | q | q | q : k = 0 ∨ k = 1 ∨ k = 2 ∨ k = 3 := by omega
        · rw [q, f8]; exact e7
        · rw [q, f9]; exact e8
        · rw [q, f10]; exact e9
        · rw [q, f11]; exact e10
  · refine ⟨m, j, b_r m 234 (b_s (m 234) 0 0), j, nI 4294966296, ?_, ?_, r_R_thr h⟩
    · obtain ⟨d, rfl⟩ : ∃ d, D = d + 1 := ⟨D - 1, by omega⟩
      rw [e_EM_ledger, q_EM_ledger_0]
      simp (disch := omega) only [↓bc_0, ↓br_0_0, ↓bc_1, ↓br_0_8, ↓bc_156, ↓br_0_1, ↓bc_4, ↓br_0_4, ↓bc_38, ↓br_0_3, ↓bc_26, ↓br_0_5, ↓bc_50, ↓b_t0, ↓b_t1, ↓b_t2, ↓b_t3, ↓b_t4, ↓b_t5, ↓b_t6, Nat.zero_add, Nat.le_refl, b_rs, b_rn, b_r2, b_ss, b_sn, b_bt, b_bf, b_b0, b_b1, b_bw, b_shl, b_or, b_iv, b_jv, b_sI, b_sJ, ↓z_hl, z_b0, z_b1, z_b2, b_and1c, b_and1z, if_true, if_false, nI_add, pk_mul, b_cl, b_lt, b_le, b_eq, b_eq0, b_le0, b_0lt, b_0le, b_lt0]
      rw [if_neg (by omega), if_neg (by omega)]
    · obtain ⟨d, rfl⟩ : ∃ d, D = d + 1 := ⟨D - 1, by omega⟩
      have s4 := s_Mo_isIn (X := X) (tx := tx) (D := d) (m := b_r m 234 (b_s (m 234) 0 0)) (j := j) (w := w) (by omega) (n := i1) (lo := 0) (hi := 1) hi (by decide) (by decide)
      rw [decide_eq_false (by omega)] at s4
      rw [e_Mo_ledger, q_Mo_ledger_0]
      simp (disch := omega) only [s4, ↓bc_234, ↓br_234_42, ↓bc_251, ↓bx_251, bl_251, ↓br_234_8, ↓bc_238, ↓bx_238, bl_238, ↓br_234_6, ↓bc_236, ↓bx_236, bl_236, ↓br_234_21, ↓bc_241, ↓bx_241, bl_241, ↓br_234_22, ↓bc_242, ↓bx_242, bl_242, ↓b_t0, ↓b_t1, ↓b_t2, ↓b_t3, ↓b_t4, ↓b_t5, ↓b_t6, Nat.zero_add, Nat.le_refl, b_rs, b_rn, b_r2, b_ss, b_sn, b_bt, b_bf, b_b0, b_b1, b_bw, b_shl, b_or, b_iv, b_jv, b_sI, b_sJ, ↓z_hl, z_b0, z_b1, z_b2, b_and1c, b_and1z, if_true, if_false, nI_add, pk_mul, b_cl, b_lt, b_le, b_eq, b_eq0, b_le0, b_0lt, b_0le, b_lt0]
end LT
