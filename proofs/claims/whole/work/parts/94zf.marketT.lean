/-! CALL BY CALL: market -/
theorem r_R_j {m j j2 : Nat → Nat → Nat} (h : r_R m j) (hj : ∀ c, c = 3 ∨ c = 5 ∨ c = 180 ∨ c = 208 ∨ c = 240 ∨ c = 255 → j2 c = j c) (h9 : ∀ x, x < 30 → j2 239 x = j 239 x) : r_R m j2 := by
  refine ⟨r_R_st h, r_R_dy h, r_R_fa h, r_R_af h, r_R_tp h, r_R_ft h, ?_, r_R_pa h, r_R_cl h, r_R_to h, r_R_ro h, r_R_sr h, r_R_tr h, r_R_sk h, r_R_rd h, fun k hk => ?_, fun k hk => ?_⟩
  · rw [hj 5 (by omega)]
    exact r_N_N (r_R_st h) h9 (r_R_nm h)
  · rw [hj 3 (by omega), hj 240 (by omega)]
    exact r_R_wd h k hk
  · obtain ⟨g1, g2, g3⟩ := r_R_im h k hk
    refine ⟨g1, g2, fun hn => ?_⟩
    have e2 : w_imN j2 k = w_imN j k := by unfold w_imN; rw [hj 255 (by omega)]
    rw [e2]
    exact r_I_ext (fun c p1 p2 => rfl) (hj _ (by omega)) (g3 hn)
/-- the new state -/
def w_S (s t : Nat → Nat) : Nat → Nat := w_k4 (w_k3 (w_k2 (w_k1 s t)))
theorem w_S_v {s t : Nat → Nat} : (∀ k, k < 157 → w_S s t k = t k) ∧ (∀ i, i < 6 → w_S s t (159 + i) = t (5 + i)) ∧ (∀ i, i < 48 → w_S s t (177 + i) = t (19 + i)) ∧ (∀ e, e < 10 → w_S s t (241 + e) = t (67 + e)) ∧ (∀ e, e < 10 → w_S s t (251 + e) = t (77 + e)) ∧ ∀ k, k = 157 ∨ k = 158 ∨ (165 ≤ k ∧ k < 177) ∨ (225 ≤ k ∧ k < 241) ∨ (261 ≤ k ∧ k < 533) → w_S s t k = 0 := by
  have k1 : ∀ k, k < 533 → w_k1 s t k = if k < 157 then t k else 0 := fun k hk => by
    unfold w_k1
    rw [b_rgi (by omega) (by omega), Nat.sub_zero]
  unfold w_S w_k4 w_k3 w_k2
  refine ⟨fun k hk => ?_, fun k hk => ?_, fun k hk => ?_, fun k hk => ?_, fun k hk => ?_, fun k hk => ?_⟩
  · rw [b_rgo (by omega), b_rgo (by omega), b_rgo (by omega), b_rgo (by omega), k1 k (by omega), if_pos hk]
  · rw [b_rgo (by omega), b_rgo (by omega), b_rgo (by omega), b_rgk hk, k1 _ (by omega), if_pos (by omega)]
  · rw [b_rgo (by omega), b_rgo (by omega), b_rgk hk, b_rgo (by omega), k1 _ (by omega), if_pos (by omega)]
  · rw [b_rgo (by omega), b_rgk hk, b_rgo (by omega), b_rgo (by omega), k1 _ (by omega), if_pos (by omega)]
  · rw [b_rgk hk, b_rgo (by omega), b_rgo (by omega), k1 _ (by omega), if_pos (by omega)]
  · rw [b_rgo (by omega), b_rgo (by omega), b_rgo (by omega), b_rgo (by omega), k1 k (by omega), if_neg (by omega)]
theorem z_sum_0 {g : Nat → Nat} : ∀ n, (∀ i, i < n → g i = 0) → z_sum g n = 0
  | 0, _ => rfl
  | n + 1, h => by
    show z_sum g n + g n = 0
    rw [z_sum_0 n (fun i hi => h i (by omega)), h n (by omega)]
/-- a new market's first day -/
theorem i_D_new {s : Nat → Nat} (hS : i_S s) (a1 : ∀ i, i < 6 → s (159 + i) = s (5 + i)) (a2 : ∀ i, i < 48 → s (177 + i) = s (19 + i)) (a3 : ∀ e, e < 10 → s (241 + e) = s (67 + e)) (a4 : ∀ e, e < 10 → s (251 + e) = s (77 + e)) (a5 : ∀ k, k = 157 ∨ k = 158 ∨ (165 ≤ k ∧ k < 177) ∨ (225 ≤ k ∧ k < 241) ∨ (261 ≤ k ∧ k < 533) → s k = 0) : i_D s := by
  have hT := i_S_T hS
  have hE := i_S_E hS
  have hM := i_S_M hS
  have hK := i_S_K hS
  have b1 : ∀ t, t < 8 → ∀ k, k < 6 → s (177 + 6 * t + k) = s (19 + 6 * t + k) := fun t ht k hk => by
    have := a2 (6 * t + k) (by omega)
    rw [show 177 + 6 * t + k = 177 + (6 * t + k) by omega, show 19 + 6 * t + k = 19 + (6 * t + k) by omega]
    exact this
  have hh : ∀ e, e < s 3 → s (241 + e) < s 1 := fun e he => by rw [a3 e (by omega)]; exact i_S_ht hS e he
  have h281 : s 281 = 0 := a5 281 (by omega)
  refine ⟨by rw [a5 157 (by omega)]; exact Nat.zero_le _, ?_, fun i hi h6 => by rw [a1 i h6]; exact i_S_cz hS i hi h6, fun t ht k hk => by rw [b1 t ht k hk]; have := i_S_ot hS t ht k hk; omega, fun t ht k h4 hk => by rw [b1 t ht k hk]; exact i_S_otk hS t ht k h4 hk, fun t h4 ht k hk => by rw [b1 t ht k hk]; exact i_S_ott hS t h4 ht k hk, fun e he => Or.inr (hh e he), fun e he => by rw [a4 e he]; exact i_S_pt hS e he, fun e he => by rw [a5 (261 + e) (by omega)]; exact Nat.zero_le _, fun e he => ?_, fun e he hx => ?_, by rw [h281]; decide, fun e hx => ?_, fun e he hx => ?_, fun e he k hk => by rw [a5 (292 + 6 * e + k) (by omega)]; exact Nat.zero_le _, fun e he k h4 hk => a5 _ (by omega), fun t ht => ?_, fun t ht => ?_, ?_⟩
  · rw [z_sum_congr _ (fun i hi => a1 i hi)]
    have := z_sum_le (g := fun i => s (5 + i)) (b := 999) 6 (fun i hi => i_S_ct hS i hi)
    omega
  · have := hh e he
    rw [a5 (261 + e) (by omega)]
    exact ⟨fun _ => by omega, fun _ => rfl⟩
  · have := hh e he
    omega
  · rw [h281, Nat.zero_testBit] at hx
    exact absurd hx (by decide)
  · have := hh e he
    intro _ _
    omega
  · rw [a5 (225 + t) (by omega)]
    refine (z_sum_0 _ (fun e he => ?_)).symm
    rw [a5 (261 + e) (by omega), if_neg (by omega)]
  · rw [a5 (233 + t) (by omega)]
    refine (z_sum_0 _ (fun e he => ?_)).symm
    rw [a5 (261 + e) (by omega), if_neg (by omega)]
  · rw [a5 158 (by omega)]
    refine (z_sum_0 _ (fun e he => ?_)).symm
    rw [h281, Nat.zero_testBit]
    rfl
section MT
variable {X : Nat × (Nat → Int32)} {tx : List Int32} {D : Nat} {m j : Nat → Nat → Nat} {w : (Nat × Nat) × Bool}
theorem w_mb_k {k : Nat} (h0 : k ≠ 0) (h2 : k ≠ 2) (h3 : k ≠ 3) (h4 : k ≠ 4) (h5 : k ≠ 5) (h15 : k ≠ 15) (h19 : k ≠ 19) (h20 : k ≠ 20) : w_mb m 234 k = m 234 k := by
  unfold w_mb w_tk
  rw [b_rs, b_sn h20, b_sn h19, b_sn h15, b_rs, b_sn h5, b_sn h4, b_sn h2, b_sn h3, b_sn h0]
theorem w_mb_2 : w_mb m 234 2 = 0 := by
  unfold w_mb w_tk
  rw [b_rs, b_sn (by decide), b_sn (by decide), b_sn (by decide), b_rs, b_sn (by decide), b_sn (by decide), b_ss]
theorem w_mb_15 : w_mb m 234 15 = 0 := by
  unfold w_mb
  rw [b_rs, b_sn (by decide), b_sn (by decide), b_ss]
theorem t_market (h : r_R m j) (hD : 14 ≤ D) : w_step X tx D 154 225 [] m j w := by
  have hS := r_R_st h
  obtain ⟨t1, t2, t3⟩ := r_R_tp h
  have hX : l_X m j (m 1 2) 900 := ⟨t2, by decide, fun x hx => (t3 x hx).1, fun k hk => (r_R_wd h k hk).1⟩
  have s1 := s_EM_market (X := X) (tx := tx) (D := D) (w := w) (N := fun x => j 239 (30 + x)) rfl hX (by omega)
  have sM : ∀ {m1 j1 : Nat → Nat → Nat}, (∀ c, c = 234 ∨ c = 235 → m1 c = m c) → (∀ c, c = 239 ∨ c = 240 → j1 c = j c) → y_M (w_mb m1) j1 w (k_mk (m 2) (m 1 2) 900 (m 1 2 + 1) (b_s (fun _ => 0) 4 1) (fun x => j 239 (30 + x)) 0 0 0) (a_ex X tx a_T D 225 [.ref 234] (b_h m1 j1 w)) := fun {m1 j1} g1 g2 => by
    have := s_Mo_market (X := X) (tx := tx) (D := D) (m := m1) (j := j1) (w := w) (b := m 2) (n := m 1 2) (by rw [g1 234 (by omega)]; exact t1) t2 (fun x hx => by rw [g1 235 (by omega)]; exact (t3 x hx).2) (fun k hk => by rw [g2 240 (by omega)]; exact (r_R_wd h k hk).2) (by omega)
    rw [g2 239 (by omega)] at this
    exact this
  cases hr : k_mk (m 2) (m 1 2) 900 (m 1 2 + 1) (b_s (fun _ => 0) 4 1) (fun x => j 239 (30 + x)) 0 0 0 with
  | error e =>
    rw [hr] at s1
    obtain ⟨m1, j1, e1, e2, e3, e4, e5⟩ := s1
    have s2 := sM (m1 := m1) (j1 := j1) (fun c hc => e2 c (by omega) (by omega) (by omega)) (fun c hc => e3 c (by omega) (by omega))
    rw [hr] at s2
    obtain ⟨m2, j2, f1, f2, f3, f4, f5, f6⟩ := s2
    have fc : ∀ c, c ≠ 0 → c ≠ 1 → c < 15 ∨ 25 < c → c ≠ 234 → c ≠ 237 → m2 c = m c := fun c c1 c2 c3 c4 c5 => by rw [f4 c c4 c5, w_mb_c c4, e2 c c1 c2 c3]
    have fk : ∀ k, k ≠ 0 → k ≠ 2 → k ≠ 3 → k ≠ 4 → k ≠ 5 → (k < 11 ∨ 20 < k) → m2 234 k = m 234 k := fun k k0 k2 k3 k4 k5 k6 => by
      rw [f6 k (by omega) (by omega) (by omega) (by omega) (by omega) (by omega) (by omega) (by omega) (by omega) (by omega), w_mb_k k0 k2 k3 k4 k5 (by omega) (by omega) (by omega), e2 234 (by decide) (by decide) (by decide)]
    have m20 : m2 0 = b_s (m 0) 14 e.1 := by rw [f4 0 (by decide) (by decide), w_mb_c (by decide)]; exact e4
    refine ⟨m1, j1, m2, j2, _, e1, f1, ?_⟩
    refine r_R_j (j := j) (r_R_txt h ⟨fun c hc => fc c (by omega) (by omega) (by omega) (by omega) (by omega), fun k hk => by rw [m20, b_sn (by omega)], fun k hk => by rw [fc 156 (by decide) (by decide) (by decide) (by decide) (by decide)], by rw [fc 162 (by decide) (by decide) (by decide) (by decide) (by decide)], by rw [fc 167 (by decide) (by decide) (by decide) (by decide) (by decide)], fun k hk => fk k (by omega) (by omega) (by omega) (by omega) (by omega) (by omega)⟩ ?_ ?_) (fun c hc => ?_) (fun x hx => ?_)
    · unfold r_TT
      have a1 : m2 1 2 = 0 := by rw [f4 1 (by decide) (by decide), w_mb_c (by decide)]; exact e5
      have a2 : m2 234 2 = 0 := by rw [f6 2 (by decide) (by decide) (by decide) (by decide) (by decide) (by decide) (by decide) (by decide) (by decide) (by decide)]; exact w_mb_2
      rw [a1, a2]
      exact ⟨rfl, Nat.zero_le _, fun i hi => absurd hi (Nat.not_lt_zero i)⟩
    · rw [m20, b_ss, f2]
    · funext x
      rw [f5 c x (by omega) (Or.inl (by omega)), e3 c (by omega) (by omega)]
    · rw [f5 239 x (by decide) (Or.inr hx), e3 239 (by decide) (by decide)]
  | ok y =>
    rw [hr] at s1
    obtain ⟨m1, m2, m3, m4, j1, e1, rfl, g2, g3, hF, hN, hQ, e2, e3, e4, e5⟩ := s1
    have hF4 := c_F_cp (a := 4) (b := 15) (by omega) hQ.1 hF
    obtain ⟨h1, h2, h3, h4, h5, h6, h7⟩ := c_A_beg g2 g3 hF4 hQ.1
    have hS6 := hQ.1
    have hT := i_S_T hS6
    have hE := i_S_E hS6
    have hM := i_S_M hS6
    generalize hMC : b_r (b_r m4 148 (b_s (b_s (m1 148) 0 0) 1 0)) 50 (b_s (b_s (m1 50) 1 0) 2 0) = MC at e1
    have c0 : ∀ c, c ≠ 50 → c ≠ 148 → MC c = m4 c := fun c c1 c2 => by rw [← hMC, b_rn c1, b_rn c2]
    have c1 : ∀ c, (c < 4 ∨ 14 < c) → (c < 26 ∨ 36 < c) → c ≠ 50 → c ≠ 148 → MC c = m1 c := fun c x1 x2 x3 x4 => by rw [c0 c x3 x4, h7 c x2]; exact w_cpF_fr c (by omega)
    have c2 : ∀ c, c ≠ 0 → c ≠ 1 → (c < 4 ∨ 37 < c) → c ≠ 50 → c ≠ 148 → MC c = m c := fun c x0 x1 x2 x3 x4 => by rw [c1 c (by omega) (by omega) x3 x4, e2 c x0 x1 (by omega)]
    have jn : ∀ c, c ≠ 5 → c ≠ 1 → c ≠ 16 → w_cpN j1 4 15 c = j c := fun c x1 x2 x3 => (w_cpN_fr c (by omega)).trans (e3 c x2 x3)
    have s2 := sM (m1 := MC) (j1 := w_cpN j1 4 15) (fun c hc => c2 c (by omega) (by omega) (by omega) (by omega) (by omega)) (fun c hc => jn c (by omega) (by omega) (by omega))
    rw [hr] at s2
    obtain ⟨m5, j5, f1, f2, f3, f4, f5⟩ := s2
    obtain ⟨f6, f7, f8⟩ := f5
    refine ⟨MC, w_cpN j1 4 15, _, _, _, e1, f1, ?_⟩
    have hW : w_k4 (w_k3 (w_k2 (w_k1 (m5 236) (m5 237)))) = w_S (m5 236) (m5 237) := rfl
    rw [hW]
    obtain ⟨v1, v2, v3, v4, v5, v6⟩ := w_S_v (s := m5 236) (t := m5 237)
    generalize hMR : b_r (b_r m5 234 (b_s (m5 234) 23 0)) 236 (w_S (m5 236) (m5 237)) = MR
    have r236 : MR 236 = w_S (m5 236) (m5 237) := by rw [← hMR, b_rs]
    have r234 : ∀ k, k ≠ 23 → MR 234 k = m5 234 k := fun k hk => by rw [← hMR, b_rn (by decide), b_rs, b_sn hk]
    have r23 : MR 234 23 = 0 := by rw [← hMR, b_rn (by decide), b_rs, b_ss]
    have rC : ∀ c, c ≠ 234 → c ≠ 236 → c ≠ 237 → MR c = MC c := fun c x1 x2 x3 => by rw [← hMR, b_rn x2, b_rn x1, f6 c x1 x3, w_mb_c x1]
    have rk : ∀ k, k ≠ 0 → k ≠ 2 → k ≠ 3 → k ≠ 4 → k ≠ 5 → (k < 11 ∨ 20 < k) → k ≠ 23 → MR 234 k = m 234 k := fun k k0 k2 k3 k4 k5 k6 k7 => by
      rw [r234 k k7, f8 k (by omega) (by omega) (by omega) (by omega) (by omega) (by omega) (by omega) (by omega), w_mb_k k0 k2 k3 k4 k5 (by omega) (by omega) (by omega), c2 234 (by decide) (by decide) (by decide) (by decide) (by decide)]
    have st : ∀ k, k < 157 → MR 236 k = y.1 k := fun k hk => by rw [r236, v1 k hk, f2 k hk]
    have w2 : ∀ i, i < 6 → MR 236 (159 + i) = MR 236 (5 + i) := fun i hi => by rw [st (5 + i) (by omega), r236, v2 i hi, f2 (5 + i) (by omega)]
    have w3 : ∀ i, i < 48 → MR 236 (177 + i) = MR 236 (19 + i) := fun i hi => by rw [st (19 + i) (by omega), r236, v3 i hi, f2 (19 + i) (by omega)]
    have w4 : ∀ i, i < 10 → MR 236 (241 + i) = MR 236 (67 + i) := fun i hi => by rw [st (67 + i) (by omega), r236, v4 i hi, f2 (67 + i) (by omega)]
    have w5 : ∀ i, i < 10 → MR 236 (251 + i) = MR 236 (77 + i) := fun i hi => by rw [st (77 + i) (by omega), r236, v5 i hi, f2 (77 + i) (by omega)]
    have w6 : ∀ k, k = 157 ∨ k = 158 ∨ (165 ≤ k ∧ k < 177) ∨ (225 ≤ k ∧ k < 241) ∨ (261 ≤ k ∧ k < 533) → MR 236 k = 0 := fun k hk => by rw [r236, v6 k hk]
    have hSn : i_S (MR 236) := i_S_ext (fun i hi => st i hi) hS6
    have hDn : i_D (MR 236) := i_D_new hSn w2 w3 w4 w5 w6
    have j239 : ∀ i, i < 30 → b_r j5 239 (w_kJ j5) 239 i = y.2.1 i := fun i hi => by
      rw [b_rs]
      unfold w_kJ
      rw [b_rgi (by omega) (by omega), Nat.sub_zero]
      exact f3 i hi
    have jc : ∀ c, c ≠ 234 → c ≠ 239 → b_r j5 239 (w_kJ j5) c = w_cpN j1 4 15 c := fun c x1 x2 => by
      rw [b_rn x2]
      funext x
      exact f7 c x x1 (Or.inl x2)
    have cF : ∀ c, 4 ≤ c → c ≤ 14 → MR c = w_cpF m1 4 15 c := fun c p1 p2 => by rw [rC c (by omega) (by omega) (by omega), c0 c (by omega) (by omega), h7 c (by omega)]
    have cA : ∀ c, 26 ≤ c → c ≤ 37 → MR c = m4 c := fun c p1 p2 => by rw [rC c (by omega) (by omega) (by omega), c0 c (by omega) (by omega)]
    have q0 : MR 236 0 = y.1 0 := st 0 (by decide)
    have q1 : MR 236 1 = y.1 1 := st 1 (by decide)
    have q3 : MR 236 3 = y.1 3 := st 3 (by decide)
    have hh : ∀ e, e < y.1 3 → MR 236 (241 + e) ≠ 4294967295 := fun e he => by
      rw [w4 e (by omega), st (67 + e) (by omega)]
      have := i_S_ht hS6 e he
      omega
    have z23 : ∀ c, c = 163 ∨ c = 171 ∨ (178 ≤ c ∧ c ≤ 233) ∨ c = 244 ∨ c = 247 ∨ c = 251 ∨ c = 254 ∨ c = 256 → MR c = m c := fun c hc => by rw [rC c (by omega) (by omega) (by omega), c2 c (by omega) (by omega) (by omega) (by omega) (by omega)]
    have zo : ∀ c, c = 156 ∨ c = 162 ∨ c = 167 → MR c = m c := fun c hc => by rw [rC c (by omega) (by omega) (by omega), c2 c (by omega) (by omega) (by omega) (by omega) (by omega)]
    have m0 : MR 0 = b_s (m 0) 14 0 := by rw [rC 0 (by decide) (by decide) (by decide), c1 0 (by decide) (by decide) (by decide) (by decide)]; exact e4
    refine r_R_new h z23 (fun k hk => by rw [m0, b_sn (by omega)]) (fun k hk => by rw [zo 156 (by omega)]) (by rw [zo 162 (by omega)]) (by rw [zo 167 (by omega)]) (fun k hk => rk k (by omega) (by omega) (by omega) (by omega) (by omega) (by omega) (by omega)) (fun c hc => by rw [jc c (by omega) (by omega), jn c (by omega) (by omega) (by omega)]) hSn hDn ?_ ?_ ?_ ?_ ?_ r23 ?_ ?_
    · exact c_F_ext (m := w_cpF m1 4 15) cF st hS6 hF4
    · refine ⟨?_, ?_, ?_, ?_, ?_, ?_, ?_, ?_, ?_, ?_, ?_, ?_⟩
      · rw [cA 26 (by decide) (by decide), h1, w6 157 (by omega)]
      · intro i hi
        rw [q1] at hi
        rw [cA (26 + 1) (by decide) (by decide), w2 i (by omega), st (5 + i) (by omega)]
        exact h2 i hi
      · intro i hi
        rw [q1] at hi
        rw [cA (26 + 2) (by decide) (by decide), w6 (165 + i) (by omega)]
        exact (h3 i (by omega)).1
      · intro i hi
        rw [q1] at hi
        rw [cA (26 + 3) (by decide) (by decide), w6 (171 + i) (by omega)]
        exact (h3 i (by omega)).2
      · intro t ht k hk
        rw [cA (26 + 4) (by decide) (by decide), show 177 + 6 * t + k = 177 + (6 * t + k) by omega, w3 (6 * t + k) (by omega), st (19 + (6 * t + k)) (by omega), show 19 + (6 * t + k) = 19 + 6 * t + k by omega]
        exact h4 t ht k hk
      · intro e he
        rw [q3] at he
        rw [cA (26 + 5) (by decide) (by decide), w4 e (by omega), st (67 + e) (by omega)]
        exact (h5 e he).1
      · intro e he
        rw [q3] at he
        rw [cA (26 + 6) (by decide) (by decide), w5 e (by omega), st (77 + e) (by omega)]
        exact (h5 e he).2
      · intro e he
        rw [q3] at he
        rw [cA (26 + 7) (by decide) (by decide), if_neg (hh e he)]
        exact (h6 e (by omega)).1
      · intro e he
        rw [q3] at he
        rw [cA (26 + 8) (by decide) (by decide), if_neg (hh e he)]
        exact (h6 e (by omega)).2.1
      · intro e he
        rw [q3] at he
        rw [cA (26 + 9) (by decide) (by decide), w6 281 (by omega), Nat.zero_testBit]
        exact (h6 e (by omega)).2.2.1
      · intro e he
        rw [q3] at he
        rw [cA (26 + 10) (by decide) (by decide), w6 (282 + e) (by omega)]
        exact (h6 e (by omega)).2.2.2
      · intro e he hx k hk
        rw [q3] at he
        exact absurd hx (hh e he)
    · unfold r_TT
      have a1 : MR 1 2 = 0 := by rw [rC 1 (by decide) (by decide) (by decide), c1 1 (by decide) (by decide) (by decide) (by decide)]; exact e5
      have a2 : MR 234 2 = 0 := by rw [r234 2 (by decide), f8 2 (by decide) (by decide) (by decide) (by decide) (by decide) (by decide) (by decide) (by decide)]; exact w_mb_2
      rw [a1, a2]
      exact ⟨rfl, Nat.zero_le _, fun i hi => absurd hi (Nat.not_lt_zero i)⟩
    · rw [m0, b_ss, r234 15 (by decide), f8 15 (by decide) (by decide) (by decide) (by decide) (by decide) (by decide) (by decide) (by decide)]
      exact w_mb_15.symm
    · rw [cF 6 (by omega) (by omega), cF 7 (by omega) (by omega), cF 4 (by omega) (by omega), jc 5 (by decide) (by decide)]
      have n6 : w_cpF m1 4 15 4 6 = m1 15 6 := by
        unfold w_cpF
        simp (disch := omega) only [b_rn, b_rs, b_ss, b_sn]
      rw [n6]
      refine r_N_cong hSn (fun i hi => ?_) (fun i hi => ?_) (fun i hi => ?_) j239 (r_N_s (fun i hi => st i (by omega)) hN)
      · unfold w_cpF
        simp (disch := omega) only [b_rn, b_rs]
        rw [b_rgi (by omega) (by omega)]
        rfl
      · unfold w_cpF
        simp (disch := omega) only [b_rn, b_rs]
        rw [b_rgi (by omega) (by omega)]
        rfl
      · unfold w_cpN
        rw [b_rs, b_rgi (by omega) (by omega)]
        rfl
    · rw [rC 50 (by decide) (by decide) (by decide), ← hMC, b_rs, b_sn (by decide), b_ss, b_ss]
      exact ⟨rfl, by decide⟩
    · have a148 : MR 148 = b_s (b_s (m1 148) 0 0) 1 0 := by rw [rC 148 (by decide) (by decide) (by decide), ← hMC, b_rn (by decide), b_rs]
      rw [a148, b_sn (by decide), b_ss, b_ss]
      refine ⟨by decide, w6 352 (by omega), ⟨fun _ => rfl, fun _ => rfl⟩, by decide, fun i hi => absurd hi (Nat.not_lt_zero i), fun i hi => absurd hi (Nat.not_lt_zero i), fun i hi => ?_, fun hx => absurd hx (by decide)⟩
      have : i = 0 := by omega
      rw [this]
      exact Nat.zero_le _
end MT
