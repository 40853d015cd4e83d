/-! CALL BY CALL: haggle -/
section HG
variable {X : Nat × (Nat → Int32)} {tx : List Int32} {D : Nat} {m j : Nat → Nat → Nat} {w : (Nat × Nat) × Bool}
theorem t_haggle (h : r_R m j) (hD : 10 ≤ D) {q e : Nat} (hq : q < 4294967296) (he : e < 4294967296) : w_step X tx D 175 280 [.int (nI q), .int (nI e)] m j w := by
  have hS := r_R_st h
  have hI := r_R_dy h
  have s1 := s_EM_haggle (X := X) (tx := tx) (D := D) (j := j) (w := w) (r_R_fa h) (r_R_af h) hS hI (by omega) hq he
  by_cases c : w_hagok (m 236) q e
  · have s1 := s1.1 c
    generalize hm1 : b_r m 0 (b_s (m 0) 16 (w_round (m 236) e)) = m1 at s1
    have fr : ∀ c, c ≠ 0 → m1 c = m c := fun c hc => by rw [← hm1]; exact b_rn hc
    have e6 : m1 236 = m 236 := fr 236 (by decide)
    have s2 := s_Mo_haggle (X := X) (tx := tx) (D := D) (m := m1) (j := j) (w := w) (by rw [e6]; exact hS) (by rw [e6]; exact hI) (by omega) hq he
    rw [e6] at s2
    have s2 := s2.1 c
    generalize hm2 : b_r m1 234 (b_s (b_s (b_s (m1 234) 0 0) 36 1) 35 (w_round (m 236) e)) = m2 at s2
    have k4 : ∀ k, k ≠ 0 → k ≠ 35 → k ≠ 36 → m2 234 k = m 234 k := fun k p1 p2 p3 => by rw [← hm2, b_rs, b_sn p2, b_sn p3, b_sn p1, fr 234 (by decide)]
    have kf : ∀ c, c ≠ 0 → c ≠ 234 → m2 c = m c := fun c p1 p2 => by rw [← hm2, b_rn p2, fr c p1]
    have k0 : ∀ k, k ≠ 16 → m2 0 k = m 0 k := fun k p1 => by rw [← hm2, b_rn (by decide), ← hm1, b_rs, b_sn p1]
    have g36 : m2 234 36 = 1 := by rw [← hm2, b_rs, b_sn (by decide), b_ss]
    have g35 : m2 234 35 = w_round (m 236) e := by rw [← hm2, b_rs, b_ss]
    have g0 : m2 0 16 = w_round (m 236) e := by rw [← hm2, b_rn (by decide), ← hm1, b_rs, b_ss]
    refine ⟨m1, j, m2, j, _, s1, s2, r_R_asks h ⟨fun c hc => kf c (by omega) (by omega), k0 14 (by decide), by rw [kf 1 (by decide) (by decide)], fun k hk => by rw [kf 156 (by decide) (by decide)], fun k hk => k4 k (by omega) (by omega) (by omega)⟩ ?_ ?_ ?_ ?_ ?_⟩
    · rw [kf 162 (by decide) (by decide), k4 26 (by decide) (by decide) (by decide), kf 163 (by decide) (by decide), kf 244 (by decide) (by decide)]
      exact r_R_ro h
    · rw [k4 30 (by decide) (by decide) (by decide), kf 171 (by decide) (by decide), kf 247 (by decide) (by decide)]
      exact r_R_sr h
    · rw [k4 32 (by decide) (by decide) (by decide), k4 31 (by decide) (by decide) (by decide), kf 167 (by decide) (by decide)]
      exact r_R_tr h
    · rw [k4 34 (by decide) (by decide) (by decide), k4 33 (by decide) (by decide) (by decide), k0 15 (by decide)]
      exact r_R_sk h
    · rw [g36, g35, g0, if_neg Nat.one_ne_zero]
      exact ⟨by decide, rfl⟩
  · exact ⟨m, j, _, j, _, s1.2 c, (s_Mo_haggle hS hI (by omega) hq he).2 c, r_R_thr h⟩
end HG
