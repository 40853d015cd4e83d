/-! WAS: the step -/
theorem r_R_txt2 {m m2 j : Nat → Nat → Nat} (h : r_R m j) (w1 : ∀ c, (4 ≤ c ∧ c ≤ 14) ∨ (26 ≤ c ∧ c ≤ 37) ∨ (50 ≤ c ∧ c ≤ 151) ∨ c = 163 ∨ c = 171 ∨ (178 ≤ c ∧ c ≤ 233) ∨ c = 236 ∨ c = 241 ∨ c = 244 ∨ c = 247 ∨ c = 251 ∨ c = 254 ∨ c = 256 → m2 c = m c) (w2 : m2 0 16 = m 0 16) (w4 : ∀ k, 6 ≤ k → m2 156 k = m 156 k) (w5 : m2 162 3 = m 162 3) (w6 : m2 167 7 = m 167 7) (w7 : ∀ k, k = 23 ∨ k = 26 ∨ (30 ≤ k ∧ k ≤ 32) ∨ k = 35 ∨ k = 36 ∨ k = 43 → m2 234 k = m 234 k) (h1 : r_TT m2) (h2 : m2 0 14 = m2 234 15) (h8 : m2 234 34 < 2 ∧ m2 0 15 = if m2 234 34 = 0 then 4294967295 else m2 234 33) : r_R m2 j := by
  have hS := r_R_st h
  have e236 := w1 236 (by omega)
  unfold r_R
  rw [e236]
  refine ⟨hS, r_R_dy h, c_F_ext (fun c p1 p2 => w1 c (by omega)) (fun _ _ => rfl) hS (r_R_fa h), c_A_ext (fun c p1 p2 => w1 c (by omega)) (r_R_af h), h1, h2, ?_, ?_, ?_, ?_, ?_, ?_, ?_, h8, ?_, r_R_wd h, ?_⟩
  · rw [w1 6 (by omega), w1 7 (by omega), w1 4 (by omega)]; exact r_R_nm h
  · rw [w1 241 (by omega), w7 23 (by omega)]; exact r_P_ext (fun c p1 p2 => w1 c (by omega)) (fun _ _ => rfl) (r_R_pa h)
  · rw [w1 148 (by omega), w1 149 (by omega), w1 150 (by omega), w1 151 (by omega)]; exact r_R_cl h
  · obtain ⟨g1, g2, g3⟩ := r_R_to h
    rw [w4 6 (by omega), w7 43 (by omega)]
    exact ⟨g1, g2, fun hn k hk => by rw [w4 (7 + k) (by omega), w1 251 (by omega)]; exact g3 hn k hk⟩
  · rw [w5, w7 26 (by omega), w1 163 (by omega), w1 244 (by omega)]; exact r_R_ro h
  · rw [w7 30 (by omega), w1 171 (by omega), w1 247 (by omega)]; exact r_R_sr h
  · rw [w7 32 (by omega), w7 31 (by omega), w6]; exact r_R_tr h
  · rw [w7 36 (by omega), w7 35 (by omega), w2]; exact r_R_rd h
  · intro k hk
    obtain ⟨g1, g2, g3⟩ := r_R_im h k hk
    rw [w1 (178 + 28 * k) (by omega), w1 256 (by omega)]
    refine ⟨g1, g2, fun hn => ?_⟩
    have e1 : w_imS m2 k = w_imS m k := by unfold w_imS; rw [w1 254 (by omega)]
    rw [e1]
    exact r_I_ext (fun c p1 p2 => w1 c (by omega)) rfl (g3 hn)
section WD
variable {X : Nat × (Nat → Int32)} {tx : List Int32} {D : Nat} {m j : Nat → Nat → Nat} {w : (Nat × Nat) × Bool}
theorem t_was (h : r_R m j) (hD : 10 ≤ D) : w_step X tx D 173 278 [] m j w := by
  have hS := r_R_st h
  have hF := r_R_fa h
  have hA := r_R_af h
  obtain ⟨t1, t2, t3⟩ := r_R_tp h
  obtain ⟨s1, s2⟩ := r_R_sk h
  obtain ⟨m2, e1, g1, g2, g3, g4, g5, g6⟩ := s_EM_was (X := X) (tx := tx) (D := D) (m := m) (j := j) (w := w) hF hA hS t2 (fun i hi => (t3 i hi).1) (by omega)
  have k6 : m2 236 = m 236 := g1 236 (by decide) (by decide) (by omega)
  have k4 : m2 234 = m 234 := g1 234 (by decide) (by decide) (by omega)
  have k5 : m2 235 = m 235 := g1 235 (by decide) (by decide) (by omega)
  obtain ⟨m3, e2, n1, n2, n3, n4, n5⟩ := s_Mo_was (X := X) (tx := tx) (D := D) (m := m2) (j := j) (w := w) (by rw [k6]; exact hS) (by rw [k4]; omega) (by omega)
  rw [k6, k4, k5, t1] at e2
  rw [k6, k4, k5, t1] at n4 n5
  rw [k4] at n2
  have hq : w_qwas (m 236) (fun i => m 235 i % 256) (m 1 2) = w_qwas (m 236) (m 2) (m 1 2) := w_qwas_congr fun i hi => (t3 i hi).2
  rw [hq] at e2 n4 n5
  have fr : ∀ c, c ≠ 0 → c ≠ 1 → c ≠ 234 → c ≠ 243 → (c < 162 ∨ 166 < c) → m3 c = m c := fun c p1 p2 p3 p4 p5 => by rw [n1 c p3 p4, g1 c p1 p2 p5]
  have x0 : m3 0 = m2 0 := n1 0 (by decide) (by decide)
  have x1 : m3 1 = m2 1 := n1 1 (by decide) (by decide)
  have x162 : m3 162 = m2 162 := n1 162 (by decide) (by decide)
  have x163 : m3 163 = m2 163 := n1 163 (by decide) (by decide)
  have fk : ∀ k, k ≠ 0 → k ≠ 2 → k ≠ 3 → k ≠ 4 → k ≠ 5 → k ≠ 33 → k ≠ 34 → m3 234 k = m 234 k := n2
  refine ⟨m2, j, m3, j, _, e1, e2, r_R_txt2 h (fun c hc => ?_) (by rw [x0]; exact g2 16 (by decide)) (fun k hk => by rw [fr 156 (by decide) (by decide) (by decide) (by decide) (by decide)]) (by rw [x162, g4]) (by rw [fr 167 (by decide) (by decide) (by decide) (by decide) (by decide)]) (fun k hk => fk k (by omega) (by omega) (by omega) (by omega) (by omega) (by omega) (by omega)) ?_ ?_ ?_⟩
  · by_cases c5 : c = 163
    · rw [c5, x163, g5]
    · exact fr c (by omega) (by omega) (by omega) (by omega) (by omega)
  · unfold r_TT
    rw [x1, g3, n3]
    exact ⟨rfl, Nat.zero_le _, fun i hi => absurd hi (Nat.not_lt_zero i)⟩
  · rw [x0, g2 14 (by decide), fk 15 (by decide) (by decide) (by decide) (by decide) (by decide) (by decide) (by decide)]
    exact r_R_ft h
  · rw [x0, g6]
    by_cases c : w_qwas (m 236) (m 2) (m 1 2) = 4294967295 ∨ w_qwas (m 236) (m 2) (m 1 2) = 0
    · obtain ⟨a1, a2⟩ := n4 c
      rw [if_pos c, a1, a2]
      exact ⟨s1, s2⟩
    · obtain ⟨a1, a2⟩ := n5 c
      rw [if_neg c, a1, a2]
      exact ⟨by decide, rfl⟩
end WD
