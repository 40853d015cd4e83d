/-! TEXTS: a new name -/
theorem w_base_ne {s : Nat → Nat} (hK : s 0 ≤ 6) (hM : s 1 ≤ 6) (hT : s 2 ≤ 8) {q a v : Nat} (hq : q ≤ 3) (ha : a ≤ 3) (hv : v < s a) (h6 : q = 0 → s 0 < 6) (h7 : q = 1 → s 1 < 6) (h8 : q = 2 → s 2 < 8) : w_base a + v ≠ w_base q + s q := by
  have b0 : w_base 0 = 0 := rfl
  have b1 : w_base 1 = 6 := rfl
  have b2 : w_base 2 = 12 := rfl
  have b3 : w_base 3 = 20 := rfl
  have ha2 : a = 0 ∨ a = 1 ∨ a = 2 ∨ a = 3 := by omega
  have hq2 : q = 0 ∨ q = 1 ∨ q = 2 ∨ q = 3 := by omega
  rcases ha2 with y | y | y | y <;> rcases hq2 with z | z | z | z <;> rw [y] at hv ⊢ <;> rw [z] <;> omega
theorem r_N_new {so nu L N s : Nat → Nat} {c l : Nat} (h : r_N so nu c L N s) (hc : c ≤ 30) (hK : s 0 ≤ 6) (hM : s 1 ≤ 6) (hT : s 2 ≤ 8) {q : Nat} (hq : q ≤ 3) (h6 : q = 0 → s 0 < 6) (h7 : q = 1 → s 1 < 6) (h8 : q = 2 → s 2 < 8) (hl : l < 34359738368) (hu : k_used N s (w_conv l) = false) : r_N (b_s so c q) (b_s nu c (s q)) (c + 1) (b_s L c l) (b_s N (w_base q + s q) (w_conv l)) (b_s s q (s q + 1)) := by
  have hno : ∀ k, k < c → L k ≠ l := by
    rw [r_N_used h hc] at hu
    have hu := of_decide_eq_false hu
    have hu : w_fd L l c = 4294967295 := Classical.byContradiction hu
    rcases w_fd_spec (g := L) (L := l) (many := c) with x | x
    · exact x.2
    · have := x.1; omega
  obtain ⟨h1, h2, h3, h4⟩ := h
  have hs : ∀ k, s k ≤ b_s s q (s q + 1) k := fun k => by
    by_cases g : k = q
    · rw [g, b_ss]; omega
    · rw [b_sn g]; exact Nat.le_refl _
  refine ⟨?_, ?_, ?_, ?_⟩
  · have hq2 : q = 0 ∨ q = 1 ∨ q = 2 ∨ q = 3 := by omega
    rcases hq2 with z | z | z | z
    · rw [z, b_ss, b_sn (by decide), b_sn (by decide), b_sn (by decide)]; omega
    · rw [z, b_sn (by decide), b_ss, b_sn (by decide), b_sn (by decide)]; omega
    · rw [z, b_sn (by decide), b_sn (by decide), b_ss, b_sn (by decide)]; omega
    · rw [z, b_sn (by decide), b_sn (by decide), b_sn (by decide), b_ss]; omega
  · intro i hi
    by_cases g : i = c
    · rw [g, b_ss, b_ss, b_ss, b_ss, b_ss]
      exact ⟨hq, Nat.lt_succ_self _, rfl, hl⟩
    · obtain ⟨k1, k2, k3, k4⟩ := h2 i (by omega)
      rw [b_sn g, b_sn g, b_sn g, b_sn (w_base_ne hK hM hT hq k1 k2 h6 h7 h8)]
      exact ⟨k1, Nat.lt_of_lt_of_le k2 (hs _), k3, k4⟩
  · intro q2 hq2 v hv
    by_cases g : q2 = q ∧ v = s q
    · exact ⟨c, Nat.lt_succ_self c, by rw [b_ss, g.1], by rw [b_ss, g.2]⟩
    · have hv2 : v < s q2 := by
        by_cases g2 : q2 = q
        · rw [g2, b_ss] at hv
          have : v ≠ s q := fun y => g ⟨g2, y⟩
          rw [g2]; omega
        · rw [b_sn g2] at hv; exact hv
      obtain ⟨i, i1, i2, i3⟩ := h3 q2 hq2 v hv2
      exact ⟨i, by omega, by rw [b_sn (by omega)]; exact i2, by rw [b_sn (by omega)]; exact i3⟩
  · intro i hi k hk hL
    by_cases g : i = c
    · by_cases g2 : k = c
      · rw [g, g2]
      · rw [g, b_ss, b_sn g2] at hL
        exact absurd hL.symm (hno k (by omega))
    · by_cases g2 : k = c
      · rw [g2, b_ss, b_sn g] at hL
        exact absurd hL (hno i (by omega))
      · rw [b_sn g, b_sn g2] at hL
        exact h4 i (by omega) k (by omega) hL
