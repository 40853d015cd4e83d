/-! TEXTS: the class's names -/
section RN
variable {so nu L N s : Nat → Nat} {c l : Nat}
/-- what the class finds is what the reference finds -/
theorem r_N_look (h : r_N so nu c L N s) (hc : c ≤ 30) {q : Nat} (hq : q ≤ 3) : (w_fd L l c < c → so (w_fd L l c) = q → w_fd (fun k => N (w_base q + k)) (w_conv l) (s q) = nu (w_fd L l c)) ∧ ((w_fd L l c = 4294967295 ∨ so (w_fd L l c) ≠ q) → w_fd (fun k => N (w_base q + k)) (w_conv l) (s q) = 4294967295) := by
  obtain ⟨h1, h2, h3, h4⟩ := h
  constructor
  · intro a1 a2
    have a3 := h2 _ a1
    rcases w_fd_spec (g := L) (L := l) (many := c) with b | b
    · have := b.1; omega
    · refine w_fd_hit (by rw [← a2]; exact a3.2.1) (by show N (w_base q + nu (w_fd L l c)) = w_conv l; rw [← a2, a3.2.2.1, b.2.1]) (fun k hk hN => ?_)
      have hlt : k < s q := Nat.lt_trans hk (by rw [← a2]; exact a3.2.1)
      obtain ⟨i, i1, i2, i3⟩ := h3 q hq k hlt
      have i4 := (h2 i i1).2.2.1
      rw [i2, i3] at i4
      have i5 : L i = l := w_conv_inj _ _ (i4.symm.trans hN)
      have i6 := h4 i i1 _ a1 (i5.trans b.2.1.symm)
      rw [← i6, i3] at hk
      exact Nat.lt_irrefl _ hk
  · intro a1
    refine w_fd_not (fun k hk hN => ?_)
    obtain ⟨i, i1, i2, i3⟩ := h3 q hq k hk
    have i4 := (h2 i i1).2.2.1
    rw [i2, i3] at i4
    have i5 : L i = l := w_conv_inj _ _ (i4.symm.trans hN)
    rcases w_fd_spec (g := L) (L := l) (many := c) with b | b
    · exact b.2 i i1 i5
    · have i6 := h4 i i1 _ b.1 (i5.trans b.2.1.symm)
      rcases a1 with a1 | a1
      · have := b.1; omega
      · rw [← i6] at a1
        exact a1 i2
theorem r_N_used (h : r_N so nu c L N s) (hc : c ≤ 30) : k_used N s (w_conv l) = decide (w_fd L l c ≠ 4294967295) := by
  have g0 := r_N_look (l := l) h hc (q := 0) (by decide)
  have g1 := r_N_look (l := l) h hc (q := 1) (by decide)
  have g2 := r_N_look (l := l) h hc (q := 2) (by decide)
  have g3 := r_N_look (l := l) h hc (q := 3) (by decide)
  have b0 : (fun k => N (w_base 0 + k)) = N := funext fun k => by show N (0 + k) = N k; rw [Nat.zero_add]
  rw [b0] at g0
  have hu : k_used N s (w_conv l) = decide (w_fd N (w_conv l) (s 0) ≠ 4294967295 ∨ w_fd (fun k => N (6 + k)) (w_conv l) (s 1) ≠ 4294967295 ∨ w_fd (fun k => N (12 + k)) (w_conv l) (s 2) ≠ 4294967295 ∨ w_fd (fun k => N (20 + k)) (w_conv l) (s 3) ≠ 4294967295) := rfl
  rw [hu]
  by_cases a : w_fd L l c = 4294967295
  · rw [show decide (w_fd L l c ≠ 4294967295) = false from decide_eq_false (fun x => x a)]
    refine decide_eq_false ?_
    rintro (x | x | x | x)
    · exact x (g0.2 (Or.inl a))
    · exact x (g1.2 (Or.inl a))
    · exact x (g2.2 (Or.inl a))
    · exact x (g3.2 (Or.inl a))
  · rw [show decide (w_fd L l c ≠ 4294967295) = true from decide_eq_true a]
    have a1 : w_fd L l c < c := by
      rcases w_fd_le (g := L) (L := l) (many := c) with x | x
      · exact absurd x a
      · exact x
    refine decide_eq_true ?_
    obtain ⟨h1, h2, h3, h4⟩ := h
    obtain ⟨k1, k2, k3, k4⟩ := h2 _ a1
    have k5 : so (w_fd L l c) = 0 ∨ so (w_fd L l c) = 1 ∨ so (w_fd L l c) = 2 ∨ so (w_fd L l c) = 3 := by omega
    rcases k5 with x | x | x | x
    · refine Or.inl ?_
      have e : w_fd N (w_conv l) (s 0) = nu (w_fd L l c) := g0.1 a1 x
      rw [e]
      rw [x] at k2
      omega
    · refine Or.inr (Or.inl ?_)
      have := g1.1 a1 x
      rw [x] at k2
      have e : w_fd (fun k => N (6 + k)) (w_conv l) (s 1) = nu (w_fd L l c) := this
      rw [e]
      omega
    · refine Or.inr (Or.inr (Or.inl ?_))
      have := g2.1 a1 x
      rw [x] at k2
      have e : w_fd (fun k => N (12 + k)) (w_conv l) (s 2) = nu (w_fd L l c) := this
      rw [e]
      omega
    · refine Or.inr (Or.inr (Or.inr ?_))
      have := g3.1 a1 x
      rw [x] at k2
      have e : w_fd (fun k => N (20 + k)) (w_conv l) (s 3) = nu (w_fd L l c) := this
      rw [e]
      omega
end RN
