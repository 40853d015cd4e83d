/-! TEXTS: the class reads a line, further -/
section LC
variable {X : Nat × (Nat → Int32)} {tx : List Int32} {D : Nat} {m j : Nat → Nat → Nat} {w : (Nat × Nat) × Bool} {b : Nat → Nat} {n q p : Nat} {s N : Nat → Nat} {dk : Nat}
/-- what a new name leaves -/
theorem w_nn_fr {m m2 m3 j j2 j3 : Nat → Nat → Nat} {so nu l n q p p2 : Nat} (e : o_C m m2 j j2 n q p) (o : o_C (w_nnM m2 so nu) m3 (w_nnJ m2 j2 l) j3 n q p2) : m3 15 = b_s (m 15) 6 (m 15 6 + 1) ∧ m3 17 = b_s (m 17) (m 15 6) so ∧ m3 18 = b_s (m 18) (m 15 6) nu ∧ j3 16 = b_s (j 16) (m 15 6) l ∧ (∀ c, c ≠ 1 → c ≠ 15 → c ≠ 17 → c ≠ 18 → m3 c = m c) ∧ (∀ c, c ≠ 1 → c ≠ 16 → j3 c = j c) ∧ m3 1 10 = m 1 10 ∧ m3 1 11 = m 1 11 := by
  obtain ⟨_, ⟨a1, a2, a3, a4⟩, _⟩ := e
  obtain ⟨_, ⟨b1, b2, b3, b4⟩, _⟩ := o
  have c15 := a1 15 (by decide)
  have c17 := a1 17 (by decide)
  have c18 := a1 18 (by decide)
  have c16 := a2 16 (by decide)
  refine ⟨?_, ?_, ?_, ?_, fun c x1 x2 x3 x4 => ?_, fun c x1 x2 => ?_, ?_, ?_⟩
  · rw [b1 15 (by decide)]; unfold w_nnM; rw [b_rs, c15]
  · rw [b1 17 (by decide)]; unfold w_nnM; rw [b_rn (by decide), b_rn (by decide), b_rs, c15, c17]
  · rw [b1 18 (by decide)]; unfold w_nnM; rw [b_rn (by decide), b_rs, c15, c18]
  · rw [b2 16 (by decide)]; unfold w_nnJ; rw [b_rs, c15, c16]
  · rw [b1 c x1]; unfold w_nnM; rw [b_rn x2, b_rn x4, b_rn x3]; exact a1 c x1
  · rw [b2 c x1]; unfold w_nnJ; rw [b_rn x2]; exact a2 c x1
  · rw [b3]; unfold w_nnM; rw [b_rn (by decide), b_rn (by decide), b_rn (by decide)]; exact a3
  · rw [b4]; unfold w_nnM; rw [b_rn (by decide), b_rn (by decide), b_rn (by decide)]; exact a4
end LC
