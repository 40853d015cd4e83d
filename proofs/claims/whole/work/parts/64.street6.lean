/-! MATCHES: the row of rests -/
section ST3
variable {X : Nat × (Nat → Int32)} {tx : List Int32} {D d : Nat} {m j : Nat → Nat → Nat} {w : (Nat × Nat) × Bool} {s : Nat → Nat}
theorem w_rs_b {set : Nat} {f : Nat → Nat} {u : Nat} (hE : s 3 ≤ 10) (hT : s 2 ≤ 8) (hp : ∀ e, e < 10 → s (251 + e) ≤ 99) (h : w_rs s set f u) (ha : w_ndn s set (s 2) < w_pc u ∨ ∃ a, a ≤ s 2 ∧ w_ndn s set a = w_pc u) : f u = 4294967295 ∨ f u ≤ 100000 := by
  rcases ha with ha | ⟨a, h1, h2⟩
  · exact Or.inr (by rw [h.1 ha]; omega)
  · rw [h.2 a h1 h2]
    have := w_stv_b (s := s) (set := set) hE hp (s 2 - a) u
    unfold w_no
    split <;> omega
theorem w_ndn_hit {set c : Nat} (hc : c ≤ w_ndn s set (s 2)) : ∃ a, a ≤ s 2 ∧ w_ndn s set a = c := by
  by_cases h : c = w_ndn s set (s 2)
  · exact ⟨s 2, Nat.le_refl _, h.symm⟩
  · have h2 : c < z_sum (fun t => b_b (w_nd s set t)) (s 2) := Nat.lt_of_le_of_ne hc h
    obtain ⟨t, h3, _, h5⟩ := z_sum_inv (s 2) c h2
    exact ⟨t, by omega, h5⟩
end ST3
