/-! TEXTS: what reading keeps -/
theorem k_num_ok {b : Nat → Nat} {n q lo hi p : Nat} {r : Nat × Nat} (h : k_num b n q lo hi p = .ok r) : lo ≤ r.1 ∧ r.1 ≤ hi ∧ r.2 = w_nx b n q p ∧ p < r.2 ∧ r.2 ≤ n := by
  unfold k_num at h
  by_cases c : w_kd b n q p = 2
  · rw [if_pos c] at h
    by_cases c2 : lo ≤ w_va b n q p ∧ w_va b n q p ≤ hi
    · rw [if_pos c2] at h
      have h2 := Except.ok.inj h
      rw [← h2]
      have := w_nx_in (w_kd_in (b := b) (n := n) (q := q) (p := p) (by omega) (by omega))
      exact ⟨c2.1, c2.2, rfl, this.1, this.2⟩
    · rw [if_neg c2] at h
      exact absurd h (by simp only [reduceCtorEq, not_false_eq_true])
  · rw [if_neg c] at h
    exact absurd h (by simp only [reduceCtorEq, not_false_eq_true])
theorem k_fresh_ok {b : Nat → Nat} {n q : Nat} {g s : Nat → Nat} {p p2 : Nat} (h : k_fresh b n q g s p = .ok p2) : w_kd b n q p = 1 ∧ k_used g s (w_conv (w_le b n q p)) = false ∧ p2 = w_nx b n q p ∧ p < p2 ∧ p2 ≤ n := by
  unfold k_fresh at h
  by_cases c : k_isn b n q p = true
  · rw [if_pos c] at h
    have c1 := k_isn_1 c
    cases c2 : k_used g s (w_conv (w_le b n q p)) with
    | true =>
      rw [c2, if_pos rfl] at h
      exact absurd h (by simp only [reduceCtorEq, not_false_eq_true])
    | false =>
      rw [c2, if_neg (by decide)] at h
      have h2 := Except.ok.inj h
      have := w_nx_in (w_kd_in (b := b) (n := n) (q := q) (p := p) (by omega) (by omega))
      exact ⟨c1, rfl, h2.symm, by omega, by omega⟩
  · rw [if_neg c] at h
    exact absurd h (by simp only [reduceCtorEq, not_false_eq_true])
theorem k_sign_ok {b : Nat → Nat} {n q c p p2 : Nat} (hc : 5 ≤ c) (h : k_sign b n q c p = .ok p2) : p2 = w_nx b n q p ∧ p < p2 ∧ p2 ≤ n := by
  unfold k_sign at h
  by_cases g : w_kd b n q p = c
  · rw [if_pos g] at h
    have h2 := Except.ok.inj h
    have := w_nx_in (w_kd_in (b := b) (n := n) (q := q) (p := p) (by omega) (by omega))
    exact ⟨h2.symm, by omega, by omega⟩
  · rw [if_neg g] at h
    exact absurd h (by simp only [reduceCtorEq, not_false_eq_true])
theorem k_am_ok {b : Nat → Nat} {n q : Nat} {g : Nat → Nat} {kinds to : Nat} : ∀ f s p y, p ≤ n → (∀ i, i < 6 → s (to + i) ≤ 9) → k_am b n q g kinds to f s p = .ok y → p ≤ y.2 ∧ y.2 ≤ n ∧ ∀ i, i < 6 → y.1 (to + i) ≤ 9
  | 0, s, p, y, hp, hs, h => by
    unfold k_am at h
    exact absurd h (by simp only [reduceCtorEq, not_false_eq_true])
  | f + 1, s, p, y, hp, hs, h => by
    by_cases c1 : w_kd b n q p = 59
    · rw [k_am_1 c1] at h
      rw [← Except.ok.inj h]
      exact ⟨Nat.le_refl _, hp, hs⟩
    · cases h2 : k_look b n q g kinds p with
      | error e =>
        rw [k_am_2 c1 h2] at h
        exact absurd h (by simp only [reduceCtorEq, not_false_eq_true])
      | ok k =>
        by_cases c2 : s (to + k) = 0
        · cases h3 : k_num b n q 1 9 (w_nx b n q p) with
          | error e =>
            rw [k_am_4 c1 h2 c2 h3] at h
            exact absurd h (by simp only [reduceCtorEq, not_false_eq_true])
          | ok r =>
            rw [k_am_5 c1 h2 c2 h3] at h
            obtain ⟨a1, a2, a3, a4, a5⟩ := k_num_ok h3
            have hk1 := k_am_lo h2
            have := w_nx_in (w_kd_in (b := b) (n := n) (q := q) (p := p) (by omega) (by omega))
            obtain ⟨b1, b2, b3⟩ := k_am_ok f _ _ y a5 (fun i hi => by
              by_cases c : to + i = to + k
              · rw [c, b_ss]; exact a2
              · rw [b_sn c]; exact hs i hi) h
            exact ⟨by omega, b2, b3⟩
        · rw [k_am_3 c1 h2 c2] at h
          exact absurd h (by simp only [reduceCtorEq, not_false_eq_true])
/-- a state while a market is read -/
def i_Q (s : Nat → Nat) (dk : Nat) : Prop := i_S s ∧ (∀ e, s 3 ≤ e → e < 10 → ∀ k, k < 6 → s (87 + 6 * e + k) = 0) ∧ dk < 2
theorem i_Q_0 : i_Q (b_s (fun _ => 0) 4 1) 0 := by
  refine ⟨⟨?_, ?_, ?_, ?_, ?_, ?_, ?_, ?_, ?_, ?_, ?_, ?_, ?_, ?_, ?_, ?_⟩, ?_, by decide⟩
  · exact Nat.zero_le _
  · exact Nat.zero_le _
  · exact Nat.zero_le _
  · exact Nat.zero_le _
  · rw [b_ss]; decide
  · intro i _; rw [b_sn (by omega)]; exact Nat.zero_le _
  · intro i _ _; rw [b_sn (by omega)]
  · intro t ht; rw [b_sn (by decide)] at ht; omega
  · intro t _ k _; rw [b_sn (by omega)]; exact Nat.zero_le _
  · intro t _ k _ _; rw [b_sn (by omega)]
  · intro t _ _ k _; rw [b_sn (by omega)]
  · intro t ht; rw [b_sn (by decide)] at ht; omega
  · intro e _; rw [b_sn (by omega)]; exact Nat.zero_le _
  · intro t _ k _; rw [b_sn (by omega)]; exact Nat.zero_le _
  · intro t _ k _ _; rw [b_sn (by omega)]
  · intro e _; rw [b_sn (by omega)]; exact Nat.zero_le _
  · intro t _ _ k _; rw [b_sn (by omega)]
section IQ
variable {b : Nat → Nat} {n q p : Nat} {s g : Nat → Nat} {dk : Nat} {y : (Nat → Nat) × (Nat → Nat) × Nat × Nat}
theorem i_Q_lk (h : i_Q s dk) (hp : p ≤ n) (h1 : w_kd b n q p = 1) (hy : k_lk b n q s g dk p = .ok y) : i_Q y.1 y.2.2.1 ∧ p ≤ y.2.2.2 ∧ y.2.2.2 ≤ n := by
  unfold k_lk at hy
  have hn := w_nx_in (w_kd_in (b := b) (n := n) (q := q) (p := p) (by omega) (by omega))
  by_cases c : s 0 = 6
  · rw [if_pos c] at hy
    exact absurd hy (by simp only [reduceCtorEq, not_false_eq_true])
  rw [if_neg c] at hy
  cases q1 : k_fresh b n q g s (w_nx b n q p) with
  | error e =>
    rw [q1] at hy
    exact absurd hy (by simp only [reduceCtorEq, not_false_eq_true])
  | ok p2 =>
  rw [q1] at hy
  obtain ⟨a1, a2, a3, a4, a5⟩ := k_fresh_ok q1
  rw [← Except.ok.inj hy]
  refine ⟨?_, by show p ≤ p2; omega, a5⟩
  obtain ⟨⟨K, M, T, E, U, ct, cz, wh, ot, otk, ott, ht, pt, cl, clk, fd⟩, clt, hd⟩ := h
  have e : ∀ i, i ≠ 0 → b_s s 0 (s 0 + 1) i = s i := fun i hi => b_sn hi
  have e0 : b_s s 0 (s 0 + 1) 0 = s 0 + 1 := b_ss
  show i_Q (b_s s 0 (s 0 + 1)) dk
  generalize b_s s 0 (s 0 + 1) = z at e e0
  refine ⟨⟨by omega, by rw [e 1 (by omega)]; exact M, by rw [e 2 (by omega)]; exact T, by rw [e 3 (by omega)]; exact E, by rw [e 4 (by omega)]; exact U, ?_, ?_, ?_, ?_, ?_, ?_, ?_, ?_, ?_, ?_, ?_⟩, ?_, hd⟩
  · intro i hi; rw [e _ (by omega)]; exact ct i hi
  · intro i hi hi2; rw [e 1 (by omega)] at hi; rw [e _ (by omega)]; exact cz i hi hi2
  · intro t ht; rw [e 2 (by omega)] at ht; rw [e _ (by omega), e 1 (by omega)]; exact wh t ht
  · intro t ht k hk; rw [e _ (by omega)]; exact ot t ht k hk
  · intro t ht k hk hk2; rw [e0] at hk; rw [e _ (by omega)]; exact otk t ht k (by omega) hk2
  · intro t ht ht2 k hk; rw [e 2 (by omega)] at ht; rw [e _ (by omega)]; exact ott t ht ht2 k hk
  · intro t hi; rw [e 3 (by omega)] at hi; rw [e _ (by omega), e 1 (by omega)]; exact ht t hi
  · intro i hi; rw [e _ (by omega)]; exact pt i hi
  · intro t ht k hk; rw [e _ (by omega)]; exact cl t ht k hk
  · intro t ht k hk hk2; rw [e0] at hk; rw [e _ (by omega)]; exact clk t ht k (by omega) hk2
  · intro i hi; rw [e _ (by omega)]; exact fd i hi
  · intro t ht ht2 k hk; rw [e 3 (by omega)] at ht; rw [e _ (by omega)]; exact clt t ht ht2 k hk
theorem i_Q_lm (h : i_Q s dk) (hp : p ≤ n) (h1 : w_kd b n q p = 1) (hy : k_lm b n q s g dk p = .ok y) : i_Q y.1 y.2.2.1 ∧ p ≤ y.2.2.2 ∧ y.2.2.2 ≤ n := by
  unfold k_lm at hy
  have hn := w_nx_in (w_kd_in (b := b) (n := n) (q := q) (p := p) (by omega) (by omega))
  by_cases c : s 1 = 6
  · rw [if_pos c] at hy
    exact absurd hy (by simp only [reduceCtorEq, not_false_eq_true])
  rw [if_neg c] at hy
  cases q1 : k_fresh b n q g s (w_nx b n q p) with
  | error e =>
    rw [q1] at hy
    exact absurd hy (by simp only [reduceCtorEq, not_false_eq_true])
  | ok p2 =>
  rw [q1] at hy
  obtain ⟨a1, a2, a3, a4, a5⟩ := k_fresh_ok q1
  generalize w_conv (w_le b n q (w_nx b n q p)) = W at hy
  have hy : k_lm2 b n q s (b_s g (6 + s 1) W) dk p2 = .ok y := hy
  unfold k_lm2 at hy
  cases q2 : k_num b n q 0 999 p2 with
  | error e =>
    rw [q2] at hy
    exact absurd hy (by simp only [reduceCtorEq, not_false_eq_true])
  | ok r =>
  rw [q2] at hy
  obtain ⟨b1, b2, b3, b4, b5⟩ := k_num_ok q2
  rw [← Except.ok.inj hy]
  refine ⟨?_, by show p ≤ r.2; omega, b5⟩
  obtain ⟨⟨K, M, T, E, U, ct, cz, wh, ot, otk, ott, ht, pt, cl, clk, fd⟩, clt, hd⟩ := h
  show i_Q (b_s (b_s s (5 + s 1) r.1) 1 (s 1 + 1)) dk
  have e : ∀ i, i ≠ 1 → i ≠ 5 + s 1 → b_s (b_s s (5 + s 1) r.1) 1 (s 1 + 1) i = s i := fun i hi hi2 => by rw [b_sn hi, b_sn hi2]
  have e0 : b_s (b_s s (5 + s 1) r.1) 1 (s 1 + 1) 1 = s 1 + 1 := b_ss
  have e1 : b_s (b_s s (5 + s 1) r.1) 1 (s 1 + 1) (5 + s 1) = r.1 := by rw [b_sn (by omega), b_ss]
  generalize b_s (b_s s (5 + s 1) r.1) 1 (s 1 + 1) = z at e e0 e1
  refine ⟨⟨by rw [e 0 (by omega) (by omega)]; exact K, by omega, by rw [e 2 (by omega) (by omega)]; exact T, by rw [e 3 (by omega) (by omega)]; exact E, by rw [e 4 (by omega) (by omega)]; exact U, ?_, ?_, ?_, ?_, ?_, ?_, ?_, ?_, ?_, ?_, ?_⟩, ?_, hd⟩
  · intro i hi
    by_cases g : i = s 1
    · rw [g, e1]; exact b2
    · rw [e _ (by omega) (by omega)]; exact ct i hi
  · intro i hi hi2; rw [e0] at hi; rw [e _ (by omega) (by omega)]; exact cz i (by omega) hi2
  · intro t ht; rw [e 2 (by omega) (by omega)] at ht; rw [e _ (by omega) (by omega), e0]; have := wh t ht; omega
  · intro t ht k hk; rw [e _ (by omega) (by omega)]; exact ot t ht k hk
  · intro t ht k hk hk2; rw [e 0 (by omega) (by omega)] at hk; rw [e _ (by omega) (by omega)]; exact otk t ht k (by omega) hk2
  · intro t ht ht2 k hk; rw [e 2 (by omega) (by omega)] at ht; rw [e _ (by omega) (by omega)]; exact ott t ht ht2 k hk
  · intro t hi; rw [e 3 (by omega) (by omega)] at hi; rw [e _ (by omega) (by omega), e0]; have := ht t hi; omega
  · intro i hi; rw [e _ (by omega) (by omega)]; exact pt i hi
  · intro t ht k hk; rw [e _ (by omega) (by omega)]; exact cl t ht k hk
  · intro t ht k hk hk2; rw [e 0 (by omega) (by omega)] at hk; rw [e _ (by omega) (by omega)]; exact clk t ht k (by omega) hk2
  · intro i hi; rw [e _ (by omega) (by omega)]; exact fd i hi
  · intro t ht ht2 k hk; rw [e 3 (by omega) (by omega)] at ht; rw [e _ (by omega) (by omega)]; exact clt t ht ht2 k hk
end IQ
