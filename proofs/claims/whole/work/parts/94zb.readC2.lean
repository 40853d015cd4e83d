/-! TEXTS: the class reads a market -/
section K4
variable {b : Nat → Nat} {n q p : Nat} {s g : Nat → Nat} {dk : Nat} {y : (Nat → Nat) × (Nat → Nat) × Nat × Nat}
theorem z_exn {α β : Type} {e : α} {y : β} {P : Prop} (h : (Except.error e : Except α β) = .ok y) : P := absurd h (by simp only [reduceCtorEq, not_false_eq_true])
theorem k_lk_4 (hy : k_lk b n q s g dk p = .ok y) (h : dk = 0 → s 4 = 1) : y.2.2.1 = 0 → y.1 4 = 1 := by
  unfold k_lk at hy
  by_cases c : s 0 = 6
  · rw [if_pos c] at hy
    exact z_exn hy
  rw [if_neg c] at hy
  cases q1 : k_fresh b n q g s (w_nx b n q p) with
  | error e =>
    rw [q1] at hy
    exact z_exn hy
  | ok p2 =>
    rw [q1] at hy
    rw [← Except.ok.inj hy]
    intro hd
    show b_s s 0 (s 0 + 1) 4 = 1
    rw [b_sn (by decide)]
    exact h hd
theorem k_lm_4 (hy : k_lm b n q s g dk p = .ok y) (h : dk = 0 → s 4 = 1) : y.2.2.1 = 0 → y.1 4 = 1 := by
  unfold k_lm at hy
  by_cases c : s 1 = 6
  · rw [if_pos c] at hy
    exact z_exn hy
  rw [if_neg c] at hy
  cases q1 : k_fresh b n q g s (w_nx b n q p) with
  | error e =>
    rw [q1] at hy
    exact z_exn hy
  | ok p2 =>
    rw [q1] at hy
    generalize w_conv (w_le b n q (w_nx b n q p)) = W at hy
    have hy : k_lm2 b n q s (b_s g (6 + s 1) W) dk p2 = .ok y := hy
    unfold k_lm2 at hy
    cases q2 : k_num b n q 0 999 p2 with
    | error e =>
      rw [q2] at hy
      exact z_exn hy
    | ok r =>
      rw [q2] at hy
      rw [← Except.ok.inj hy]
      intro hd
      show b_s (b_s s (5 + s 1) r.1) 1 (s 1 + 1) 4 = 1
      rw [b_sn (by decide), b_sn (by omega)]
      exact h hd
theorem k_lt_4 (hy : k_lt b n q s g dk p = .ok y) (h : dk = 0 → s 4 = 1) : y.2.2.1 = 0 → y.1 4 = 1 := by
  unfold k_lt at hy
  by_cases c : s 2 = 8
  · rw [if_pos c] at hy
    exact z_exn hy
  rw [if_neg c] at hy
  cases q1 : k_fresh b n q g s (w_nx b n q p) with
  | error e =>
    rw [q1] at hy
    exact z_exn hy
  | ok p2 =>
    rw [q1] at hy
    generalize w_conv (w_le b n q (w_nx b n q p)) = W at hy
    have hy : k_lt2 b n q s (b_s g (12 + s 2) W) dk p2 = .ok y := hy
    unfold k_lt2 at hy
    cases q2 : k_look b n q (fun k => b_s g (12 + s 2) W (6 + k)) (s 1) p2 with
    | error e =>
      rw [q2] at hy
      exact z_exn hy
    | ok k =>
      rw [q2] at hy
      have hy : @Eq (Except (Nat × Nat) ((Nat → Nat) × (Nat → Nat) × Nat × Nat)) (match k_am b n q (b_s g (12 + s 2) W) (s 0) (19 + 6 * s 2) 7 (b_s s (11 + s 2) k) (w_nx b n q p2) with
        | .error e => .error e
        | .ok y => .ok (b_s y.1 2 (s 2 + 1), b_s g (12 + s 2) W, dk, y.2)) (.ok y) := hy
      cases q3 : k_am b n q (b_s g (12 + s 2) W) (s 0) (19 + 6 * s 2) 7 (b_s s (11 + s 2) k) (w_nx b n q p2) with
      | error e =>
        rw [q3] at hy
        exact z_exn hy
      | ok v =>
        rw [q3] at hy
        have hv := k_am_fr 7 _ _ _ q3 4 (by omega)
        rw [← Except.ok.inj hy]
        intro hd
        show b_s v.1 2 (s 2 + 1) 4 = 1
        rw [b_sn (by decide), hv, b_sn (by omega)]
        exact h hd
theorem k_le_4 (hy : k_le b n q s g dk p = .ok y) (h : dk = 0 → s 4 = 1) : y.2.2.1 = 0 → y.1 4 = 1 := by
  unfold k_le at hy
  by_cases c : s 3 = 10
  · rw [if_pos c] at hy
    exact z_exn hy
  rw [if_neg c] at hy
  cases q1 : k_fresh b n q g s (w_nx b n q p) with
  | error e =>
    rw [q1] at hy
    exact z_exn hy
  | ok p2 =>
    rw [q1] at hy
    generalize w_conv (w_le b n q (w_nx b n q p)) = W at hy
    have hy : k_le2 b n q s (b_s g (20 + s 3) W) dk p2 = .ok y := hy
    unfold k_le2 at hy
    cases q2 : k_look b n q (fun k => b_s g (20 + s 3) W (6 + k)) (s 1) p2 with
    | error e =>
      rw [q2] at hy
      exact z_exn hy
    | ok k =>
      rw [q2] at hy
      have hy : @Eq (Except (Nat × Nat) ((Nat → Nat) × (Nat → Nat) × Nat × Nat)) (match k_num b n q 0 99 (w_nx b n q p2) with
        | .error e => .error e
        | .ok r => k_le3 b n q (b_s (b_s s (67 + s 3) k) (77 + s 3) r.1) (b_s g (20 + s 3) W) dk r.2) (.ok y) := hy
      cases q4 : k_num b n q 0 99 (w_nx b n q p2) with
      | error e =>
        rw [q4] at hy
        exact z_exn hy
      | ok r =>
        rw [q4] at hy
        have hy : k_le3 b n q (b_s (b_s s (67 + s 3) k) (77 + s 3) r.1) (b_s g (20 + s 3) W) dk r.2 = .ok y := hy
        have h4 : b_s (b_s s (67 + s 3) k) (77 + s 3) r.1 4 = s 4 := by rw [b_sn (by omega), b_sn (by omega)]
        generalize b_s (b_s s (67 + s 3) k) (77 + s 3) r.1 = S at hy h4
        unfold k_le3 at hy
        cases q3 : k_am b n q (b_s g (20 + s 3) W) (S 0) (87 + 6 * S 3) 7 S r.2 with
        | error e =>
          rw [q3] at hy
          exact z_exn hy
        | ok v =>
          rw [q3] at hy
          have hv := k_am_fr 7 _ _ _ q3 4 (by omega)
          rw [← Except.ok.inj hy]
          intro hd
          show b_s v.1 3 (S 3 + 1) 4 = 1
          rw [b_sn (by decide), hv, h4]
          exact h hd
theorem k_lf_4 (hy : k_lf b n q s g dk p = .ok y) (h : dk = 0 → s 4 = 1) : y.2.2.1 = 0 → y.1 4 = 1 := by
  unfold k_lf at hy
  cases q2 : k_look b n q (fun k => g (20 + k)) (s 3) (w_nx b n q p) with
  | error e =>
    rw [q2] at hy
    exact z_exn hy
  | ok k =>
    rw [q2] at hy
    have hy : @Eq (Except (Nat × Nat) ((Nat → Nat) × (Nat → Nat) × Nat × Nat)) (if s (147 + k) ≠ 0 then .error (3, w_pl b n q (w_nx b n q p)) else match k_num b n q 1 60 (w_nx b n q (w_nx b n q p)) with | .error e => .error e | .ok r => .ok (b_s s (147 + k) r.1, g, dk, r.2)) (.ok y) := hy
    by_cases c : s (147 + k) ≠ 0
    · rw [if_pos c] at hy
      exact z_exn hy
    rw [if_neg c] at hy
    cases q3 : k_num b n q 1 60 (w_nx b n q (w_nx b n q p)) with
    | error e =>
      rw [q3] at hy
      exact z_exn hy
    | ok r =>
      rw [q3] at hy
      rw [← Except.ok.inj hy]
      intro hd
      show b_s s (147 + k) r.1 4 = 1
      rw [b_sn (by omega)]
      exact h hd
theorem k_ld_4 (hy : k_ld b n q s g dk p = .ok y) : y.2.2.1 = 0 → y.1 4 = 1 := by
  unfold k_ld at hy
  by_cases c : dk ≠ 0
  · rw [if_pos c] at hy
    exact z_exn hy
  rw [if_neg c] at hy
  cases q3 : k_num b n q 0 9 (w_nx b n q p) with
  | error e =>
    rw [q3] at hy
    exact z_exn hy
  | ok r =>
    rw [q3] at hy
    rw [← Except.ok.inj hy]
    intro hd
    exact absurd hd (by show ¬ ((1 : Nat) = 0); decide)
/-- without the word dusk, dusk is one -/
theorem k_line_4 (hy : k_line b n q s g dk p = .ok y) (h : dk = 0 → s 4 = 1) : y.2.2.1 = 0 → y.1 4 = 1 := by
  unfold k_line at hy
  by_cases c0 : w_ky b n q p = 0
  · rw [if_pos c0] at hy; exact k_lk_4 hy h
  rw [if_neg c0] at hy
  by_cases c1 : w_ky b n q p = 1
  · rw [if_pos c1] at hy; exact k_lm_4 hy h
  rw [if_neg c1] at hy
  by_cases c2 : w_ky b n q p = 2
  · rw [if_pos c2] at hy; exact k_lt_4 hy h
  rw [if_neg c2] at hy
  by_cases c3 : w_ky b n q p = 3
  · rw [if_pos c3] at hy; exact k_le_4 hy h
  rw [if_neg c3] at hy
  by_cases c4 : w_ky b n q p = 4
  · rw [if_pos c4] at hy; exact k_lf_4 hy h
  rw [if_neg c4] at hy
  by_cases c5 : w_ky b n q p = 5
  · rw [if_pos c5] at hy; exact k_ld_4 hy
  rw [if_neg c5] at hy
  exact z_exn hy
end K4
/-- what a read market answers: E's facts, lines -/
def x_R (m j : Nat → Nat → Nat) (w : (Nat × Nat) × Bool) (b : Nat → Nat) (n q : Nat) (E : Except (Nat × Nat) ((Nat → Nat) × (Nat → Nat) × Nat × Nat)) (r : A_R) : Prop := match E with
  | .ok y => ∃ m2 j2, r = some (b_h m2 j2 w, some (.int (nI 1))) ∧ (∃ p, l_S m2 j2 b n q y.1 y.2.1 1 p) ∧ m2 15 4 = y.2.2.2 ∧ (∀ c, c ≠ 1 → c < 15 ∨ 25 < c → m2 c = m c) ∧ (∀ c, c ≠ 1 → c ≠ 16 → j2 c = j c) ∧ m2 1 10 = m 1 10 ∧ m2 1 11 = m 1 11
  | .error e => ∃ m2 j2, r = some (b_h m2 j2 w, some (.int (nI 0))) ∧ x_E m m2 j j2 e
theorem x_R_o {m j m2 j2 : Nat → Nat → Nat} {w : (Nat × Nat) × Bool} {b : Nat → Nat} {n q : Nat} {E : Except (Nat × Nat) ((Nat → Nat) × (Nat → Nat) × Nat × Nat)} {r : A_R} {y : (Nat → Nat) × (Nat → Nat) × Nat × Nat} (hE : E = .ok y) (h1 : r = some (b_h m2 j2 w, some (.int (nI 1)))) {p : Nat} (h2 : l_S m2 j2 b n q y.1 y.2.1 1 p) (h3 : m2 15 4 = y.2.2.2) (h4 : ∀ c, c ≠ 1 → c < 15 ∨ 25 < c → m2 c = m c) (h5 : ∀ c, c ≠ 1 → c ≠ 16 → j2 c = j c) (h6 : m2 1 10 = m 1 10) (h7 : m2 1 11 = m 1 11) : x_R m j w b n q E r := by
  rw [hE]
  exact ⟨m2, j2, h1, ⟨p, h2⟩, h3, h4, h5, h6, h7⟩
theorem x_R_e {m j m2 j2 : Nat → Nat → Nat} {w : (Nat × Nat) × Bool} {b : Nat → Nat} {n q : Nat} {E : Except (Nat × Nat) ((Nat → Nat) × (Nat → Nat) × Nat × Nat)} {r : A_R} {e : Nat × Nat} (hE : E = .error e) (h1 : r = some (b_h m2 j2 w, some (.int (nI 0)))) (h2 : x_E m m2 j j2 e) : x_R m j w b n q E r := by
  rw [hE]
  exact ⟨m2, j2, h1, h2⟩
/-- dusk, when its word is wanting -/
theorem l_S_du {m j : Nat → Nat → Nat} {b : Nat → Nat} {n q : Nat} {s N : Nat → Nat} {dk p : Nat} (h : l_S m j b n q s N dk p) (h4 : dk = 0 → s 4 = 1) : l_S (if dk = 0 then b_r m 15 (b_s (m 15) 5 1) else m) j b n q s N 1 p := by
  obtain ⟨x1, x2, x3, x4, x5, x6, x7, x8, x9, x10, x11, x12, x13, x14, x15, x16, x17, x18⟩ := id h
  have hQ : i_Q s 1 := ⟨x18.1, x18.2.1, by decide⟩
  by_cases c : dk = 0
  · rw [if_pos c]
    refine ⟨l_X_fr x1 (b_rn (by decide)) rfl, (b_rn (by decide)).trans x2, l_C_c x3 (b_rn (by decide)) (b_rn (by decide)) rfl, x4, by rw [b_rs, b_sn (by decide)]; exact x5, by rw [b_rs, b_sn (by decide)]; exact x6, by rw [b_rs, b_sn (by decide)]; exact x7, by rw [b_rs, b_sn (by decide)]; exact x8, by rw [b_rs, b_ss, if_neg (by decide)]; exact (h4 c).symm, by rw [b_rs, b_rn (by decide), b_rn (by decide), b_sn (by decide)]; exact x10, ?_, ?_, ?_, ?_, ?_, ?_, ?_, hQ⟩
    · rw [b_rn (by decide)]; exact x11
    · rw [b_rn (by decide)]; exact x12
    · rw [b_rn (by decide)]; exact x13
    · rw [b_rn (by decide)]; exact x14
    · rw [b_rn (by decide)]; exact x15
    · rw [b_rn (by decide)]; exact x16
    · rw [b_rn (by decide)]; exact x17
  · rw [if_neg c]
    rw [if_neg c] at x9
    exact ⟨x1, x2, x3, x4, x5, x6, x7, x8, by rw [if_neg (by decide)]; exact x9, x10, x11, x12, x13, x14, x15, x16, x17, hQ⟩
