/-! TEXTS: what reading keeps, further -/
section IQ
variable {b : Nat → Nat} {n q p : Nat} {s g : Nat → Nat} {dk : Nat} {y : (Nat → Nat) × (Nat → Nat) × Nat × Nat}
theorem i_Q_lt (h : i_Q s dk) (hp : p ≤ n) (h1 : w_kd b n q p = 1) (hy : k_lt b n q s g dk p = .ok y) : i_Q y.1 y.2.2.1 ∧ p ≤ y.2.2.2 ∧ y.2.2.2 ≤ n := by
  unfold k_lt at hy
  have hn := w_nx_in (w_kd_in (b := b) (n := n) (q := q) (p := p) (by omega) (by omega))
  by_cases c : s 2 = 8
  · rw [if_pos c] at hy
    exact absurd hy (by simp only [reduceCtorEq, not_false_eq_true])
  rw [if_neg c] at hy
  cases q1 : k_fresh b n q g s (w_nx b n q p) with
  | error e =>
    rw [q1] at hy
    exact absurd hy (by simp only [reduceCtorEq, not_false_eq_true])
  | ok p2 =>
  rw [q1] at hy
  obtain ⟨a1, a2, a3, a4, a5⟩ := k_fresh_ok q1
  generalize w_conv (w_le b n q (w_nx b n q p)) = W at hy
  have hy : k_lt2 b n q s (b_s g (12 + s 2) W) dk p2 = .ok y := hy
  unfold k_lt2 at hy
  obtain ⟨⟨K, M, T, E, U, ct, cz, wh, ot, otk, ott, ht, pt, cl, clk, fd⟩, clt, hd⟩ := h
  cases q2 : k_look b n q (fun k => b_s g (12 + s 2) W (6 + k)) (s 1) p2 with
  | error e =>
    rw [q2] at hy
    exact absurd hy (by simp only [reduceCtorEq, not_false_eq_true])
  | ok k =>
  rw [q2] at hy
  have hk := k_look_lt q2
  have hk1 := k_am_lo q2
  have hn2 := w_nx_in (w_kd_in (b := b) (n := n) (q := q) (p := p2) (by omega) (by omega))
  have hy : @Eq (Except (Nat × Nat) ((Nat → Nat) × (Nat → Nat) × Nat × Nat)) (match k_am b n q (b_s g (12 + s 2) W) (s 0) (19 + 6 * s 2) 7 (b_s s (11 + s 2) k) (w_nx b n q p2) with
    | .error e => .error e
    | .ok y => .ok (b_s y.1 2 (s 2 + 1), b_s g (12 + s 2) W, dk, y.2)) (.ok y) := hy
  cases q3 : k_am b n q (b_s g (12 + s 2) W) (s 0) (19 + 6 * s 2) 7 (b_s s (11 + s 2) k) (w_nx b n q p2) with
  | error e =>
    rw [q3] at hy
    exact absurd hy (by simp only [reduceCtorEq, not_false_eq_true])
  | ok v =>
  rw [q3] at hy
  obtain ⟨b1, b2, b3⟩ := k_am_ok _ _ _ _ hn2.2 (fun i hi => by rw [b_sn (by omega)]; exact ot (s 2) (by omega) i hi) q3
  have b4 := k_am_fr _ _ _ _ q3
  rw [← Except.ok.inj hy]
  refine ⟨?_, by show p ≤ v.2; omega, b2⟩
  show i_Q (b_s v.1 2 (s 2 + 1)) dk
  have e : ∀ i, i ≠ 2 → i ≠ 11 + s 2 → (i < 19 + 6 * s 2 ∨ 19 + 6 * s 2 + s 0 ≤ i) → b_s v.1 2 (s 2 + 1) i = s i := fun i x1 x2 x3 => by rw [b_sn x1, b4 i x3, b_sn x2]
  have e0 : b_s v.1 2 (s 2 + 1) 2 = s 2 + 1 := b_ss
  have e1 : b_s v.1 2 (s 2 + 1) (11 + s 2) = k := by rw [b_sn (by omega), b4 _ (by omega), b_ss]
  have e2 : ∀ i, i < 6 → b_s v.1 2 (s 2 + 1) (19 + 6 * s 2 + i) ≤ 9 := fun i hi => by rw [b_sn (by omega)]; exact b3 i hi
  generalize b_s v.1 2 (s 2 + 1) = z at e e0 e1 e2
  have f0 := e 0 (by omega) (by omega) (by omega)
  have f1 := e 1 (by omega) (by omega) (by omega)
  have f3 := e 3 (by omega) (by omega) (by omega)
  refine ⟨⟨by rw [f0]; exact K, by rw [f1]; exact M, by omega, by rw [f3]; exact E, by rw [e 4 (by omega) (by omega) (by omega)]; exact U, ?_, ?_, ?_, ?_, ?_, ?_, ?_, ?_, ?_, ?_, ?_⟩, ?_, hd⟩
  · intro i hi; rw [e _ (by omega) (by omega) (by omega)]; exact ct i hi
  · intro i hi hi2; rw [f1] at hi; rw [e _ (by omega) (by omega) (by omega)]; exact cz i hi hi2
  · intro t ht
    rw [e0] at ht
    rw [f1]
    by_cases g : t = s 2
    · rw [g, e1]; exact hk
    · rw [e _ (by omega) (by omega) (by omega)]; exact wh t (by omega)
  · intro t ht k hk
    by_cases g : t = s 2
    · rw [g]; exact e2 k hk
    · rw [e _ (by omega) (by omega) (by omega)]; exact ot t ht k hk
  · intro t ht k hk hk2; rw [f0] at hk; rw [e _ (by omega) (by omega) (by omega)]; exact otk t ht k hk hk2
  · intro t ht ht2 k hk; rw [e0] at ht; rw [e _ (by omega) (by omega) (by omega)]; exact ott t (by omega) ht2 k hk
  · intro t hi; rw [f3] at hi; rw [e _ (by omega) (by omega) (by omega), f1]; exact ht t hi
  · intro i hi; rw [e _ (by omega) (by omega) (by omega)]; exact pt i hi
  · intro t ht k hk; rw [e _ (by omega) (by omega) (by omega)]; exact cl t ht k hk
  · intro t ht k hk hk2; rw [f0] at hk; rw [e _ (by omega) (by omega) (by omega)]; exact clk t ht k hk hk2
  · intro i hi; rw [e _ (by omega) (by omega) (by omega)]; exact fd i hi
  · intro t ht ht2 k hk; rw [f3] at ht; rw [e _ (by omega) (by omega) (by omega)]; exact clt t ht ht2 k hk
theorem i_Q_le (h : i_Q s dk) (hp : p ≤ n) (h1 : w_kd b n q p = 1) (hy : k_le b n q s g dk p = .ok y) : i_Q y.1 y.2.2.1 ∧ p ≤ y.2.2.2 ∧ y.2.2.2 ≤ n := by
  unfold k_le at hy
  have hn := w_nx_in (w_kd_in (b := b) (n := n) (q := q) (p := p) (by omega) (by omega))
  by_cases c : s 3 = 10
  · rw [if_pos c] at hy
    exact absurd hy (by simp only [reduceCtorEq, not_false_eq_true])
  rw [if_neg c] at hy
  cases q1 : k_fresh b n q g s (w_nx b n q p) with
  | error e =>
    rw [q1] at hy
    exact absurd hy (by simp only [reduceCtorEq, not_false_eq_true])
  | ok p2 =>
  rw [q1] at hy
  obtain ⟨a1, a2, a3, a4, a5⟩ := k_fresh_ok q1
  generalize w_conv (w_le b n q (w_nx b n q p)) = W at hy
  have hy : k_le2 b n q s (b_s g (20 + s 3) W) dk p2 = .ok y := hy
  unfold k_le2 at hy
  obtain ⟨⟨K, M, T, E, U, ct, cz, wh, ot, otk, ott, ht, pt, cl, clk, fd⟩, clt, hd⟩ := h
  cases q2 : k_look b n q (fun k => b_s g (20 + s 3) W (6 + k)) (s 1) p2 with
  | error e =>
    rw [q2] at hy
    exact absurd hy (by simp only [reduceCtorEq, not_false_eq_true])
  | ok k =>
  rw [q2] at hy
  have hk := k_look_lt q2
  have hk1 := k_am_lo q2
  have hn2 := w_nx_in (w_kd_in (b := b) (n := n) (q := q) (p := p2) (by omega) (by omega))
  have hy : @Eq (Except (Nat × Nat) ((Nat → Nat) × (Nat → Nat) × Nat × Nat)) (match k_num b n q 0 99 (w_nx b n q p2) with
    | .error e => .error e
    | .ok r => k_le3 b n q (b_s (b_s s (67 + s 3) k) (77 + s 3) r.1) (b_s g (20 + s 3) W) dk r.2) (.ok y) := hy
  cases q4 : k_num b n q 0 99 (w_nx b n q p2) with
  | error e =>
    rw [q4] at hy
    exact absurd hy (by simp only [reduceCtorEq, not_false_eq_true])
  | ok r =>
  rw [q4] at hy
  obtain ⟨c1, c2, c3, c4, c5⟩ := k_num_ok q4
  have hy : k_le3 b n q (b_s (b_s s (67 + s 3) k) (77 + s 3) r.1) (b_s g (20 + s 3) W) dk r.2 = .ok y := hy
  unfold k_le3 at hy
  have hs0 : b_s (b_s s (67 + s 3) k) (77 + s 3) r.1 0 = s 0 := (b_sn (by omega)).trans (b_sn (by omega))
  have hs3 : b_s (b_s s (67 + s 3) k) (77 + s 3) r.1 3 = s 3 := (b_sn (by omega)).trans (b_sn (by omega))
  rw [hs0, hs3] at hy
  cases q3 : k_am b n q (b_s g (20 + s 3) W) (s 0) (87 + 6 * s 3) 7 (b_s (b_s s (67 + s 3) k) (77 + s 3) r.1) r.2 with
  | error e =>
    rw [q3] at hy
    exact absurd hy (by simp only [reduceCtorEq, not_false_eq_true])
  | ok v =>
  rw [q3] at hy
  obtain ⟨b1, b2, b3⟩ := k_am_ok _ _ _ _ c5 (fun i hi => by rw [b_sn (by omega), b_sn (by omega)]; exact cl (s 3) (by omega) i hi) q3
  have b4 := k_am_fr _ _ _ _ q3
  rw [← Except.ok.inj hy]
  refine ⟨?_, by show p ≤ v.2; omega, b2⟩
  show i_Q (b_s v.1 3 (s 3 + 1)) dk
  have e : ∀ i, i ≠ 3 → i ≠ 67 + s 3 → i ≠ 77 + s 3 → (i < 87 + 6 * s 3 ∨ 87 + 6 * s 3 + s 0 ≤ i) → b_s v.1 3 (s 3 + 1) i = s i := fun i x1 x2 x4 x3 => by rw [b_sn x1, b4 i x3, b_sn x4, b_sn x2]
  have e0 : b_s v.1 3 (s 3 + 1) 3 = s 3 + 1 := b_ss
  have e1 : b_s v.1 3 (s 3 + 1) (67 + s 3) = k := by rw [b_sn (by omega), b4 _ (by omega), b_sn (by omega), b_ss]
  have e3 : b_s v.1 3 (s 3 + 1) (77 + s 3) = r.1 := by rw [b_sn (by omega), b4 _ (by omega), b_ss]
  have e2 : ∀ i, i < 6 → b_s v.1 3 (s 3 + 1) (87 + 6 * s 3 + i) ≤ 9 := fun i hi => by rw [b_sn (by omega)]; exact b3 i hi
  generalize b_s v.1 3 (s 3 + 1) = z at e e0 e1 e2 e3
  have f0 := e 0 (by omega) (by omega) (by omega) (by omega)
  have f1 := e 1 (by omega) (by omega) (by omega) (by omega)
  have f2 := e 2 (by omega) (by omega) (by omega) (by omega)
  refine ⟨⟨by rw [f0]; exact K, by rw [f1]; exact M, by rw [f2]; exact T, by omega, by rw [e 4 (by omega) (by omega) (by omega) (by omega)]; exact U, ?_, ?_, ?_, ?_, ?_, ?_, ?_, ?_, ?_, ?_, ?_⟩, ?_, hd⟩
  · intro i hi; rw [e _ (by omega) (by omega) (by omega) (by omega)]; exact ct i hi
  · intro i hi hi2; rw [f1] at hi; rw [e _ (by omega) (by omega) (by omega) (by omega)]; exact cz i hi hi2
  · intro t ht; rw [f2] at ht; rw [f1, e _ (by omega) (by omega) (by omega) (by omega)]; exact wh t ht
  · intro t ht k hk; rw [e _ (by omega) (by omega) (by omega) (by omega)]; exact ot t ht k hk
  · intro t ht k hk hk2; rw [f0] at hk; rw [e _ (by omega) (by omega) (by omega) (by omega)]; exact otk t ht k hk hk2
  · intro t ht ht2 k hk; rw [f2] at ht; rw [e _ (by omega) (by omega) (by omega) (by omega)]; exact ott t ht ht2 k hk
  · intro t hi
    rw [e0] at hi
    rw [f1]
    by_cases g : t = s 3
    · rw [g, e1]; exact hk
    · rw [e _ (by omega) (by omega) (by omega) (by omega)]; exact ht t (by omega)
  · intro i hi
    by_cases g : i = s 3
    · rw [g, e3]; exact c2
    · rw [e _ (by omega) (by omega) (by omega) (by omega)]; exact pt i hi
  · intro t ht k hk
    by_cases g : t = s 3
    · rw [g]; exact e2 k hk
    · rw [e _ (by omega) (by omega) (by omega) (by omega)]; exact cl t ht k hk
  · intro t ht k hk hk2; rw [f0] at hk; rw [e _ (by omega) (by omega) (by omega) (by omega)]; exact clk t ht k hk hk2
  · intro i hi; rw [e _ (by omega) (by omega) (by omega) (by omega)]; exact fd i hi
  · intro t ht ht2 k hk; rw [e0] at ht; rw [e _ (by omega) (by omega) (by omega) (by omega)]; exact clt t (by omega) ht2 k hk
theorem i_Q_lf (h : i_Q s dk) (hp : p ≤ n) (h1 : w_kd b n q p = 1) (hy : k_lf b n q s g dk p = .ok y) : i_Q y.1 y.2.2.1 ∧ p ≤ y.2.2.2 ∧ y.2.2.2 ≤ n := by
  unfold k_lf at hy
  have hn := w_nx_in (w_kd_in (b := b) (n := n) (q := q) (p := p) (by omega) (by omega))
  cases q2 : k_look b n q (fun k => g (20 + k)) (s 3) (w_nx b n q p) with
  | error e =>
    rw [q2] at hy
    exact absurd hy (by simp only [reduceCtorEq, not_false_eq_true])
  | ok k =>
  rw [q2] at hy
  have hk := k_look_lt q2
  have hk1 := k_am_lo q2
  have hn2 := w_nx_in (w_kd_in (b := b) (n := n) (q := q) (p := w_nx b n q p) (by omega) (by omega))
  have hy : @Eq (Except (Nat × Nat) ((Nat → Nat) × (Nat → Nat) × Nat × Nat)) (if s (147 + k) ≠ 0 then .error (3, w_pl b n q (w_nx b n q p)) else match k_num b n q 1 60 (w_nx b n q (w_nx b n q p)) with
    | .error e => .error e
    | .ok r => .ok (b_s s (147 + k) r.1, g, dk, r.2)) (.ok y) := hy
  by_cases c : s (147 + k) = 0
  · rw [if_neg (fun x => x c)] at hy
    cases q4 : k_num b n q 1 60 (w_nx b n q (w_nx b n q p)) with
    | error e =>
      rw [q4] at hy
      exact absurd hy (by simp only [reduceCtorEq, not_false_eq_true])
    | ok r =>
    rw [q4] at hy
    obtain ⟨c1, c2, c3, c4, c5⟩ := k_num_ok q4
    rw [← Except.ok.inj hy]
    refine ⟨?_, by show p ≤ r.2; omega, c5⟩
    obtain ⟨⟨K, M, T, E, U, ct, cz, wh, ot, otk, ott, ht, pt, cl, clk, fd⟩, clt, hd⟩ := h
    show i_Q (b_s s (147 + k) r.1) dk
    have e : ∀ i, i < 147 → b_s s (147 + k) r.1 i = s i := fun i hi => b_sn (by omega)
    have e0 : b_s s (147 + k) r.1 (147 + k) = r.1 := b_ss
    have e1 : ∀ i, i ≠ k → b_s s (147 + k) r.1 (147 + i) = s (147 + i) := fun i hi => b_sn (by omega)
    generalize b_s s (147 + k) r.1 = z at e e0 e1
    have f0 := e 0 (by omega)
    have f1 := e 1 (by omega)
    have f2 := e 2 (by omega)
    have f3 := e 3 (by omega)
    refine ⟨⟨by rw [f0]; exact K, by rw [f1]; exact M, by rw [f2]; exact T, by rw [f3]; exact E, by rw [e 4 (by omega)]; exact U, ?_, ?_, ?_, ?_, ?_, ?_, ?_, ?_, ?_, ?_, ?_⟩, ?_, hd⟩
    · intro i hi; rw [e _ (by omega)]; exact ct i hi
    · intro i hi hi2; rw [f1] at hi; rw [e _ (by omega)]; exact cz i hi hi2
    · intro t ht; rw [f2] at ht; rw [f1, e _ (by omega)]; exact wh t ht
    · intro t ht k hk; rw [e _ (by omega)]; exact ot t ht k hk
    · intro t ht k hk hk2; rw [f0] at hk; rw [e _ (by omega)]; exact otk t ht k hk hk2
    · intro t ht ht2 k hk; rw [f2] at ht; rw [e _ (by omega)]; exact ott t ht ht2 k hk
    · intro t hi; rw [f3] at hi; rw [f1, e _ (by omega)]; exact ht t hi
    · intro i hi; rw [e _ (by omega)]; exact pt i hi
    · intro t ht k hk; rw [e _ (by omega)]; exact cl t ht k hk
    · intro t ht k hk hk2; rw [f0] at hk; rw [e _ (by omega)]; exact clk t ht k hk hk2
    · intro i hi
      by_cases g : i = k
      · rw [g, e0]; exact c2
      · rw [e1 _ g]; exact fd i hi
    · intro t ht ht2 k hk; rw [f3] at ht; rw [e _ (by omega)]; exact clt t ht ht2 k hk
  · rw [if_pos c] at hy
    exact absurd hy (by simp only [reduceCtorEq, not_false_eq_true])
theorem i_Q_ld (h : i_Q s dk) (hp : p ≤ n) (h1 : w_kd b n q p = 1) (hy : k_ld b n q s g dk p = .ok y) : i_Q y.1 y.2.2.1 ∧ p ≤ y.2.2.2 ∧ y.2.2.2 ≤ n := by
  unfold k_ld at hy
  have hn := w_nx_in (w_kd_in (b := b) (n := n) (q := q) (p := p) (by omega) (by omega))
  by_cases c : dk = 0
  · rw [if_neg (fun x => x c)] at hy
    cases q4 : k_num b n q 0 9 (w_nx b n q p) with
    | error e =>
      rw [q4] at hy
      exact absurd hy (by simp only [reduceCtorEq, not_false_eq_true])
    | ok r =>
    rw [q4] at hy
    obtain ⟨c1, c2, c3, c4, c5⟩ := k_num_ok q4
    rw [← Except.ok.inj hy]
    refine ⟨?_, by show p ≤ r.2; omega, c5⟩
    obtain ⟨⟨K, M, T, E, U, ct, cz, wh, ot, otk, ott, ht, pt, cl, clk, fd⟩, clt, hd⟩ := h
    show i_Q (b_s s 4 r.1) 1
    have e : ∀ i, i ≠ 4 → b_s s 4 r.1 i = s i := fun i hi => b_sn hi
    have e0 : b_s s 4 r.1 4 = r.1 := b_ss
    generalize b_s s 4 r.1 = z at e e0
    have f0 := e 0 (by omega)
    have f1 := e 1 (by omega)
    have f2 := e 2 (by omega)
    have f3 := e 3 (by omega)
    refine ⟨⟨by rw [f0]; exact K, by rw [f1]; exact M, by rw [f2]; exact T, by rw [f3]; exact E, by rw [e0]; exact c2, ?_, ?_, ?_, ?_, ?_, ?_, ?_, ?_, ?_, ?_, ?_⟩, ?_, by decide⟩
    · intro i hi; rw [e _ (by omega)]; exact ct i hi
    · intro i hi hi2; rw [f1] at hi; rw [e _ (by omega)]; exact cz i hi hi2
    · intro t ht; rw [f2] at ht; rw [f1, e _ (by omega)]; exact wh t ht
    · intro t ht k hk; rw [e _ (by omega)]; exact ot t ht k hk
    · intro t ht k hk hk2; rw [f0] at hk; rw [e _ (by omega)]; exact otk t ht k hk hk2
    · intro t ht ht2 k hk; rw [f2] at ht; rw [e _ (by omega)]; exact ott t ht ht2 k hk
    · intro t hi; rw [f3] at hi; rw [f1, e _ (by omega)]; exact ht t hi
    · intro i hi; rw [e _ (by omega)]; exact pt i hi
    · intro t ht k hk; rw [e _ (by omega)]; exact cl t ht k hk
    · intro t ht k hk hk2; rw [f0] at hk; rw [e _ (by omega)]; exact clk t ht k hk hk2
    · intro i hi; rw [e _ (by omega)]; exact fd i hi
    · intro t ht ht2 k hk; rw [f3] at ht; rw [e _ (by omega)]; exact clt t ht ht2 k hk
  · rw [if_pos c] at hy
    exact absurd hy (by simp only [reduceCtorEq, not_false_eq_true])
theorem i_Q_line (h : i_Q s dk) (hp : p ≤ n) (hy : k_line b n q s g dk p = .ok y) : i_Q y.1 y.2.2.1 ∧ p ≤ y.2.2.2 ∧ y.2.2.2 ≤ n := by
  unfold k_line at hy
  have hk : ∀ k, k < 19 → w_ky b n q p = k → w_kd b n q p = 1 := fun k h1 h2 => ((w_ky_iff h1).mp h2).1
  by_cases c0 : w_ky b n q p = 0
  · rw [if_pos c0] at hy; exact i_Q_lk h hp (hk 0 (by decide) c0) hy
  rw [if_neg c0] at hy
  by_cases c1 : w_ky b n q p = 1
  · rw [if_pos c1] at hy; exact i_Q_lm h hp (hk 1 (by decide) c1) hy
  rw [if_neg c1] at hy
  by_cases c2 : w_ky b n q p = 2
  · rw [if_pos c2] at hy; exact i_Q_lt h hp (hk 2 (by decide) c2) hy
  rw [if_neg c2] at hy
  by_cases c3 : w_ky b n q p = 3
  · rw [if_pos c3] at hy; exact i_Q_le h hp (hk 3 (by decide) c3) hy
  rw [if_neg c3] at hy
  by_cases c4 : w_ky b n q p = 4
  · rw [if_pos c4] at hy; exact i_Q_lf h hp (hk 4 (by decide) c4) hy
  rw [if_neg c4] at hy
  by_cases c5 : w_ky b n q p = 5
  · rw [if_pos c5] at hy; exact i_Q_ld h hp (hk 5 (by decide) c5) hy
  rw [if_neg c5] at hy
  exact absurd hy (by simp only [reduceCtorEq, not_false_eq_true])
end IQ
