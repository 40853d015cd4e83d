/-! TEXTS: a line of a market -/
/-- s, words, whether dusk was told, where one is -/
def k_lk (b : Nat → Nat) (n q : Nat) (s g : Nat → Nat) (dk p : Nat) : Except (Nat × Nat) ((Nat → Nat) × (Nat → Nat) × Nat × Nat) := if s 0 = 6 then .error (4, w_pl b n q p) else match k_fresh b n q g s (w_nx b n q p) with
  | .error e => .error e
  | .ok p2 => .ok (b_s s 0 (s 0 + 1), b_s g (s 0) (w_conv (w_le b n q (w_nx b n q p))), dk, p2)
def k_lm2 (b : Nat → Nat) (n q : Nat) (s g : Nat → Nat) (dk p : Nat) : Except (Nat × Nat) ((Nat → Nat) × (Nat → Nat) × Nat × Nat) := match k_num b n q 0 999 p with
  | .error e => .error e
  | .ok r => .ok (b_s (b_s s (5 + s 1) r.1) 1 (s 1 + 1), g, dk, r.2)
def k_lm (b : Nat → Nat) (n q : Nat) (s g : Nat → Nat) (dk p : Nat) : Except (Nat × Nat) ((Nat → Nat) × (Nat → Nat) × Nat × Nat) := if s 1 = 6 then .error (4, w_pl b n q p) else match k_fresh b n q g s (w_nx b n q p) with
  | .error e => .error e
  | .ok p2 => k_lm2 b n q s (b_s g (6 + s 1) (w_conv (w_le b n q (w_nx b n q p)))) dk p2
def k_lt2 (b : Nat → Nat) (n q : Nat) (s g : Nat → Nat) (dk p : Nat) : Except (Nat × Nat) ((Nat → Nat) × (Nat → Nat) × Nat × Nat) := match k_look b n q (fun k => g (6 + k)) (s 1) p with
  | .error e => .error e
  | .ok k => match k_am b n q g (s 0) (19 + 6 * s 2) 7 (b_s s (11 + s 2) k) (w_nx b n q p) with
    | .error e => .error e
    | .ok y => .ok (b_s y.1 2 (s 2 + 1), g, dk, y.2)
def k_lt (b : Nat → Nat) (n q : Nat) (s g : Nat → Nat) (dk p : Nat) : Except (Nat × Nat) ((Nat → Nat) × (Nat → Nat) × Nat × Nat) := if s 2 = 8 then .error (4, w_pl b n q p) else match k_fresh b n q g s (w_nx b n q p) with
  | .error e => .error e
  | .ok p2 => k_lt2 b n q s (b_s g (12 + s 2) (w_conv (w_le b n q (w_nx b n q p)))) dk p2
def k_le3 (b : Nat → Nat) (n q : Nat) (s g : Nat → Nat) (dk p : Nat) : Except (Nat × Nat) ((Nat → Nat) × (Nat → Nat) × Nat × Nat) := match k_am b n q g (s 0) (87 + 6 * s 3) 7 s p with
  | .error e => .error e
  | .ok y => .ok (b_s y.1 3 (s 3 + 1), g, dk, y.2)
def k_le2 (b : Nat → Nat) (n q : Nat) (s g : Nat → Nat) (dk p : Nat) : Except (Nat × Nat) ((Nat → Nat) × (Nat → Nat) × Nat × Nat) := match k_look b n q (fun k => g (6 + k)) (s 1) p with
  | .error e => .error e
  | .ok k => match k_num b n q 0 99 (w_nx b n q p) with
    | .error e => .error e
    | .ok r => k_le3 b n q (b_s (b_s s (67 + s 3) k) (77 + s 3) r.1) g dk r.2
def k_le (b : Nat → Nat) (n q : Nat) (s g : Nat → Nat) (dk p : Nat) : Except (Nat × Nat) ((Nat → Nat) × (Nat → Nat) × Nat × Nat) := if s 3 = 10 then .error (4, w_pl b n q p) else match k_fresh b n q g s (w_nx b n q p) with
  | .error e => .error e
  | .ok p2 => k_le2 b n q s (b_s g (20 + s 3) (w_conv (w_le b n q (w_nx b n q p)))) dk p2
def k_lf (b : Nat → Nat) (n q : Nat) (s g : Nat → Nat) (dk p : Nat) : Except (Nat × Nat) ((Nat → Nat) × (Nat → Nat) × Nat × Nat) := match k_look b n q (fun k => g (20 + k)) (s 3) (w_nx b n q p) with
  | .error e => .error e
  | .ok k => if s (147 + k) ≠ 0 then .error (3, w_pl b n q (w_nx b n q p)) else match k_num b n q 1 60 (w_nx b n q (w_nx b n q p)) with
    | .error e => .error e
    | .ok r => .ok (b_s s (147 + k) r.1, g, dk, r.2)
def k_ld (b : Nat → Nat) (n q : Nat) (s g : Nat → Nat) (dk p : Nat) : Except (Nat × Nat) ((Nat → Nat) × (Nat → Nat) × Nat × Nat) := if dk ≠ 0 then .error (3, w_pl b n q p) else match k_num b n q 0 9 (w_nx b n q p) with
  | .error e => .error e
  | .ok r => .ok (b_s s 4 r.1, g, 1, r.2)
def k_line (b : Nat → Nat) (n q : Nat) (s g : Nat → Nat) (dk p : Nat) : Except (Nat × Nat) ((Nat → Nat) × (Nat → Nat) × Nat × Nat) :=
  if w_ky b n q p = 0 then k_lk b n q s g dk p else if w_ky b n q p = 1 then k_lm b n q s g dk p else if w_ky b n q p = 2 then k_lt b n q s g dk p else if w_ky b n q p = 3 then k_le b n q s g dk p else if w_ky b n q p = 4 then k_lf b n q s g dk p else if w_ky b n q p = 5 then k_ld b n q s g dk p else .error (1, w_pl b n q p)
def y_L (m j : Nat → Nat → Nat) (w : (Nat × Nat) × Bool) (b : Nat → Nat) (n q : Nat) (E : Except (Nat × Nat) ((Nat → Nat) × (Nat → Nat) × Nat × Nat)) (r : A_R) : Prop := match E with
  | .ok y => ∃ m2 j2, r = some (b_h m2 j2 w, some (.int (nI 1))) ∧ y_S m2 j2 b n q y.1 y.2.1 y.2.2.1 y.2.2.2 ∧ y_fr m m2 j j2
  | .error e => ∃ m2 j2, r = some (b_h m2 j2 w, some (.int (nI 0))) ∧ y_E m m2 j j2 e
theorem y_L_o {m j m2 j2 : Nat → Nat → Nat} {w : (Nat × Nat) × Bool} {b : Nat → Nat} {n q : Nat} {E : Except (Nat × Nat) ((Nat → Nat) × (Nat → Nat) × Nat × Nat)} {r : A_R} {y : (Nat → Nat) × (Nat → Nat) × Nat × Nat} (hE : E = .ok y) (h1 : r = some (b_h m2 j2 w, some (.int (nI 1)))) (h2 : y_S m2 j2 b n q y.1 y.2.1 y.2.2.1 y.2.2.2) (h3 : y_fr m m2 j j2) : y_L m j w b n q E r := by
  rw [hE]
  exact ⟨m2, j2, h1, h2, h3⟩
theorem y_L_e {m j m2 j2 : Nat → Nat → Nat} {w : (Nat × Nat) × Bool} {b : Nat → Nat} {n q : Nat} {E : Except (Nat × Nat) ((Nat → Nat) × (Nat → Nat) × Nat × Nat)} {r : A_R} {e : Nat × Nat} (hE : E = .error e) (h1 : r = some (b_h m2 j2 w, some (.int (nI 0)))) (h2 : y_E m m2 j j2 e) : y_L m j w b n q E r := by
  rw [hE]
  exact ⟨m2, j2, h1, h2⟩
theorem y_N_i0 {j : Nat → Nat → Nat} {g s : Nat → Nat} (h : y_N j g s) (hc : s 0 < 6) (hg : g (s 0) < 9223372036854775808) : y_N j g (b_s s 0 (s 0 + 1)) := by
  obtain ⟨h1, h2, h3, h4, h5, h6, h7, h8, h9⟩ := h
  refine ⟨by rw [b_ss]; omega, h2, h3, h4, h5, fun k hk => ?_, h7, h8, h9⟩
  rw [b_ss] at hk
  by_cases c : k = s 0
  · rw [c]; exact hg
  · exact h6 k (by omega)
theorem y_N_i1 {j : Nat → Nat → Nat} {g s : Nat → Nat} (h : y_N j g s) (hc : s 1 < 6) (hg : g (6 + s 1) < 9223372036854775808) : y_N j g (b_s s 1 (s 1 + 1)) := by
  obtain ⟨h1, h2, h3, h4, h5, h6, h7, h8, h9⟩ := h
  refine ⟨h1, by rw [b_ss]; omega, h3, h4, h5, h6, fun k hk => ?_, h8, h9⟩
  rw [b_ss] at hk
  by_cases c : k = s 1
  · rw [c]; exact hg
  · exact h7 k (by omega)
theorem y_N_i2 {j : Nat → Nat → Nat} {g s : Nat → Nat} (h : y_N j g s) (hc : s 2 < 8) (hg : g (12 + s 2) < 9223372036854775808) : y_N j g (b_s s 2 (s 2 + 1)) := by
  obtain ⟨h1, h2, h3, h4, h5, h6, h7, h8, h9⟩ := h
  refine ⟨h1, h2, by rw [b_ss]; omega, h4, h5, h6, h7, fun k hk => ?_, h9⟩
  rw [b_ss] at hk
  by_cases c : k = s 2
  · rw [c]; exact hg
  · exact h8 k (by omega)
theorem y_N_i3 {j : Nat → Nat → Nat} {g s : Nat → Nat} (h : y_N j g s) (hc : s 3 < 10) (hg : g (20 + s 3) < 9223372036854775808) : y_N j g (b_s s 3 (s 3 + 1)) := by
  obtain ⟨h1, h2, h3, h4, h5, h6, h7, h8, h9⟩ := h
  refine ⟨h1, h2, h3, by rw [b_ss]; omega, h5, h6, h7, h8, fun k hk => ?_⟩
  rw [b_ss] at hk
  by_cases c : k = s 3
  · rw [c]; exact hg
  · exact h9 k (by omega)
theorem y_S_cnt {m j : Nat → Nat → Nat} {b : Nat → Nat} {n q : Nat} {s g : Nat → Nat} {dk p v to : Nat} (h : y_S m j b n q s g dk p) (hN : y_N j g (b_s s to v)) (hv : v < 1000) : y_S (b_r m 237 (b_s (m 237) to v)) j b n q (b_s s to v) g dk p ∧ y_fr m (b_r m 237 (b_s (m 237) to v)) j j := by
  obtain ⟨h1, h2, h3, h4, h5, h6⟩ := h
  refine ⟨⟨y_X_fr h1 (b_rn (by decide)) rfl, l_M_c h2 (b_rn (by decide)) rfl, hN, fun x hx => ?_, by rw [b_rn (by decide)]; exact h5, h6⟩, fun c _ c2 => b_rn c2, fun _ _ _ _ => rfl, fun k _ _ _ _ _ _ _ => by rw [b_rn (by decide)]⟩
  rw [b_rs]
  by_cases c : x = to
  · rw [c, b_ss, b_ss]
    exact ⟨rfl, hv⟩
  · rw [b_sn c, b_sn c]
    exact h4 x hx
theorem k_look_lt {b : Nat → Nat} {n q : Nat} {g : Nat → Nat} {many p k : Nat} (h : k_look b n q g many p = .ok k) : k < many := by
  unfold k_look at h
  by_cases c : k_isn b n q p = true
  · rw [if_pos c] at h
    by_cases c2 : w_fd g (w_conv (w_le b n q p)) many = 4294967295
    · rw [if_pos c2] at h
      exact absurd h (by simp only [reduceCtorEq, not_false_eq_true])
    · rw [if_neg c2] at h
      have h2 := Except.ok.inj h
      rcases w_fd_le (g := g) (L := w_conv (w_le b n q p)) (many := many) with a | a
      · exact absurd a c2
      · omega
  · rw [if_neg c] at h
    exact absurd h (by simp only [reduceCtorEq, not_false_eq_true])
/-- amounts are put to their own row only -/
theorem k_am_fr {b : Nat → Nat} {n q : Nat} {g : Nat → Nat} {kinds to : Nat} : ∀ f s p y, k_am b n q g kinds to f s p = .ok y → ∀ i, i < to ∨ to + kinds ≤ i → y.1 i = s i
  | 0, s, p, y, h, i, hi => by
    unfold k_am at h
    exact absurd h (by simp only [reduceCtorEq, not_false_eq_true])
  | f + 1, s, p, y, h, i, hi => by
    by_cases c1 : w_kd b n q p = 59
    · rw [k_am_1 c1] at h
      rw [← Except.ok.inj h]
    · cases h2 : k_look b n q g kinds p with
      | error e =>
        rw [k_am_2 c1 h2] at h
        exact absurd h (by simp only [reduceCtorEq, not_false_eq_true])
      | ok k =>
        have hk := k_look_lt h2
        by_cases c2 : s (to + k) = 0
        · cases h3 : k_num b n q 1 9 (w_nx b n q p) with
          | error e =>
            rw [k_am_4 c1 h2 c2 h3] at h
            exact absurd h (by simp only [reduceCtorEq, not_false_eq_true])
          | ok r =>
            rw [k_am_5 c1 h2 c2 h3] at h
            rw [k_am_fr f _ _ y h i hi, b_sn (by omega)]
        · rw [k_am_3 c1 h2 c2] at h
          exact absurd h (by simp only [reduceCtorEq, not_false_eq_true])
theorem y_S_dk {m j : Nat → Nat → Nat} {b : Nat → Nat} {n q : Nat} {s g : Nat → Nat} {dk p : Nat} (h : y_S m j b n q s g dk p) : y_S (b_r m 234 (b_s (m 234) 20 1)) j b n q s g 1 p ∧ y_fr m (b_r m 234 (b_s (m 234) 20 1)) j j := by
  obtain ⟨h1, h2, h3, h4, h5, h6⟩ := h
  exact ⟨⟨y_X_fr h1 (b_rn (by decide)) rfl, l_M_18 h2 (by decide) (by decide) (by decide) (by decide) (by decide) (by decide), h3, fun x hx => by rw [b_rn (by decide)]; exact h4 x hx, by rw [b_rs, b_ss], h6⟩, fun c c1 _ => b_rn c1, fun _ _ _ _ => rfl, fun k _ _ _ _ _ _ k7 => by rw [b_rs, b_sn k7]⟩
section LN
variable {X : Nat × (Nat → Int32)} {tx : List Int32} {D : Nat} {m j : Nat → Nat → Nat} {w : (Nat × Nat) × Bool} {b : Nat → Nat} {n q p : Nat} {s g : Nat → Nat} {dk : Nat}
theorem s_Mo_freshS (h : y_S m j b n q s g dk p) (hD : 4 ≤ D) {x to : Nat} (hx : x < 30) (ht : to = 30 + x) : match k_fresh b n q g s p with
    | .ok p2 => ∃ m2 j2, a_ex X tx a_T D 220 [.ref 234, .int (nI to)] (b_h m j w) = some (b_h m2 j2 w, some (.int (nI 1))) ∧ y_S m2 j2 b n q s (b_s g x (w_conv (w_le b n q p))) dk p2 ∧ y_fr m m2 j j2 ∧ w_conv (w_le b n q p) < 9223372036854775808
    | .error e => ∃ m2 j2, a_ex X tx a_T D 220 [.ref 234, .int (nI to)] (b_h m j w) = some (b_h m2 j2 w, some (.int (nI 0))) ∧ y_E m m2 j j2 e := by
  obtain ⟨h1, h2, h3, h4, h5, h6⟩ := id h
  have s1 := s_Mo_fresh (X := X) (tx := tx) (D := D) (w := w) h1 h2 hD h3 (fun x hx => (h4 x (by omega)).1) (to := to) (by omega)
  cases hr : k_fresh b n q g s p with
  | error e =>
    rw [hr] at s1
    obtain ⟨m2, j2, e1, e2⟩ := s1
    exact ⟨m2, j2, e1, y_E_x e2⟩
  | ok p2 =>
    rw [hr] at s1
    obtain ⟨m2, j2, e1, e2⟩ := s1
    have hk : w_kd b n q p = 1 := by
      unfold k_fresh at hr
      by_cases c : k_isn b n q p = true
      · exact k_isn_1 c
      · rw [if_neg c] at hr
        exact absurd hr (by simp only [reduceCtorEq, not_false_eq_true])
    have hW := w_conv_b (w_le_lt (y_X_b h1) hk)
    have hS : y_S m (b_r j 239 (b_s (j 239) to (w_conv (w_le b n q p)))) b n q s (b_s g x (w_conv (w_le b n q p))) dk p := by
      obtain ⟨n1, n2, n3, n4, n5, n6, n7, n8, n9⟩ := h3
      have hg : ∀ k, g k < 9223372036854775808 → b_s g x (w_conv (w_le b n q p)) k < 9223372036854775808 := fun k hk => by
        by_cases c : k = x
        · rw [c, b_ss]; exact hW
        · rw [b_sn c]; exact hk
      refine ⟨y_X_fr h1 rfl (b_rn (by decide)), l_M_c h2 rfl (b_rn (by decide)), ⟨n1, n2, n3, n4, fun k hk => ?_, fun k hk => hg _ (n6 k hk), fun k hk => hg _ (n7 k hk), fun k hk => hg _ (n8 k hk), fun k hk => hg _ (n9 k hk)⟩, h4, h5, h6⟩
      rw [b_rs, ht]
      by_cases c : k = x
      · rw [c, b_ss, b_ss]
      · rw [b_sn c, b_sn (by omega)]
        exact n5 k hk
    obtain ⟨g1, g2⟩ := y_S_o hS e2
    exact ⟨m2, j2, e1, g1, y_fr_t ⟨fun _ _ _ => rfl, fun c y _ c2 => by
      by_cases c3 : c = 239
      · rw [c3, b_rs, b_sn (by omega)]
      · rw [b_rn c3], fun _ _ _ _ _ _ _ _ => rfl⟩ g2, hW⟩
end LN
