/-! MATCHES: which ending each thing is given, pure -/
/-- may e come next, at the least coin -/
def w_cc (s : Nat → Nat) (set t u e : Nat) : Bool := w_ends s e t && !(u.testBit e) && decide (s (251 + e) + w_stv s set (s 2 - (t + 1)) (u ||| 2 ^ e) = w_stv s set (s 2 - t) u)
def w_ch (s : Nat → Nat) (set t u : Nat) : Nat := z_fst (w_cc s set t u) (s 3) 0
/-- what is given ahead of thing t: the endings, and which thing has which -/
def w_stp (s : Nat → Nat) (set : Nat) : Nat → Nat × (Nat → Nat)
  | 0 => (0, fun _ => 4294967295)
  | t + 1 => if w_nd s set t = true then ((w_stp s set t).1 ||| 2 ^ w_ch s set t (w_stp s set t).1, b_s (w_stp s set t).2 t (w_ch s set t (w_stp s set t).1)) else w_stp s set t
theorem w_stp_t {s : Nat → Nat} {set t : Nat} (h : w_nd s set t = true) : w_stp s set (t + 1) = ((w_stp s set t).1 ||| 2 ^ w_ch s set t (w_stp s set t).1, b_s (w_stp s set t).2 t (w_ch s set t (w_stp s set t).1)) := by
  have h1 : w_stp s set (t + 1) = if w_nd s set t = true then ((w_stp s set t).1 ||| 2 ^ w_ch s set t (w_stp s set t).1, b_s (w_stp s set t).2 t (w_ch s set t (w_stp s set t).1)) else w_stp s set t := rfl
  rw [h1, if_pos h]
theorem w_stp_f {s : Nat → Nat} {set t : Nat} (h : w_nd s set t = false) : w_stp s set (t + 1) = w_stp s set t := by
  have h1 : w_stp s set (t + 1) = if w_nd s set t = true then ((w_stp s set t).1 ||| 2 ^ w_ch s set t (w_stp s set t).1, b_s (w_stp s set t).2 t (w_ch s set t (w_stp s set t).1)) else w_stp s set t := rfl
  rw [h1, if_neg (by rw [h]; decide)]
theorem w_lst_ex {s : Nat → Nat} {t u : Nat} {g : Nat → Nat} : ∀ n, w_lst s t u g n < 1000000 → ∃ e, e < n ∧ u.testBit e = false ∧ w_ends s e t = true ∧ s (251 + e) + g (u ||| 2 ^ e) = w_lst s t u g n
  | 0, h => absurd h (by unfold w_lst; omega)
  | n + 1, h => by
    have e1 : w_lst s t u g (n + 1) = if u.testBit n = false ∧ w_ends s n t = true then min (w_lst s t u g n) (s (251 + n) + g (u ||| 2 ^ n)) else w_lst s t u g n := rfl
    rw [e1] at h ⊢
    by_cases c : u.testBit n = false ∧ w_ends s n t = true
    · rw [if_pos c] at h ⊢
      by_cases c2 : w_lst s t u g n ≤ s (251 + n) + g (u ||| 2 ^ n)
      · obtain ⟨e, h1, h2, h3, h4⟩ := w_lst_ex (s := s) (t := t) (u := u) (g := g) n (by omega)
        exact ⟨e, by omega, h2, h3, by omega⟩
      · exact ⟨n, by omega, c.1, c.2, by omega⟩
    · rw [if_neg c] at h ⊢
      obtain ⟨e, h1, h2, h3, h4⟩ := w_lst_ex (s := s) (t := t) (u := u) (g := g) n h
      exact ⟨e, by omega, h2, h3, h4⟩
theorem w_ch_spec {s : Nat → Nat} {set t u : Nat} (ht : t < s 2) (hn : w_nd s set t = true) (hV : w_stv s set (s 2 - t) u < 1000000) : w_ch s set t u < s 3 ∧ w_cc s set t u (w_ch s set t u) = true ∧ ∀ e, e < w_ch s set t u → w_cc s set t u e = false := by
  obtain ⟨h1, h2, h3, h4⟩ := z_fst_spec (w_cc s set t u) (s 3) 0
  have e1 := w_stv_succ (s := s) (set := set) (t := t) (q := s 2 - (t + 1)) (u := u) (by omega)
  rw [hn, if_pos rfl, show s 2 - (t + 1) + 1 = s 2 - t by omega] at e1
  rw [e1] at hV
  obtain ⟨e, g1, g2, g3, g4⟩ := w_lst_ex _ hV
  have g5 : w_cc s set t u e = true := by
    unfold w_cc
    rw [g2, g3, e1, decide_eq_true g4]
    rfl
  have g6 : w_ch s set t u ≤ e := Nat.le_of_not_lt fun c => by
    have := h3 e (Nat.zero_le _) c
    rw [g5] at this
    exact absurd this (by decide)
  have g7 : w_ch s set t u < s 3 := by omega
  exact ⟨g7, h4 (by rw [Nat.zero_add]; exact g7), fun e he => h3 e (Nat.zero_le _) he⟩
theorem w_stp_ok {s : Nat → Nat} {set : Nat} (hE : s 3 ≤ 10) (h0 : w_stv s set (s 2) 0 < 1000000) : ∀ t, t ≤ s 2 → (w_stp s set t).1 < 2 ^ s 3 ∧ w_pc (w_stp s set t).1 = w_ndn s set t ∧ w_stv s set (s 2 - t) (w_stp s set t).1 < 1000000
  | 0, _ => ⟨Nat.two_pow_pos _, by show w_pc 0 = 0; decide +kernel, h0⟩
  | t + 1, ht => by
    obtain ⟨h1, h2, h3⟩ := w_stp_ok hE h0 t (by omega)
    have hP : 2 ^ s 3 ≤ 1024 := Nat.pow_le_pow_right (n := 2) (by decide) hE
    have h5 : w_ndn s set (t + 1) = w_ndn s set t + b_b (w_nd s set t) := rfl
    cases hn : w_nd s set t with
    | true =>
      obtain ⟨g1, g2, g3⟩ := w_ch_spec (by omega) hn h3
      rw [hn, b_bt] at h5
      rw [w_stp_t hn]
      unfold w_cc at g2
      rw [Bool.and_eq_true, Bool.and_eq_true, Bool.not_eq_true', decide_eq_true_eq] at g2
      refine ⟨Nat.or_lt_two_pow h1 (Nat.pow_lt_pow_right (by decide) g1), ?_, by show w_stv s set (s 2 - (t + 1)) ((w_stp s set t).1 ||| 2 ^ w_ch s set t (w_stp s set t).1) < 1000000; omega⟩
      show w_pc ((w_stp s set t).1 ||| 2 ^ w_ch s set t (w_stp s set t).1) = _
      rw [w_pc_or _ (by omega) _ (by omega) g2.1.2, h2, h5]
    | false =>
      rw [hn, b_bf] at h5
      have e1 := w_stv_succ (s := s) (set := set) (t := t) (q := s 2 - (t + 1)) (u := (w_stp s set t).1) (by omega)
      rw [hn, if_neg (by decide), show s 2 - (t + 1) + 1 = s 2 - t by omega] at e1
      rw [w_stp_f hn]
      exact ⟨h1, by omega, by omega⟩
theorem w_stp_skip {s : Nat → Nat} {set a : Nat} : ∀ b, a ≤ b → w_ndn s set a = w_ndn s set b → w_stp s set a = w_stp s set b
  | 0, h, _ => by rw [show a = 0 by omega]
  | b + 1, h, he => by
    by_cases c : a = b + 1
    · rw [c]
    · have h1 : w_ndn s set a ≤ w_ndn s set b := z_sum_le_n b (by omega)
      have h2 : w_ndn s set (b + 1) = w_ndn s set b + b_b (w_nd s set b) := rfl
      have h4 : w_nd s set b = false := by
        cases g : w_nd s set b with
        | false => rfl
        | true => rw [g, b_bt] at h2; omega
      rw [w_stp_f h4]
      exact w_stp_skip b (by omega) (by omega)
theorem w_stp_eq {s : Nat → Nat} {set a b : Nat} (he : w_ndn s set a = w_ndn s set b) : w_stp s set a = w_stp s set b := by
  by_cases c : a ≤ b
  · exact w_stp_skip b c he
  · exact (w_stp_skip a (by omega) he.symm).symm
theorem w_stp_hi {s : Nat → Nat} {set : Nat} : ∀ t i, t ≤ i → (w_stp s set t).2 i = 4294967295
  | 0, _, _ => rfl
  | t + 1, i, h => by
    cases hn : w_nd s set t with
    | true =>
      rw [w_stp_t hn]
      exact (b_sn (by omega)).trans (w_stp_hi t i (by omega))
    | false =>
      rw [w_stp_f hn]
      exact w_stp_hi t i (by omega)
/-- the class's choice is the reference's -/
theorem w_fb_cc {s : Nat → Nat} {set t u : Nat} {f : Nat → Nat} (hE : s 3 ≤ 10) (hp : ∀ e, e < 10 → s (251 + e) ≤ 99) (ht : t < s 2) (hn : w_nd s set t = true) (hu : u < 2 ^ s 3) (hc : w_pc u = w_ndn s set t) (hV : w_stv s set (s 2 - t) u < 1000000) (hf : ∀ v, v < 2 ^ s 3 → w_rs s set f v) {e : Nat} (he : e < s 3) : w_fb s t u f e = w_cc s set t u e := by
  have hP : 2 ^ s 3 ≤ 1024 := Nat.pow_le_pow_right (n := 2) (by decide) hE
  unfold w_fb w_cc
  cases hb : u.testBit e with
  | true => rw [show (!true) = false from rfl, Bool.and_false, Bool.false_and, Bool.false_and]
  | false =>
    congr 1
    have h4 : w_ndn s set (t + 1) = w_ndn s set t + b_b (w_nd s set t) := rfl
    rw [hn, b_bt] at h4
    have hu2 : u ||| 2 ^ e < 2 ^ s 3 := Nat.or_lt_two_pow hu (Nat.pow_lt_pow_right (by decide) he)
    have hpc := w_pc_or e (by omega) u (by omega) hb
    rw [(hf u hu).2 t (by omega) hc.symm, (hf _ hu2).2 (t + 1) (by omega) (by omega)]
    have h1 := hp e (by omega)
    have h2 := w_stv_b (s := s) (set := set) hE hp (s 2 - (t + 1)) (u ||| 2 ^ e)
    have h3 := w_stv_le (s := s) (set := set) (s 2 - (t + 1)) (u ||| 2 ^ e)
    generalize w_stv s set (s 2 - (t + 1)) (u ||| 2 ^ e) = G at h2 h3
    generalize w_stv s set (s 2 - t) u = V at hV
    unfold w_no
    rw [if_pos hV]
    by_cases c : G < 1000000
    · rw [if_pos c, if_neg (by omega), Nat.add_comm]
    · rw [if_neg c, if_pos rfl, decide_eq_false (by omega), decide_eq_false (by omega)]
