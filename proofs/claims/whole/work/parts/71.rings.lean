/-! RINGS, pure -/
/-- with which ending a man comes: looked for from the last k back -/
def w_bra (s : Nat → Nat) (q : Nat) : Nat → Nat
  | 0 => 4294967295
  | k + 1 => if s (241 + (s 3 - (k + 1))) = q then s 3 - (k + 1) else w_bra s q k
def w_br (s : Nat → Nat) (q : Nat) : Nat := w_bra s q (s 3)
theorem w_bra_spec {s : Nat → Nat} {q : Nat} : ∀ k, k ≤ s 3 → (w_bra s q k = 4294967295 ∧ ∀ e, s 3 - k ≤ e → e < s 3 → s (241 + e) ≠ q) ∨ (s 3 - k ≤ w_bra s q k ∧ w_bra s q k < s 3 ∧ s (241 + w_bra s q k) = q ∧ ∀ e, s 3 - k ≤ e → e < w_bra s q k → s (241 + e) ≠ q)
  | 0, _ => Or.inl ⟨rfl, fun e h1 h2 => absurd h2 (by omega)⟩
  | k + 1, hk => by
    have h1 : w_bra s q (k + 1) = if s (241 + (s 3 - (k + 1))) = q then s 3 - (k + 1) else w_bra s q k := rfl
    by_cases c : s (241 + (s 3 - (k + 1))) = q
    · rw [h1, if_pos c]
      exact Or.inr ⟨Nat.le_refl _, by omega, c, fun e h2 h3 => absurd h3 (by omega)⟩
    · rw [h1, if_neg c]
      have hn : ∀ e, s 3 - (k + 1) ≤ e → (s 3 - k ≤ e → s (241 + e) ≠ q) → s (241 + e) ≠ q := fun e h2 h3 => by
        by_cases c2 : e = s 3 - (k + 1)
        · rw [c2]; exact c
        · exact h3 (by omega)
      rcases w_bra_spec (s := s) (q := q) k (by omega) with ⟨h2, h3⟩ | ⟨h2, h3, h4, h5⟩
      · exact Or.inl ⟨h2, fun e g1 g2 => hn e g1 (fun g3 => h3 e g3 g2)⟩
      · exact Or.inr ⟨by omega, h3, h4, fun e g1 g2 => hn e g1 (fun g3 => h5 e g3 g2)⟩
theorem w_br_spec {s : Nat → Nat} (q : Nat) : (w_br s q = 4294967295 ∧ ∀ e, e < s 3 → s (241 + e) ≠ q) ∨ (w_br s q < s 3 ∧ s (241 + w_br s q) = q ∧ ∀ e, e < w_br s q → s (241 + e) ≠ q) := by
  rcases w_bra_spec (s := s) (q := q) (s 3) (Nat.le_refl _) with ⟨h1, h2⟩ | ⟨_, h2, h3, h4⟩
  · exact Or.inl ⟨h1, fun e he => h2 e (by omega) he⟩
  · exact Or.inr ⟨h2, h3, fun e he => h4 e (by omega) he⟩
theorem w_br_none {s : Nat → Nat} {q : Nat} (hE : s 3 ≤ 10) (h : ∀ e, e < s 3 → s (241 + e) ≠ q) : w_br s q = 4294967295 := by
  rcases w_br_spec (s := s) q with ⟨h1, _⟩ | ⟨h1, h2, _⟩
  · exact h1
  · exact absurd h2 (h _ h1)
theorem w_br_at {s : Nat → Nat} {q e : Nat} (he : e < s 3) (h1 : s (241 + e) = q) (h2 : ∀ i, i < e → s (241 + i) ≠ q) : w_br s q = e := by
  rcases w_br_spec (s := s) q with ⟨_, g⟩ | ⟨g1, g2, g3⟩
  · exact absurd h1 (g e he)
  · refine Nat.le_antisymm (Nat.le_of_not_lt fun c => g3 e c h1) (Nat.le_of_not_lt fun c => h2 _ c g2)
theorem w_br_lt {s : Nat → Nat} {q : Nat} (h : w_br s q ≠ 4294967295) : w_br s q < s 3 ∧ s (241 + w_br s q) = q := by
  rcases w_br_spec (s := s) q with ⟨g, _⟩ | ⟨g1, g2, _⟩
  · exact absurd g h
  · exact ⟨g1, g2⟩
theorem w_br_b {s : Nat → Nat} {q : Nat} (hE : s 3 ≤ 10) : w_br s q = 4294967295 ∨ w_br s q < 10 := by
  by_cases c : w_br s q = 4294967295
  · exact Or.inl c
  · exact Or.inr (by have := (w_br_lt c).1; omega)
/-- who comes -/
def w_l0 (s : Nat → Nat) : Nat := z_set (fun q => decide (w_br s q ≠ 4294967295)) 6
/-- whom he points at, of the first o -/
def w_favn (s : Nat → Nat) (L q : Nat) : Nat → Nat
  | 0 => 4294967295
  | o + 1 => if L.testBit o = true ∧ (w_favn s L q o = 4294967295 ∨ w_like s q (w_br s (w_favn s L q o)) < w_like s q (w_br s o) ∨ (w_like s q (w_br s o) = w_like s q (w_br s (w_favn s L q o)) ∧ w_br s o < w_br s (w_favn s L q o))) then o else w_favn s L q o
theorem w_favn_lt {s : Nat → Nat} {L q : Nat} : ∀ n, w_favn s L q n = 4294967295 ∨ (w_favn s L q n < n ∧ L.testBit (w_favn s L q n) = true)
  | 0 => Or.inl rfl
  | n + 1 => by
    unfold w_favn
    split
    · rename_i h
      exact Or.inr ⟨by omega, h.1⟩
    · rcases w_favn_lt (s := s) (L := L) (q := q) n with h | ⟨h1, h2⟩
      · exact Or.inl h
      · exact Or.inr ⟨by omega, h2⟩
theorem w_favn_ne {s : Nat → Nat} {L q o : Nat} (h : L.testBit o = true) : ∀ n, n ≤ 1000 → o < n → w_favn s L q n ≠ 4294967295
  | 0, _, hn => absurd hn (by omega)
  | n + 1, hb, hn => by
    unfold w_favn
    split
    · omega
    · rename_i h2
      by_cases c : o = n
      · subst c
        intro h3
        exact h2 ⟨h, Or.inl h3⟩
      · exact w_favn_ne h n (by omega) (by omega)
def w_pt (s : Nat → Nat) (L q : Nat) : Nat := w_favn s L q 6
theorem w_pt_in {s : Nat → Nat} {L q o : Nat} (h : L.testBit o = true) (ho : o < 6) : w_pt s L q < 6 ∧ L.testBit (w_pt s L q) = true := by
  rcases w_favn_lt (s := s) (L := L) (q := q) 6 with h1 | h1
  · exact absurd h1 (w_favn_ne h 6 (by omega) ho)
  · exact h1
/-- along the row of those who are pointed at, till it comes back -/
def w_at (f : Nat → Nat) (q : Nat) : Nat → Nat
  | 0 => f q
  | i + 1 => if w_at f q i = q then q else f (w_at f q i)
theorem w_at_stay {f : Nat → Nat} {q i : Nat} (h : w_at f q i = q) : ∀ n, w_at f q (i + n) = q
  | 0 => h
  | n + 1 => by
    have h1 : w_at f q (i + n + 1) = if w_at f q (i + n) = q then q else f (w_at f q (i + n)) := rfl
    rw [← Nat.add_assoc, h1, if_pos (w_at_stay h n)]
def w_it (f : Nat → Nat) (a : Nat) : Nat → Nat
  | 0 => a
  | i + 1 => f (w_it f a i)
theorem w_it_add {f : Nat → Nat} {a : Nat} (i : Nat) : ∀ k, w_it f a (i + k) = w_it f (w_it f a i) k
  | 0 => rfl
  | k + 1 => by
    show f (w_it f a (i + k)) = f (w_it f (w_it f a i) k)
    rw [w_it_add i k]
theorem w_at_it {f : Nat → Nat} {q : Nat} : ∀ i, w_at f q i = q ∨ w_at f q i = w_it f q (i + 1)
  | 0 => Or.inr rfl
  | i + 1 => by
    have h1 : w_at f q (i + 1) = if w_at f q i = q then q else f (w_at f q i) := rfl
    rw [h1]
    by_cases c : w_at f q i = q
    · rw [if_pos c]; exact Or.inl rfl
    · rw [if_neg c]
      rcases w_at_it (f := f) (q := q) i with h | h
      · exact absurd h c
      · rw [h]; exact Or.inr rfl
/-- more numbers than places -/
theorem z_pig : ∀ n (x : Nat → Nat), (∀ i, i ≤ n → x i < n) → ∃ i k, i < k ∧ k ≤ n ∧ x i = x k
  | 0, x, h => absurd (h 0 (Nat.le_refl _)) (Nat.not_lt_zero _)
  | n + 1, x, h => by
    by_cases c : ∃ i, i ≤ n ∧ x i = x (n + 1)
    · obtain ⟨i, h1, h2⟩ := c
      exact ⟨i, n + 1, by omega, Nat.le_refl _, h2⟩
    · have hne : ∀ i, i ≤ n → x i ≠ x (n + 1) := fun i hi he => c ⟨i, hi, he⟩
      have hl := h (n + 1) (Nat.le_refl _)
      obtain ⟨i, k, h1, h2, h3⟩ := z_pig n (fun i => if x i = n then x (n + 1) else x i) (fun i hi => by
        have h4 := hne i hi
        have h5 := h i (by omega)
        show (if x i = n then x (n + 1) else x i) < n
        split <;> omega)
      refine ⟨i, k, h1, by omega, ?_⟩
      have h3 : (if x i = n then x (n + 1) else x i) = (if x k = n then x (n + 1) else x k) := h3
      have h4 := hne i (by omega)
      have h5 := hne k (by omega)
      by_cases c1 : x i = n
      · by_cases c2 : x k = n
        · omega
        · rw [if_pos c1, if_neg c2] at h3; omega
      · by_cases c2 : x k = n
        · rw [if_neg c1, if_pos c2] at h3; omega
        · rw [if_neg c1, if_neg c2] at h3; exact h3
theorem w_cyc {f : Nat → Nat} {L a : Nat} (ha : a < 6) (hL : L.testBit a = true) (hf : ∀ q, q < 6 → L.testBit q = true → f q < 6 ∧ L.testBit (f q) = true) : ∃ q, q < 6 ∧ L.testBit q = true ∧ w_at f q 6 = q := by
  have hx : ∀ i, w_it f a i < 6 ∧ L.testBit (w_it f a i) = true := fun i => by
    induction i with
    | zero => exact ⟨ha, hL⟩
    | succ i ih => exact hf _ ih.1 ih.2
  obtain ⟨i, k, h1, h2, h3⟩ := z_pig 6 (w_it f a) (fun i _ => (hx i).1)
  refine ⟨w_it f a i, (hx i).1, (hx i).2, ?_⟩
  obtain ⟨n, rfl⟩ : ∃ n, k = i + (n + 1) := ⟨k - i - 1, by omega⟩
  rw [w_it_add] at h3
  have h4 : w_at f (w_it f a i) n = w_it f a i := by
    rcases w_at_it (f := f) (q := w_it f a i) n with h | h
    · exact h
    · exact h.trans h3.symm
  have := w_at_stay h4 (6 - n)
  rwa [show n + (6 - n) = 6 by omega] at this
/-- who stands in a ring -/
def w_rg (s : Nat → Nat) (L : Nat) : Nat := z_set (fun q => L.testBit q && decide (w_at (w_pt s L) q 6 = q)) 6
/-- behind so many rounds: who is left, who has what -/
def w_rd (s : Nat → Nat) : Nat → Nat × (Nat → Nat)
  | 0 => (w_l0 s, fun _ => 4294967295)
  | n + 1 => ((w_rd s n).1 &&& (w_rg s (w_rd s n).1 ^^^ 4294967295), fun q => if (w_rg s (w_rd s n).1).testBit q = true then w_br s (w_pt s (w_rd s n).1 q) else (w_rd s n).2 q)
theorem z_ex_bit {x n : Nat} (hx : x < 2 ^ n) (h : x ≠ 0) : ∃ i, i < n ∧ x.testBit i = true := by
  refine Classical.byContradiction fun g => h ?_
  rw [← z_set_of hx]
  have : ∀ k, k ≤ n → z_set (fun i => x.testBit i) k = 0 := fun k => by
    induction k with
    | zero => intro _; rfl
    | succ k ih =>
      intro hk
      have h1 : x.testBit k = false := by
        cases h2 : x.testBit k with
        | false => rfl
        | true => exact absurd ⟨k, by omega, h2⟩ g
      rw [z_set_f h1]
      exact ih (by omega)
  exact this n (Nat.le_refl _)
theorem w_l0_bit {s : Nat → Nat} {q : Nat} (h : (w_l0 s).testBit q = true) : q < 6 ∧ w_br s q ≠ 4294967295 := by
  unfold w_l0 at h
  rw [z_set_bt, Bool.and_eq_true, decide_eq_true_eq, decide_eq_true_eq] at h
  exact h
theorem w_rd_sub {s : Nat → Nat} {q : Nat} : ∀ n, ((w_rd s n).1).testBit q = true → (w_l0 s).testBit q = true
  | 0, h => h
  | n + 1, h => by
    have h1 : (w_rd s (n + 1)).1 = (w_rd s n).1 &&& (w_rg s (w_rd s n).1 ^^^ 4294967295) := rfl
    rw [h1, Nat.testBit_and, Bool.and_eq_true] at h
    exact w_rd_sub n h.1
theorem w_rd_lt {s : Nat → Nat} : ∀ n, (w_rd s n).1 < 64
  | 0 => z_set_lt _ 6
  | n + 1 => Nat.lt_of_le_of_lt Nat.and_le_left (w_rd_lt n)
theorem w_rg_lt {s : Nat → Nat} {L : Nat} : w_rg s L < 64 := z_set_lt _ 6
theorem w_rg_bit {s : Nat → Nat} {L q : Nat} : (w_rg s L).testBit q = true ↔ q < 6 ∧ L.testBit q = true ∧ w_at (w_pt s L) q 6 = q := by
  unfold w_rg
  rw [z_set_bt, Bool.and_eq_true, decide_eq_true_eq, Bool.and_eq_true, decide_eq_true_eq]
theorem w_rg_some {s : Nat → Nat} {L : Nat} (hL : L < 64) (h : L ≠ 0) : ∃ q, q < 6 ∧ L.testBit q = true ∧ (w_rg s L).testBit q = true := by
  obtain ⟨a, h1, h2⟩ := z_ex_bit (n := 6) hL h
  obtain ⟨q, h3, h4, h5⟩ := w_cyc (f := w_pt s L) h1 h2 (fun q g1 g2 => w_pt_in g2 g1)
  exact ⟨q, h3, h4, w_rg_bit.mpr ⟨h3, h4, h5⟩⟩
theorem w_rd_pc {s : Nat → Nat} {n : Nat} (h : (w_rd s n).1 ≠ 0) : w_pc (w_rd s (n + 1)).1 < w_pc (w_rd s n).1 := by
  have hL := w_rd_lt (s := s) n
  obtain ⟨q, h1, h2, h3⟩ := w_rg_some (s := s) hL h
  refine (w_pc_less (x := (w_rd s n).1) (K := w_rg s (w_rd s n).1 ^^^ 4294967295) (by omega) ?_).2
  rw [Nat.xor_assoc, Nat.xor_self, Nat.xor_zero]
  exact z_and_ne q h2 h3
theorem w_pc_le6 : ∀ x, x < 64 → w_pc x ≤ 6 := by decide +kernel
theorem w_pc_0 : ∀ x, x < 1024 → w_pc x = 0 → x = 0 := by decide +kernel
theorem w_rd_end {s : Nat → Nat} : ∀ n, n ≤ 6 → w_pc (w_rd s n).1 + n ≤ 6 ∨ (w_rd s n).1 = 0
  | 0, _ => by
    have h := w_pc_le6 (w_rd s 0).1 (w_rd_lt 0)
    exact Or.inl (by omega)
  | n + 1, hn => by
    by_cases c : (w_rd s n).1 = 0
    · right
      have h1 : (w_rd s (n + 1)).1 = (w_rd s n).1 &&& (w_rg s (w_rd s n).1 ^^^ 4294967295) := rfl
      rw [h1, c, Nat.zero_and]
    · rcases w_rd_end (s := s) n (by omega) with h | h
      · have := w_rd_pc c
        exact Or.inl (by omega)
      · exact absurd h c
theorem w_rd_6 {s : Nat → Nat} : (w_rd s 6).1 = 0 := by
  rcases w_rd_end (s := s) 6 (Nat.le_refl _) with h | h
  · exact w_pc_0 _ (Nat.lt_trans (w_rd_lt 6) (by decide)) (by omega)
  · exact h
theorem w_rg_0 {s : Nat → Nat} : w_rg s 0 = 0 := by
  have h : ∀ k, z_set (fun q => (0 : Nat).testBit q && decide (w_at (w_pt s 0) q 6 = q)) k = 0 := fun k => by
    induction k with
    | zero => rfl
    | succ k ih => rw [z_set_f (by show ((0 : Nat).testBit k && _) = false; rw [Nat.zero_testBit]; rfl)]; exact ih
  exact h 6
theorem w_rd_fix {s : Nat → Nat} {n : Nat} (h : (w_rd s n).1 = 0) : ∀ k, w_rd s (n + k) = w_rd s n
  | 0 => rfl
  | k + 1 => by
    have ih := w_rd_fix h k
    have h1 : w_rd s (n + k + 1) = ((w_rd s (n + k)).1 &&& (w_rg s (w_rd s (n + k)).1 ^^^ 4294967295), fun q => if (w_rg s (w_rd s (n + k)).1).testBit q = true then w_br s (w_pt s (w_rd s (n + k)).1 q) else (w_rd s (n + k)).2 q) := rfl
    rw [← Nat.add_assoc, h1, ih, h, w_rg_0]
    refine Prod.ext ?_ ?_
    · exact (Nat.zero_and _).trans h.symm
    · funext q
      show (if (0 : Nat).testBit q = true then _ else _) = _
      rw [Nat.zero_testBit, if_neg (by decide)]
theorem w_rd_last {s : Nat → Nat} {n : Nat} (hn : n ≤ 6) (h : (w_rd s n).1 = 0) : w_rd s 6 = w_rd s n := by
  have := w_rd_fix h (6 - n)
  rwa [show n + (6 - n) = 6 by omega] at this
/-- who has what: an ending with which somebody came, or none -/
theorem w_rd_won {s : Nat → Nat} {q : Nat} (hq : q < 6) : ∀ n, (w_rd s n).2 q = 4294967295 ∨ ((w_rd s n).2 q < s 3 ∧ s (241 + (w_rd s n).2 q) < 6 ∧ w_br s q ≠ 4294967295)
  | 0 => Or.inl rfl
  | n + 1 => by
    have h1 : (w_rd s (n + 1)).2 q = if (w_rg s (w_rd s n).1).testBit q = true then w_br s (w_pt s (w_rd s n).1 q) else (w_rd s n).2 q := rfl
    rw [h1]
    by_cases c : (w_rg s (w_rd s n).1).testBit q = true
    · rw [if_pos c]
      obtain ⟨h2, h3, _⟩ := w_rg_bit.mp c
      obtain ⟨h4, h5⟩ := w_pt_in (s := s) (q := q) h3 h2
      obtain ⟨_, h6⟩ := w_l0_bit (w_rd_sub n h5)
      obtain ⟨h7, h8⟩ := w_br_lt h6
      exact Or.inr ⟨h7, by rw [h8]; exact h4, (w_l0_bit (w_rd_sub n h3)).2⟩
    · rw [if_neg c]
      exact w_rd_won hq n
