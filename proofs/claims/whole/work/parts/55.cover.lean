/-! MATCHES: as few endings as can go with all -/
def w_nd (s : Nat → Nat) (set t : Nat) : Bool := set.testBit t && decide (0 < w_open s t)
def w_pc (x : Nat) : Nat := z_sum (fun i => b_b (x.testBit i)) 10
theorem w_pc_le (x : Nat) : w_pc x ≤ 10 := by
  have := z_sum_le (g := fun i => b_b (x.testBit i)) (b := 1) 10 (fun i _ => by have := b_b_lt (x.testBit i); omega)
  unfold w_pc
  omega
theorem w_pc_and : ∀ x, x < 1024 → x ≠ 0 → w_pc (x &&& (x - 1)) + 1 = w_pc x := by decide +kernel
theorem w_and_lt {x : Nat} (h : x ≠ 0) : x &&& (x - 1) < x := Nat.lt_of_le_of_lt Nat.and_le_right (by omega)
theorem b_ushr1 (x : Nat) : ((nI x).toUInt32 >>> ((nI 1).toUInt32 &&& Int32.toUInt32 31)).toInt32 = nI (x % 4294967296 / 2) := by
  have e : ((nI 1).toUInt32 &&& Int32.toUInt32 31) = 1 := by decide +kernel
  rw [e]
  unfold nI
  apply Int32.toBitVec_inj.mp
  apply BitVec.eq_of_toNat_eq
  rw [Int32.toBitVec_ofNat']
  simp [Nat.shiftRight_eq_div_pow]
  omega
theorem b_ushr2 (x : Nat) : ((nI x).toUInt32 >>> ((nI 2).toUInt32 &&& Int32.toUInt32 31)).toInt32 = nI (x % 4294967296 / 4) := by
  have e : ((nI 2).toUInt32 &&& Int32.toUInt32 31) = 2 := by decide +kernel
  rw [e]
  unfold nI
  apply Int32.toBitVec_inj.mp
  apply BitVec.eq_of_toNat_eq
  rw [Int32.toBitVec_ofNat']
  simp [Nat.shiftRight_eq_div_pow]
  omega
theorem b_ushr4 (x : Nat) : ((nI x).toUInt32 >>> ((nI 4).toUInt32 &&& Int32.toUInt32 31)).toInt32 = nI (x % 4294967296 / 16) := by
  have e : ((nI 4).toUInt32 &&& Int32.toUInt32 31) = 4 := by decide +kernel
  rw [e]
  unfold nI
  apply Int32.toBitVec_inj.mp
  apply BitVec.eq_of_toNat_eq
  rw [Int32.toBitVec_ofNat']
  simp [Nat.shiftRight_eq_div_pow]
  omega
theorem b_ushr16 (x : Nat) : ((nI x).toUInt32 >>> ((nI 16).toUInt32 &&& Int32.toUInt32 31)).toInt32 = nI (x % 4294967296 / 65536) := by
  have e : ((nI 16).toUInt32 &&& Int32.toUInt32 31) = 16 := by decide +kernel
  rw [e]
  unfold nI
  apply Int32.toBitVec_inj.mp
  apply BitVec.eq_of_toNat_eq
  rw [Int32.toBitVec_ofNat']
  simp [Nat.shiftRight_eq_div_pow]
  omega
def w_b1 (x : Nat) : Nat := x - (x % 4294967296 / 2 &&& 1431655765)
def w_b2 (x : Nat) : Nat := (x &&& 858993459) + (x % 4294967296 / 4 &&& 858993459)
def w_b3 (x : Nat) : Nat := x + x % 4294967296 / 16 &&& 252645135
def w_b4 (x : Nat) : Nat := x + x % 4294967296 / 256
def w_b5 (x : Nat) : Nat := x + x % 4294967296 / 65536 &&& 63
theorem w_pcN : ∀ x, x < 1024 → w_b5 (w_b4 (w_b3 (w_b2 (w_b1 x)))) = w_pc x := by decide +kernel
/-- the least of those that are fewest -/
def w_scan (Q : Nat → Bool) : Nat → Nat
  | 0 => 4294967295
  | n + 1 => if Q n = true ∧ (w_scan Q n = 4294967295 ∨ w_pc n < w_pc (w_scan Q n)) then n else w_scan Q n
theorem w_scan_lt (Q : Nat → Bool) : ∀ n, w_scan Q n = 4294967295 ∨ w_scan Q n < n
  | 0 => Or.inl rfl
  | n + 1 => by
    unfold w_scan
    split
    · exact Or.inr (by omega)
    · rcases w_scan_lt Q n with h | h
      · exact Or.inl h
      · exact Or.inr (by omega)
theorem w_scan_min (Q : Nat → Bool) : ∀ n, n ≤ 1024 → ∀ x, x < n → Q x = true → w_scan Q n ≠ 4294967295 ∧ w_pc (w_scan Q n) ≤ w_pc x
  | 0, _, x, hx, _ => absurd hx (by omega)
  | n + 1, hn, x, hx, hq => by
    have hw : w_scan Q (n + 1) = if Q n = true ∧ (w_scan Q n = 4294967295 ∨ w_pc n < w_pc (w_scan Q n)) then n else w_scan Q n := rfl
    rw [hw]
    by_cases c : x = n
    · subst c
      split
      · exact ⟨by omega, Nat.le_refl _⟩
      · rename_i h
        by_cases c2 : w_scan Q x = 4294967295
        · exact absurd ⟨hq, Or.inl c2⟩ h
        · refine ⟨c2, Nat.le_of_not_lt fun c3 => h ⟨hq, Or.inr c3⟩⟩
    · have ih := w_scan_min Q n (by omega) x (by omega) hq
      split
      · rename_i h
        refine ⟨by omega, ?_⟩
        rcases h.2 with h2 | h2
        · exact absurd h2 ih.1
        · omega
      · exact ih
theorem w_scan_eq {Q R : Nat → Bool} {N : Nat} (hN : N ≤ 1024) (h1 : ∀ x, x < N → R x = true → Q x = true) (h2 : ∀ x, x < N → Q x = true → R x = false → ∃ y, y < x ∧ Q y = true ∧ w_pc y < w_pc x) : ∀ n, n ≤ N → w_scan Q n = w_scan R n
  | 0, _ => rfl
  | n + 1, hn => by
    have ih := w_scan_eq hN h1 h2 n (by omega)
    have hw : w_scan Q (n + 1) = if Q n = true ∧ (w_scan Q n = 4294967295 ∨ w_pc n < w_pc (w_scan Q n)) then n else w_scan Q n := rfl
    have hw2 : w_scan R (n + 1) = if R n = true ∧ (w_scan R n = 4294967295 ∨ w_pc n < w_pc (w_scan R n)) then n else w_scan R n := rfl
    rw [hw, hw2, ← ih]
    cases hr : R n with
    | true => rw [h1 n (by omega) hr]
    | false =>
      rw [if_neg (c := false = true ∧ _) (fun g => absurd g.1 (by decide))]
      cases hq : Q n with
      | false => rw [if_neg (fun g => absurd g.1 (by decide))]
      | true =>
        obtain ⟨y, g1, g2, g3⟩ := h2 n (by omega) hq hr
        obtain ⟨g4, g5⟩ := w_scan_min Q n (by omega) y g1 g2
        rw [if_neg]
        rintro ⟨_, g | g⟩
        · exact g4 g
        · omega
theorem w_scan_pad {Q : Nat → Bool} {a : Nat} : ∀ b, a ≤ b → (∀ x, a ≤ x → x < b → Q x = false) → w_scan Q b = w_scan Q a
  | 0, h, _ => by rw [show a = 0 by omega]
  | b + 1, h, hq => by
    by_cases c : a = b + 1
    · rw [c]
    · have hw : w_scan Q (b + 1) = if Q b = true ∧ (w_scan Q b = 4294967295 ∨ w_pc b < w_pc (w_scan Q b)) then b else w_scan Q b := rfl
      rw [hw, hq b (by omega) (by omega), if_neg (fun g => absurd g.1 (by decide))]
      exact w_scan_pad b (by omega) (fun x h1 h2 => hq x h1 (by omega))
theorem z_sum_mono {f g : Nat → Nat} : ∀ n, (∀ k, k < n → f k ≤ g k) → z_sum f n ≤ z_sum g n
  | 0, _ => Nat.le_refl _
  | n + 1, h => by
    have h1 := z_sum_mono n (fun k hk => h k (by omega))
    have h2 := h n (by omega)
    show z_sum f n + f n ≤ z_sum g n + g n
    omega
theorem z_sum_slt {f g : Nat → Nat} : ∀ n, (∀ k, k < n → f k ≤ g k) → (∃ k, k < n ∧ f k < g k) → z_sum f n < z_sum g n
  | 0, _, ⟨k, hk, _⟩ => absurd hk (by omega)
  | n + 1, h, ⟨k, hk, hl⟩ => by
    have h2 := h n (by omega)
    show z_sum f n + f n < z_sum g n + g n
    by_cases c : k = n
    · subst c
      have h1 := z_sum_mono k (fun q hq => h q (by omega))
      omega
    · have h1 := z_sum_slt n (fun q hq => h q (by omega)) ⟨k, by omega, hl⟩
      omega
theorem z_sum_inv {c : Nat → Bool} : ∀ n i, i < z_sum (fun t => b_b (c t)) n → ∃ t, t < n ∧ c t = true ∧ z_sum (fun t => b_b (c t)) t = i
  | 0, i, h => absurd h (Nat.not_lt_zero _)
  | n + 1, i, h => by
    by_cases g : i < z_sum (fun t => b_b (c t)) n
    · obtain ⟨t, h1, h2, h3⟩ := z_sum_inv n i g
      exact ⟨t, by omega, h2, h3⟩
    · have h5 : i < z_sum (fun t => b_b (c t)) n + b_b (c n) := h
      cases h6 : c n with
      | false => rw [h6, b_bf] at h5; omega
      | true => rw [h6, b_bt] at h5; exact ⟨n, by omega, h6, by omega⟩
theorem z_and_ne {a b : Nat} (i : Nat) (h1 : a.testBit i = true) (h2 : b.testBit i = true) : a &&& b ≠ 0 := fun h => by
  have := Nat.testBit_and a b i
  rw [h, Nat.zero_testBit, h1, h2] at this
  exact absurd this (by decide)
theorem z_and_ex {a b : Nat} (h : a &&& b ≠ 0) : ∃ i, a.testBit i = true ∧ b.testBit i = true := by
  refine Classical.byContradiction fun g => h (Nat.eq_of_testBit_eq fun i => ?_)
  rw [Nat.testBit_and, Nat.zero_testBit]
  cases h1 : a.testBit i with
  | false => rfl
  | true =>
    cases h2 : b.testBit i with
    | false => rfl
    | true => exact absurd ⟨i, h1, h2⟩ g
theorem z_set_and {c : Nat → Bool} {n x : Nat} : z_set c n &&& x ≠ 0 ↔ z_any (fun e => x.testBit e && c e) n = true := by
  rw [z_any_iff]
  constructor
  · intro h
    obtain ⟨i, h1, h2⟩ := z_and_ex h
    rw [z_set_bt, Bool.and_eq_true, decide_eq_true_eq] at h1
    exact ⟨i, h1.1, by show (x.testBit i && c i) = true; rw [h2, h1.2]; rfl⟩
  · rintro ⟨i, h1, h2⟩
    have h3 : (x.testBit i && c i) = true := h2
    rw [Bool.and_eq_true] at h3
    exact z_and_ne i (by rw [z_set_bt, h3.2, decide_eq_true h1]; rfl) h3.1
theorem z_tbF : ∀ i, i < 32 → (4294967295 : Nat).testBit i = true := by decide +kernel
/-- fewer bits, and less -/
theorem w_pc_less {x K : Nat} (hx : x < 1024) (h : x &&& (K ^^^ 4294967295) ≠ 0) : x &&& K < x ∧ w_pc (x &&& K) < w_pc x := by
  obtain ⟨i, h1, h2⟩ := z_and_ex h
  have hi : i < 10 := by
    refine Nat.lt_of_not_le fun g => ?_
    have := Nat.testBit_lt_two_pow (Nat.lt_of_lt_of_le hx (Nat.pow_le_pow_right (n := 2) (by decide) g) : x < 2 ^ i)
    rw [h1] at this
    exact absurd this (by decide)
  have h3 : K.testBit i = false := by
    rw [Nat.testBit_xor, z_tbF i (by omega)] at h2
    cases g : K.testBit i with
    | false => rfl
    | true => rw [g] at h2; exact absurd h2 (by decide)
  have h4 : (x &&& K).testBit i = false := by rw [Nat.testBit_and, h3, Bool.and_false]
  constructor
  · have h5 : x &&& K ≤ x := Nat.and_le_left
    have h6 : x &&& K ≠ x := fun g => by rw [g, h1] at h4; exact absurd h4 (by decide)
    omega
  · refine z_sum_slt 10 (fun k _ => ?_) ⟨i, hi, ?_⟩
    · show b_b ((x &&& K).testBit k) ≤ b_b (x.testBit k)
      rw [Nat.testBit_and]
      cases x.testBit k <;> cases K.testBit k <;> decide
    · show b_b ((x &&& K).testBit i) < b_b (x.testBit i)
      rw [h4, h1]
      decide
section CV
variable {X : Nat × (Nat → Int32)} {tx : List Int32} {D : Nat} {m j : Nat → Nat → Nat} {w : (Nat × Nat) × Bool} {s : Nat → Nat}
theorem s_Ji_bitCount (hD : 1 ≤ D) {x : Nat} (hx : x < 1024) : a_ex X tx a_T D 315 [.int (nI x)] (b_h m j w) = some ((b_h m j w), some (.int (nI (w_pc x)))) := by
  obtain ⟨d, rfl⟩ : ∃ d, D = d + 1 := ⟨D - 1, by omega⟩
  rw [e_Ji_bitCount, q_Ji_bitCount_0]
  have hs : nI x - nI (x % 4294967296 / 2 &&& 1431655765) = nI (x - (x % 4294967296 / 2 &&& 1431655765)) := b_sub (Nat.le_trans Nat.and_le_left (by omega))
  simp only [b_ushr1, b_ushr2, b_ushr4, b_ushr8, b_ushr16, b_and, hs, nI_add]
  clear hs
  exact congrArg (fun v => some (b_h m j w, some (Value.int (nI v)))) (w_pcN x hx)
theorem s_Mo_bits (hD : 1 ≤ D) {x : Nat} (hx : x < 1024) : a_ex X tx a_T D 205 [.int (nI x)] (b_h m j w) = some ((b_h m j w), some (.int (nI (w_pc x)))) := by
  obtain ⟨d, rfl⟩ : ∃ d, D = d + 1 := ⟨D - 1, by omega⟩
  rw [e_Mo_bits, q_Mo_bits_0]
  rw [← l_Mo_bits_4]
  refine z_run (Q := fun r => r = some (b_h m j w, some (.int (nI (w_pc x))))) (fun k L h => ∃ c y, y ≤ k ∧ y < 1024 ∧ c + w_pc y = w_pc x ∧ L = [.int (nI x), .int (nI c), .int (nI y)] ∧ h = b_h m j w) 0 ?_ x _ _ ⟨0, x, by omega, hx, by omega, rfl, rfl⟩ _ (z_fu (by omega))
  rintro k L h ⟨c, y, h1, h2, h3, rfl, rfl⟩ f _
  rw [l_Mo_bits_4, q_Mo_bits_4]
  by_cases hy : y = 0
  · left
    subst hy
    have h4 : w_pc 0 = 0 := by decide
    simp (disch := omega) only [↓b_t0, ↓b_t1, ↓b_t2, ↓b_t3, ↓b_t4, ↓b_t5, ↓b_t6, Nat.zero_add, Nat.le_refl, b_rs, b_rn, b_r2, b_ss, b_sn, b_bt, b_bf, b_b0, b_b1, b_bw, b_shl, b_or, b_iv, b_jv, b_sI, b_sJ, ↓z_hl, z_b0, z_b1, z_b2, b_and1c, b_and1z, if_true, if_false, nI_add, pk_mul, b_cl, b_lt, b_le, b_eq, b_eq0, b_le0, b_0lt, b_0le, b_lt0]
    rw [show c = w_pc x by omega]
  · right
    have h4 := w_pc_and y h2 hy
    have h5 := w_and_lt hy
    refine ⟨k - 1, [.int (nI x), .int (nI (c + 1)), .int (nI (y &&& (y - 1)))], _, by omega, ⟨c + 1, y &&& (y - 1), by omega, by omega, by omega, rfl, rfl⟩, ?_⟩
    simp (disch := omega) only [b_sub, b_and, ↓b_t0, ↓b_t1, ↓b_t2, ↓b_t3, ↓b_t4, ↓b_t5, ↓b_t6, Nat.zero_add, Nat.le_refl, b_rs, b_rn, b_r2, b_ss, b_sn, b_bt, b_bf, b_b0, b_b1, b_bw, b_shl, b_or, b_iv, b_jv, b_sI, b_sJ, ↓z_hl, z_b0, z_b1, z_b2, b_and1c, b_and1z, if_true, if_false, nI_add, pk_mul, b_cl, b_lt, b_le, b_eq, b_eq0, b_le0, b_0lt, b_0le, b_lt0]
    rw [if_neg hy]
theorem s_Mo_needs (hS : i_S (m 236)) (hI : i_D (m 236)) (hD : 2 ≤ D) {set t : Nat} (hs : set < 256) (ht : t < 8) : a_ex X tx a_T D 269 [.ref 234, .int (nI set), .int (nI t)] (b_h m j w) = some ((b_h m j w), some (.int (nI (b_b (w_nd (m 236) set t))))) := by
  obtain ⟨d, rfl⟩ : ∃ d, D = d + 1 := ⟨D - 1, by omega⟩
  rw [e_Mo_needs, q_Mo_needs_0]
  have ho := w_open_le hI ht
  simp (disch := omega) only [s_Mo_bitOf, s_Mo_openOf, ↓bc_234, ↓b_t0, ↓b_t1, ↓b_t2, ↓b_t3, ↓b_t4, ↓b_t5, ↓b_t6, Nat.zero_add, Nat.le_refl, b_rs, b_rn, b_r2, b_ss, b_sn, b_bt, b_bf, b_b0, b_b1, b_bw, b_shl, b_or, b_iv, b_jv, b_sI, b_sJ, ↓z_hl, z_b0, z_b1, z_b2, b_and1c, b_and1z, if_true, if_false, nI_add, pk_mul, b_cl, b_lt, b_le, b_eq, b_eq0, b_le0, b_0lt, b_0le, b_lt0]
  unfold w_nd
  by_cases c : set.testBit t = false
  · rw [if_pos c, c]; rfl
  · rw [if_neg c, eq_true_of_ne_false c]
    by_cases c2 : w_open (m 236) t = 0
    · rw [if_pos c2, decide_eq_false (by omega)]; rfl
    · rw [if_neg c2, decide_eq_true (by omega)]; rfl
def w_goesT (s : Nat → Nat) (set x t n : Nat) : Bool := !(w_nd s set t) || z_any (fun e => x.testBit e && w_fit s e t) n
def w_goes (s : Nat → Nat) (set x : Nat) : Bool := z_all (fun t => w_goesT s set x t (s 3)) (s 2)
theorem s_Mo_goesWith (hS : i_S (m 236)) (hI : i_D (m 236)) (hD : 4 ≤ D) {set x : Nat} (hs : set < 256) (hx : x < 1024) : a_ex X tx a_T D 273 [.ref 234, .int (nI set), .int (nI x)] (b_h m j w) = some ((b_h m j w), some (.int (nI (b_b (w_goes (m 236) set x))))) := by
  obtain ⟨d, rfl⟩ : ∃ d, D = d + 1 := ⟨D - 1, by omega⟩
  rw [e_Mo_goesWith, q_Mo_goesWith_0]
  have hT := i_S_T hS
  have hE := i_S_E hS
  rw [← l_Mo_goesWith_2]
  refine z_runT (Q := fun r => r = some (b_h m j w, some (.int (nI (b_b (w_goes (m 236) set x)))))) (fun k c L h => h = b_h m j w ∧ ((∃ n u v, c = 2 ∧ k + 12 * n = 100 ∧ n ≤ m 236 2 ∧ z_all (fun t => w_goesT (m 236) set x t (m 236 3)) n = true ∧ L = [.ref 234, .int (nI set), .int (nI x), .int (nI n), u, v]) ∨ (∃ n e, c = 19 ∧ k + 12 * n + e + 1 = 100 ∧ n < m 236 2 ∧ e ≤ m 236 3 ∧ z_all (fun t => w_goesT (m 236) set x t (m 236 3)) n = true ∧ L = [.ref 234, .int (nI set), .int (nI x), .int (nI n), .int (nI (b_b (w_goesT (m 236) set x n e))), .int (nI e)]))) 0 ?_ 100 2 _ _ ⟨rfl, Or.inl ⟨0, _, _, rfl, by omega, by omega, rfl, rfl⟩⟩ _ (z_fu (by omega))
  rintro k c L h ⟨rfl, ⟨n, u, v, rfl, hk, hn, ha, rfl⟩ | ⟨n, e, rfl, hk, hn, he, ha, rfl⟩⟩ f _
  · rw [l_Mo_goesWith_2, q_Mo_goesWith_2]
    by_cases c : n = m 236 2
    · left
      have e1 : w_goes (m 236) set x = true := by unfold w_goes; rw [← c]; exact ha
      simp (disch := omega) only [↓bc_234, ↓br_234_6, ↓bc_236, ↓bx_236, bl_236, ↓b_t0, ↓b_t1, ↓b_t2, ↓b_t3, ↓b_t4, ↓b_t5, ↓b_t6, Nat.zero_add, Nat.le_refl, b_rs, b_rn, b_r2, b_ss, b_sn, b_bt, b_bf, b_b0, b_b1, b_bw, b_shl, b_or, b_iv, b_jv, b_sI, b_sJ, ↓z_hl, z_b0, z_b1, z_b2, b_and1c, b_and1z, if_true, if_false, nI_add, pk_mul, b_cl, b_lt, b_le, b_eq, b_eq0, b_le0, b_0lt, b_0le, b_lt0]
      rw [if_pos (by omega), e1]; rfl
    · right
      refine ⟨k - 1, 19, [.ref 234, .int (nI set), .int (nI x), .int (nI n), .int (nI (b_b (w_goesT (m 236) set x n 0))), .int (nI 0)], _, by omega, ⟨rfl, Or.inr ⟨n, 0, rfl, by omega, by omega, by omega, ha, rfl⟩⟩, Or.inr ?_⟩
      have e2 : w_goesT (m 236) set x n 0 = !(w_nd (m 236) set n) := by unfold w_goesT; show (!(w_nd (m 236) set n) || false) = _; rw [Bool.or_false]
      rw [e2]
      simp (disch := omega) only [s_Mo_needs hS hI, ↓bc_234, ↓br_234_6, ↓bc_236, ↓bx_236, bl_236, ↓b_t0, ↓b_t1, ↓b_t2, ↓b_t3, ↓b_t4, ↓b_t5, ↓b_t6, Nat.zero_add, Nat.le_refl, b_rs, b_rn, b_r2, b_ss, b_sn, b_bt, b_bf, b_b0, b_b1, b_bw, b_shl, b_or, b_iv, b_jv, b_sI, b_sJ, ↓z_hl, z_b0, z_b1, z_b2, b_and1c, b_and1z, if_true, if_false, nI_add, pk_mul, b_cl, b_lt, b_le, b_eq, b_eq0, b_le0, b_0lt, b_0le, b_lt0]
      rw [if_neg (by omega), l_Mo_goesWith_19]
      cases w_nd (m 236) set n <;> rfl
  · rw [l_Mo_goesWith_19, q_Mo_goesWith_19]
    by_cases c : e = m 236 3
    · subst c
      by_cases g : w_goesT (m 236) set x n (m 236 3) = true
      · right
        refine ⟨100 - 12 * (n + 1), 2, [.ref 234, .int (nI set), .int (nI x), .int (nI (n + 1)), _, _], _, by omega, ⟨rfl, Or.inl ⟨n + 1, .int (nI (b_b (w_goesT (m 236) set x n (m 236 3)))), .int (nI (m 236 3)), rfl, by omega, by omega, ?_, rfl⟩⟩, Or.inl ?_⟩
        · show (z_all (fun t => w_goesT (m 236) set x t (m 236 3)) n && w_goesT (m 236) set x n (m 236 3)) = true
          rw [ha, g]; rfl
        · rw [g]
          simp (disch := omega) only [Nat.one_ne_zero, ↓bc_234, ↓br_234_6, ↓bc_236, ↓bx_236, bl_236, ↓b_t0, ↓b_t1, ↓b_t2, ↓b_t3, ↓b_t4, ↓b_t5, ↓b_t6, Nat.zero_add, Nat.le_refl, b_rs, b_rn, b_r2, b_ss, b_sn, b_bt, b_bf, b_b0, b_b1, b_bw, b_shl, b_or, b_iv, b_jv, b_sI, b_sJ, ↓z_hl, z_b0, z_b1, z_b2, b_and1c, b_and1z, if_true, if_false, nI_add, pk_mul, b_cl, b_lt, b_le, b_eq, b_eq0, b_le0, b_0lt, b_0le, b_lt0]
      · left
        have g2 := Bool.eq_false_iff.mpr g
        have e1 : w_goes (m 236) set x = false := by
          refine Bool.eq_false_iff.mpr fun q => g ?_
          exact (z_all_iff _ _).mp q n hn
        rw [g2, e1]
        simp (disch := omega) only [↓bc_234, ↓br_234_6, ↓bc_236, ↓bx_236, bl_236, ↓b_t0, ↓b_t1, ↓b_t2, ↓b_t3, ↓b_t4, ↓b_t5, ↓b_t6, Nat.zero_add, Nat.le_refl, b_rs, b_rn, b_r2, b_ss, b_sn, b_bt, b_bf, b_b0, b_b1, b_bw, b_shl, b_or, b_iv, b_jv, b_sI, b_sJ, ↓z_hl, z_b0, z_b1, z_b2, b_and1c, b_and1z, if_true, if_false, nI_add, pk_mul, b_cl, b_lt, b_le, b_eq, b_eq0, b_le0, b_0lt, b_0le, b_lt0]
    · right
      have e2 : w_goesT (m 236) set x n (e + 1) = (w_goesT (m 236) set x n e || (x.testBit e && w_fit (m 236) e n)) := by
        unfold w_goesT
        rw [show z_any (fun e => x.testBit e && w_fit (m 236) e n) (e + 1) = (z_any (fun e => x.testBit e && w_fit (m 236) e n) e || (x.testBit e && w_fit (m 236) e n)) from rfl, Bool.or_assoc]
      refine ⟨k - 1, 19, [.ref 234, .int (nI set), .int (nI x), .int (nI n), .int (nI (b_b (w_goesT (m 236) set x n (e + 1)))), .int (nI (e + 1))], _, by omega, ⟨rfl, Or.inr ⟨n, e + 1, rfl, by omega, by omega, by omega, ha, rfl⟩⟩, Or.inl ?_⟩
      rw [e2]
      cases g : w_goesT (m 236) set x n e with
      | true =>
        simp (disch := omega) only [Nat.one_ne_zero, ↓bc_234, ↓br_234_6, ↓bc_236, ↓bx_236, bl_236, ↓b_t0, ↓b_t1, ↓b_t2, ↓b_t3, ↓b_t4, ↓b_t5, ↓b_t6, Nat.zero_add, Nat.le_refl, b_rs, b_rn, b_r2, b_ss, b_sn, b_bt, b_bf, b_b0, b_b1, b_bw, b_shl, b_or, b_iv, b_jv, b_sI, b_sJ, ↓z_hl, z_b0, z_b1, z_b2, b_and1c, b_and1z, if_true, if_false, nI_add, pk_mul, b_cl, b_lt, b_le, b_eq, b_eq0, b_le0, b_0lt, b_0le, b_lt0]
        rw [if_neg (by omega)]; rfl
      | false =>
        simp (disch := omega) only [s_Mo_bitOf, s_Mo_doesFit hS hI, ↓bc_234, ↓br_234_6, ↓bc_236, ↓bx_236, bl_236, ↓b_t0, ↓b_t1, ↓b_t2, ↓b_t3, ↓b_t4, ↓b_t5, ↓b_t6, Nat.zero_add, Nat.le_refl, b_rs, b_rn, b_r2, b_ss, b_sn, b_bt, b_bf, b_b0, b_b1, b_bw, b_shl, b_or, b_iv, b_jv, b_sI, b_sJ, ↓z_hl, z_b0, z_b1, z_b2, b_and1c, b_and1z, if_true, if_false, nI_add, pk_mul, b_cl, b_lt, b_le, b_eq, b_eq0, b_le0, b_0lt, b_0le, b_lt0]
        rw [if_neg (by omega)]
        cases x.testBit e
        · rfl
        · cases w_fit (m 236) e n <;> rfl
end CV
