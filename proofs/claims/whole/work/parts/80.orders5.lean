/-! ORDERS: the next set, the cheapest set -/
theorem z_half {a b : Nat} : a &&& b = 2 * (a / 2 &&& b / 2) + (if a % 2 = 1 ∧ b % 2 = 1 then 1 else 0) := by
  have h1 := Nat.div_add_mod (a &&& b) 2
  rw [Nat.and_div_two] at h1
  have h2 := Nat.and_mod_two_eq_one (a := a) (b := b)
  split
  · rename_i h
    have := h2.mpr h
    omega
  · rename_i h
    have : (a &&& b) % 2 ≠ 1 := fun g => h (h2.mp g)
    omega
theorem z_cmp : ∀ n F S, F < 2 ^ n → S &&& F = S → (S + (2 ^ n - 1 - F)) &&& F = S
  | 0, F, S, hF, hs => by
    have h1 : F = 0 := by omega
    subst h1
    rw [Nat.and_zero] at hs ⊢
    exact hs
  | n + 1, F, S, hF, hs => by
    have hp : 2 ^ (n + 1) = 2 * 2 ^ n := by rw [Nat.pow_succ]; omega
    have h1 := z_half (a := S) (b := F)
    rw [hs] at h1
    have h2 := z_half (a := S + (2 ^ (n + 1) - 1 - F)) (b := F)
    rw [h2]
    have hS2 : S / 2 &&& F / 2 = S / 2 := by split at h1 <;> omega
    have e1 : (S + (2 ^ (n + 1) - 1 - F)) / 2 = S / 2 + (2 ^ n - 1 - F / 2) := by
      have : S % 2 = 1 → F % 2 = 1 := fun g => by split at h1 <;> omega
      omega
    rw [e1, z_cmp n (F / 2) (S / 2) (by omega) hS2]
    split <;> split at h1 <;> omega
/-- the next set among these, as bits -/
theorem z_nx : ∀ n F S x, F < 2 ^ n → S &&& F = S → x &&& F = x → S < x → S < ((S + 2 ^ n - F) &&& F) ∧ ((S + 2 ^ n - F) &&& F) ≤ x
  | 0, F, S, x, hF, hs, hx, hlt => by
    have h1 : F = 0 := by omega
    subst h1
    rw [Nat.and_zero] at hx
    omega
  | n + 1, F, S, x, hF, hs, hx, hlt => by
    have hp : 2 ^ (n + 1) = 2 * 2 ^ n := by rw [Nat.pow_succ]; omega
    have h1 := z_half (a := S) (b := F)
    rw [hs] at h1
    have h3 := z_half (a := x) (b := F)
    rw [hx] at h3
    have hS2 : S / 2 &&& F / 2 = S / 2 := by split at h1 <;> omega
    have hx2 : x / 2 &&& F / 2 = x / 2 := by split at h3 <;> omega
    have h2 := z_half (a := S + 2 ^ (n + 1) - F) (b := F)
    rw [h2]
    have hi : S % 2 = 1 → F % 2 = 1 := fun g => by split at h1 <;> omega
    have hj : x % 2 = 1 → F % 2 = 1 := fun g => by split at h3 <;> omega
    have hF2 : F / 2 < 2 ^ n := by omega
    by_cases c : F % 2 = 1 ∧ S % 2 = 0
    · have e1 : (S + 2 ^ (n + 1) - F) / 2 = S / 2 + (2 ^ n - 1 - F / 2) := by omega
      have e2 : (S + 2 ^ (n + 1) - F) % 2 = 1 := by omega
      rw [e1, z_cmp n (F / 2) (S / 2) hF2 hS2, if_pos ⟨e2, c.1⟩]
      omega
    · have e1 : (S + 2 ^ (n + 1) - F) / 2 = S / 2 + 2 ^ n - F / 2 := by omega
      have e2 : (S + 2 ^ (n + 1) - F) % 2 = 0 := by omega
      have ih := z_nx n (F / 2) (S / 2) (x / 2) hF2 hS2 hx2 (by omega)
      rw [e1, if_neg (fun g => by omega)]
      omega
theorem z_sub_le {S F : Nat} (h : S &&& F = S) : S ≤ F := by rw [← h]; exact Nat.and_le_right
theorem z_and_sub {S F : Nat} : (S &&& F = S) ↔ ∀ i, S.testBit i = true → F.testBit i = true := by
  constructor
  · intro h i hi
    have h2 := Nat.testBit_and S F i
    rw [h, hi, Bool.true_and] at h2
    exact h2.symm
  · intro h
    refine Nat.eq_of_testBit_eq fun i => ?_
    rw [Nat.testBit_and]
    cases c : S.testBit i with
    | false => rfl
    | true => rw [h i c]; rfl
/-- the cheapest of some sets; of like ones the fewest, then the least -/
def w_bst (Q : Nat → Bool) (pr : Nat → Nat) : Nat → Nat
  | 0 => 4294967295
  | n + 1 => if Q n = true ∧ (w_bst Q pr n = 4294967295 ∨ pr n < pr (w_bst Q pr n) ∨ (pr n = pr (w_bst Q pr n) ∧ w_pc n < w_pc (w_bst Q pr n))) then n else w_bst Q pr n
theorem w_bst_1 {Q : Nat → Bool} {pr : Nat → Nat} {n : Nat} : w_bst Q pr (n + 1) = if Q n = true ∧ (w_bst Q pr n = 4294967295 ∨ pr n < pr (w_bst Q pr n) ∨ (pr n = pr (w_bst Q pr n) ∧ w_pc n < w_pc (w_bst Q pr n))) then n else w_bst Q pr n := rfl
theorem w_bst_lt {Q : Nat → Bool} {pr : Nat → Nat} : ∀ n, w_bst Q pr n = 4294967295 ∨ (w_bst Q pr n < n ∧ Q (w_bst Q pr n) = true)
  | 0 => Or.inl rfl
  | n + 1 => by
    rw [w_bst_1]
    split
    · rename_i h
      exact Or.inr ⟨by omega, h.1⟩
    · rcases w_bst_lt (Q := Q) (pr := pr) n with h | h
      · exact Or.inl h
      · exact Or.inr ⟨by omega, h.2⟩
theorem w_bst_f {Q : Nat → Bool} {pr : Nat → Nat} {n : Nat} (h : Q n = false) : w_bst Q pr (n + 1) = w_bst Q pr n := by
  rw [w_bst_1, if_neg (fun g => by rw [h] at g; exact absurd g.1 (by decide))]
theorem w_bst_pad {Q : Nat → Bool} {pr : Nat → Nat} {a : Nat} : ∀ b, a ≤ b → (∀ x, a ≤ x → x < b → Q x = false) → w_bst Q pr b = w_bst Q pr a
  | 0, h, _ => by rw [show a = 0 by omega]
  | b + 1, h, hq => by
    by_cases c : a = b + 1
    · rw [c]
    · rw [w_bst_f (hq b (by omega) (by omega))]
      exact w_bst_pad b (by omega) (fun x h1 h2 => hq x h1 (by omega))
/-- what some endings cost -/
def w_prc (s : Nat → Nat) (S : Nat) : Nat := z_sum (fun e => if S.testBit e = true then s (251 + e) else 0) (s 3)
theorem w_prc_le {s : Nat → Nat} (hI : i_D s) (hE : s 3 ≤ 10) {S : Nat} : w_prc s S ≤ 990 := by
  have := z_sum_le (g := fun e => if S.testBit e = true then s (251 + e) else 0) (b := 99) (s 3) (fun e he => by
    have := i_D_pr hI e (by omega)
    show (if S.testBit e = true then s (251 + e) else 0) ≤ 99
    split <;> omega)
  unfold w_prc
  omega
/-- these close a thing -/
def w_okc (s : Nat → Nat) (r x : Nat) : Bool := w_cn (w_fbh s r) x && z_all (fun k => decide (s (r + k) ≤ w_cs s x k)) 6
def w_okk (s : Nat → Nat) (r x : Nat) : Bool := decide (x &&& (w_left s ^^^ 4294967295) = 0) && w_okc s r x
def w_cst (s : Nat → Nat) (r : Nat) : Nat := w_bst (w_okk s r) (w_prc s) 1024
theorem w_and_nx {x K : Nat} (hx : x < 1024) : (x &&& (K ^^^ 4294967295) = 0) ↔ x &&& K = x := by
  rw [z_and_sub]
  constructor
  · intro h i hi
    have h2 := Nat.testBit_and x (K ^^^ 4294967295) i
    have hi10 := z_bt10 hx hi
    rw [h, Nat.zero_testBit, hi, Bool.true_and, Nat.testBit_xor, z_tbF i (by omega)] at h2
    cases g : K.testBit i with
    | true => rfl
    | false => rw [g] at h2; exact absurd h2 (by decide)
  · intro h
    refine Nat.eq_of_testBit_eq fun i => ?_
    rw [Nat.testBit_and, Nat.zero_testBit, Nat.testBit_xor]
    cases c : x.testBit i with
    | false => rfl
    | true => rw [h i c, z_tbF i (by have := z_bt10 hx c; omega)]; rfl
theorem w_left_of {s : Nat → Nat} {e : Nat} (hE : s 3 ≤ 10) (h : (w_left s).testBit e = true) : e < s 3 ∧ s (241 + e) ≠ 4294967295 := by
  have h1 := w_left_lt (s := s)
  have h2 : 2 ^ s 3 ≥ 1 := Nat.one_le_two_pow
  have he := z_btE (n := s 3) (by omega) h
  refine ⟨he, fun g => ?_⟩
  unfold w_left w_endsOf at h
  rw [Nat.testBit_and, Nat.testBit_xor, z_tbF e (by omega), z_set_bt, decide_eq_true he, decide_eq_true g, Bool.and_true] at h
  simp at h
/-- such a set holds none but what fits now -/
theorem w_okk_sub {s : Nat → Nat} {t x : Nat} (hE : s 3 ≤ 10) (hx : x < 1024) (h : w_okk s (177 + 6 * t) x = true) : x &&& w_fitting s t = x := by
  unfold w_okk w_okc at h
  rw [Bool.and_eq_true, Bool.and_eq_true, decide_eq_true_eq, w_and_nx hx, z_and_sub] at h
  rw [z_and_sub]
  intro e he
  obtain ⟨h1, h2⟩ := w_left_of hE (h.1 e he)
  have h3 := w_cn_each (w_fbh_anti hE) 10 x hx (w_pc_le x) h.2.1 e he
  rw [w_fbh_row] at h3
  unfold w_fitting
  rw [z_set_bt, decide_eq_true h1]
  unfold w_fit
  rw [decide_eq_true h2, h3]
  rfl
theorem w_fit_left {s : Nat → Nat} {t x : Nat} (hE : s 3 ≤ 10) (hx : x < 1024) (h : x &&& w_fitting s t = x) : x &&& (w_left s ^^^ 4294967295) = 0 := by
  rw [w_and_nx hx]
  rw [z_and_sub] at h ⊢
  intro e he
  have h1 := h e he
  unfold w_fitting at h1
  rw [z_set_bt, Bool.and_eq_true, decide_eq_true_eq] at h1
  have h2 := h1.2
  unfold w_fit at h2
  rw [Bool.and_eq_true, decide_eq_true_eq] at h2
  exact w_left_bt hE h1.1 h2.1
theorem w_fp0 {fb : Nat → Nat → Bool} : w_fp fb 0 = fb := by
  funext e S
  unfold w_fp
  rw [Nat.zero_or]
theorem w_cst_none {s : Nat → Nat} {t : Nat} (hE : s 3 ≤ 10) {k : Nat} (hk : k < 6) (h : w_cs s (w_fitting s t) k < s (177 + 6 * t + k)) : w_cst s (177 + 6 * t) = 4294967295 := by
  refine w_bst_pad (a := 0) 1024 (Nat.zero_le _) fun x _ hx => ?_
  cases c : w_okk s (177 + 6 * t) x with
  | false => rfl
  | true =>
    have h1 := w_okk_sub hE hx c
    rw [z_and_sub] at h1
    have h2 := w_cs_mono (s := s) (k := k) hE (fun i _ g => h1 i g)
    unfold w_okk w_okc at c
    rw [Bool.and_eq_true, Bool.and_eq_true, z_all_iff] at c
    have h3 := of_decide_eq_true (c.2.2 k hk)
    omega
theorem w_cst_zero {s : Nat → Nat} {t : Nat} (h : w_open s t = 0) : w_cst s (177 + 6 * t) = 0 := by
  have h1 : ∀ k, k < 6 → s (177 + 6 * t + k) = 0 := (z_sum_zero 6).mp h
  have hq : w_okk s (177 + 6 * t) 0 = true := by
    unfold w_okk w_okc
    rw [Nat.zero_and, decide_eq_true rfl, w_cn_0, Bool.true_and, Bool.true_and, z_all_iff]
    intro k hk
    rw [h1 k hk]
    exact decide_eq_true (Nat.zero_le _)
  have hp : w_prc s 0 = 0 := by
    unfold w_prc
    rw [z_sum_zero]
    intro e _
    rw [Nat.zero_testBit, if_neg (by decide)]
  have key : ∀ n, w_bst (w_okk s (177 + 6 * t)) (w_prc s) (n + 1) = 0 := fun n => by
    induction n with
    | zero => rw [w_bst_1, if_pos ⟨hq, Or.inl rfl⟩]
    | succ n ih =>
      rw [w_bst_1, ih, hp, if_neg]
      rintro ⟨_, g | g | g⟩
      · omega
      · omega
      · have : w_pc 0 = 0 := by decide +kernel
        omega
  exact key 1023
theorem w_okk_0 {s : Nat → Nat} {t : Nat} (h : w_open s t ≠ 0) : w_okk s (177 + 6 * t) 0 = false := by
  cases c : w_okk s (177 + 6 * t) 0 with
  | false => rfl
  | true =>
    unfold w_okk w_okc at c
    rw [Bool.and_eq_true, Bool.and_eq_true, z_all_iff] at c
    refine absurd ((z_sum_zero 6).mpr fun k hk => ?_) h
    have := of_decide_eq_true (c.2.2 k hk)
    rw [w_cs_0] at this
    omega
section OE
variable {X : Nat × (Nat → Int32)} {tx : List Int32} {D : Nat} {m j : Nat → Nat → Nat} {w : (Nat × Nat) × Bool} {s : Nat → Nat}
theorem s_Or_cheapestSet1 (hD : 1 ≤ D) {F : Nat} : a_ex X tx a_T D 108 [.ref 162, .int (nI F), .int (nI 1)] (b_h m j w) = some ((b_h m j w), some (.int (nI (0)))) := by
  obtain ⟨d, rfl⟩ : ∃ d, D = d + 1 := ⟨D - 1, by omega⟩
  rw [e_Or_cheapestSet, q_Or_cheapestSet_0]
  simp (disch := omega) only [↓bc_162, ↓b_t0, ↓b_t1, ↓b_t2, ↓b_t3, ↓b_t4, ↓b_t5, ↓b_t6, Nat.zero_add, Nat.le_refl, b_rs, b_rn, b_r2, b_ss, b_sn, b_bt, b_bf, b_b0, b_b1, b_bw, b_shl, b_or, b_iv, b_jv, b_sI, b_sJ, ↓z_hl, z_b0, z_b1, z_b2, b_and1c, b_and1z, if_true, if_false, nI_add, pk_mul, b_cl, b_lt, b_le, b_eq, b_eq0, b_le0, b_0lt, b_0le, b_lt0]
  rw [if_neg (by decide)]
theorem s_Or_cs51 {d f : Nat} (hF : c_F m 4 s) (hS : i_S s) (hd : 4 ≤ d) {r N F B b i p : Nat} {u8 : Value} (bt : Bool) (hN : N < 2 ^ s 3) (hi : i < 2000) (hr : ∀ k, k < 6 → s (r + k) ≤ 99) (h65 : ∀ k, k < 6 → m 165 k = s (r + k)) : ∃ m4 x, a_rn X tx (a_ex X tx a_T d) (a_go X tx (a_ex X tx a_T d) k_Or_cheapestSet_0 f) k_Or_cheapestSet_51 0 [.ref 162, .int (nI F), .int (nI 0), .int (nI B), .int (nI b), .int (nI N), .int (nI i), .int (nI p), u8] [.int (nI (b_b bt))] (b_h m j w) = a_go X tx (a_ex X tx a_T d) k_Or_cheapestSet_0 f 18 [.ref 162, .int (nI F), .int (nI 0), .int (nI (if bt = true ∧ w_okc s r N = true then N else B)), .int (nI (if bt = true ∧ w_okc s r N = true then p else b)), .int (nI N), .int (nI (i + 1)), .int (nI p), x] (b_h m4 j w) ∧ z_fr 164 164 m m4 := by
  have hE := i_S_E hS
  have hPw : 2 ^ s 3 ≤ 1024 := Nat.pow_le_pow_right (n := 2) (by decide) hE
  rw [q_Or_cheapestSet_51]
  cases bt with
  | false =>
    refine ⟨m, .int (nI 0), ?_, z_fr_rf⟩
    have z1 : ∀ a c : Nat, (if false = true ∧ w_okc s r N = true then a else c) = c := fun a c => if_neg (fun g => absurd g.1 (by decide))
    rw [z1, z1]
    simp (disch := omega) only [↓bc_162, ↓b_t0, ↓b_t1, ↓b_t2, ↓b_t3, ↓b_t4, ↓b_t5, ↓b_t6, Nat.zero_add, Nat.le_refl, b_rs, b_rn, b_r2, b_ss, b_sn, b_bt, b_bf, b_b0, b_b1, b_bw, b_shl, b_or, b_iv, b_jv, b_sI, b_sJ, ↓z_hl, z_b0, z_b1, z_b2, b_and1c, b_and1z, if_true, if_false, nI_add, pk_mul, b_cl, b_lt, b_le, b_eq, b_eq0, b_le0, b_0lt, b_0le, b_lt0]
  | true =>
    have h65b : ∀ k, k < 6 → m 165 k = w_lf (s (r + k)) ((fun _ => 0) k) := fun k hk => by rw [w_lf0]; exact h65 k hk
    have s3 := s_Or_closesAllLeft (X := X) (tx := tx) (D := d) (m := m) (j := j) (w := w) hF hS (by omega) (S := N) (A := fun k => s (r + k)) (C := fun _ => 0) (by omega) h65b (fun k hk => by have := hr k hk; show s (r + k) < 1000; omega) (fun _ _ => by decide)
    have s3 : a_ex X tx a_T d 112 [.ref 162, .int (nI N)] (b_h m j w) = some (b_h m j w, some (.int (nI (b_b (z_all (fun k => decide (s (r + k) ≤ 0 + w_cs s N k)) 6))))) := s3
    have ez : z_all (fun k => decide (s (r + k) ≤ 0 + w_cs s N k)) 6 = z_all (fun k => decide (s (r + k) ≤ w_cs s N k)) 6 := z_all_congr fun k _ => by rw [Nat.zero_add]
    rw [ez] at s3
    have hQ : w_okc s r N = (w_cn (w_fbh s r) N && z_all (fun k => decide (s (r + k) ≤ w_cs s N k)) 6) := rfl
    cases hc : z_all (fun k => decide (s (r + k) ≤ w_cs s N k)) 6 with
    | false =>
      rw [hc] at s3 hQ
      rw [Bool.and_false] at hQ
      refine ⟨m, .int (nI 1), ?_, z_fr_rf⟩
      have z1 : ∀ a c : Nat, (if true = true ∧ w_okc s r N = true then a else c) = c := fun a c => if_neg (fun g => by rw [hQ] at g; exact absurd g.2 (by decide))
      rw [z1, z1]
      simp (disch := omega) only [s3, Nat.one_ne_zero, ↓bc_162, ↓b_t0, ↓b_t1, ↓b_t2, ↓b_t3, ↓b_t4, ↓b_t5, ↓b_t6, Nat.zero_add, Nat.le_refl, b_rs, b_rn, b_r2, b_ss, b_sn, b_bt, b_bf, b_b0, b_b1, b_bw, b_shl, b_or, b_iv, b_jv, b_sI, b_sJ, ↓z_hl, z_b0, z_b1, z_b2, b_and1c, b_and1z, if_true, if_false, nI_add, pk_mul, b_cl, b_lt, b_le, b_eq, b_eq0, b_le0, b_0lt, b_0le, b_lt0]
    | true =>
      rw [hc] at s3 hQ
      rw [Bool.and_true] at hQ
      obtain ⟨m4, s4, g4⟩ := s_Or_mayFollow (X := X) (tx := tx) (D := d) (m := m) (j := j) (w := w) hF hS (by omega) (S := N) (P := 0) (r := r) hN (by decide) (fun i _ g => by rw [Nat.zero_testBit] at g; exact absurd g (by decide)) hr (fun k hk => by rw [w_cs_0, w_lf0]; exact h65 k hk)
      rw [w_fp0, ← hQ] at s4
      refine ⟨m4, .int (nI 1), ?_, g4⟩
      cases ho : w_okc s r N with
      | false =>
        rw [ho] at s4
        have z1 : ∀ a c : Nat, (if true = true ∧ false = true then a else c) = c := fun a c => if_neg (fun g => absurd g.2 (by decide))
        rw [z1, z1]
        simp (disch := omega) only [s3, s4, Nat.one_ne_zero, ↓bc_162, ↓b_t0, ↓b_t1, ↓b_t2, ↓b_t3, ↓b_t4, ↓b_t5, ↓b_t6, Nat.zero_add, Nat.le_refl, b_rs, b_rn, b_r2, b_ss, b_sn, b_bt, b_bf, b_b0, b_b1, b_bw, b_shl, b_or, b_iv, b_jv, b_sI, b_sJ, ↓z_hl, z_b0, z_b1, z_b2, b_and1c, b_and1z, if_true, if_false, nI_add, pk_mul, b_cl, b_lt, b_le, b_eq, b_eq0, b_le0, b_0lt, b_0le, b_lt0]
      | true =>
        rw [ho] at s4
        have z1 : ∀ a c : Nat, (if true = true ∧ true = true then a else c) = a := fun a c => if_pos ⟨rfl, rfl⟩
        rw [z1, z1]
        simp (disch := omega) only [s3, s4, Nat.one_ne_zero, ↓bc_162, ↓b_t0, ↓b_t1, ↓b_t2, ↓b_t3, ↓b_t4, ↓b_t5, ↓b_t6, Nat.zero_add, Nat.le_refl, b_rs, b_rn, b_r2, b_ss, b_sn, b_bt, b_bf, b_b0, b_b1, b_bw, b_shl, b_or, b_iv, b_jv, b_sI, b_sJ, ↓z_hl, z_b0, z_b1, z_b2, b_and1c, b_and1z, if_true, if_false, nI_add, pk_mul, b_cl, b_lt, b_le, b_eq, b_eq0, b_le0, b_0lt, b_0le, b_lt0]
theorem s_Or_cheapestSet0 (hF : c_F m 4 s) (hA : c_A m 26 s) (hS : i_S s) (hI : i_D s) (hD : 5 ≤ D) {t : Nat} (ht : t < 8) (ho : w_open s t ≠ 0) (h65 : ∀ k, k < 6 → m 165 k = s (177 + 6 * t + k)) : ∃ m2, a_ex X tx a_T D 108 [.ref 162, .int (nI (w_fitting s t)), .int (nI 0)] (b_h m j w) = some (b_h m2 j w, some (.int (nI (w_cst s (177 + 6 * t))))) ∧ z_fr 164 164 m m2 := by
  obtain ⟨d, rfl⟩ : ∃ d, D = d + 1 := ⟨D - 1, by omega⟩
  have hE := i_S_E hS
  have hPw : 2 ^ s 3 ≤ 1024 := Nat.pow_le_pow_right (n := 2) (by decide) hE
  have hFl : w_fitting s t < 2 ^ s 3 := z_set_lt _ (s 3)
  have hr : ∀ k, k < 6 → s (177 + 6 * t + k) ≤ 99 := fun k hk => i_D_op hI t ht k hk
  have h65b : ∀ k, k < 6 → m 165 k = w_lf (s (177 + 6 * t + k)) ((fun _ => 0) k) := fun k hk => by rw [w_lf0]; exact h65 k hk
  have s1 := s_Or_closesAllLeft (X := X) (tx := tx) (D := d) (m := m) (j := j) (w := w) hF hS (by omega) (S := w_fitting s t) (A := fun k => s (177 + 6 * t + k)) (C := fun _ => 0) (by omega) h65b (fun k hk => by have := hr k hk; show s (177 + 6 * t + k) < 1000; omega) (fun _ _ => by decide)
  rw [e_Or_cheapestSet, q_Or_cheapestSet_0]
  by_cases c0 : z_all (fun k => decide (s (177 + 6 * t + k) ≤ 0 + w_cs s (w_fitting s t) k)) 6 = true
  · rw [show z_all (fun k => decide ((fun k => s (177 + 6 * t + k)) k ≤ (fun _ => 0) k + w_cs s (w_fitting s t) k)) 6 = true from c0] at s1
    simp (disch := omega) only [s1, Nat.one_ne_zero, ↓bc_162, ↓b_t0, ↓b_t1, ↓b_t2, ↓b_t3, ↓b_t4, ↓b_t5, ↓b_t6, Nat.zero_add, Nat.le_refl, b_rs, b_rn, b_r2, b_ss, b_sn, b_bt, b_bf, b_b0, b_b1, b_bw, b_shl, b_or, b_iv, b_jv, b_sI, b_sJ, ↓z_hl, z_b0, z_b1, z_b2, b_and1c, b_and1z, if_true, if_false, nI_add, pk_mul, b_cl, b_lt, b_le, b_eq, b_eq0, b_le0, b_0lt, b_0le, b_lt0]
    rw [← l_Or_cheapestSet_18]
    refine z_run (Q := fun r => ∃ m2, r = some (b_h m2 j w, some (.int (nI (w_cst s (177 + 6 * t))))) ∧ z_fr 164 164 m m2) (fun q L h => ∃ S m3 i b u7 u8, q + i = 1024 ∧ i ≤ S ∧ S < 2 ^ s 3 ∧ S &&& w_fitting s t = S ∧ (w_bst (w_okk s (177 + 6 * t)) (w_prc s) (S + 1) ≠ 4294967295 → b = w_prc s (w_bst (w_okk s (177 + 6 * t)) (w_prc s) (S + 1))) ∧ b ≤ 990 ∧ L = [.ref 162, .int (nI (w_fitting s t)), .int (nI 0), .int (nI (w_bst (w_okk s (177 + 6 * t)) (w_prc s) (S + 1))), .int (nI b), .int (nI S), .int (nI i), u7, u8] ∧ h = b_h m3 j w ∧ z_fr 164 164 m m3) 0 ?_ 1024 _ _ ⟨0, m, 0, 0, _, _, by omega, by omega, Nat.two_pow_pos _, Nat.zero_and _, fun g => absurd (w_bst_f (w_okk_0 ho)) g, by omega, by rw [w_bst_f (w_okk_0 ho)]; rfl, rfl, z_fr_rf⟩ _ (z_fu (by omega))
    rintro q L h ⟨S, m3, i, b, u7, u8, hq, hi, hS1, hSF, hb, hb2, rfl, rfl, hm⟩ f _
    have hF3 : c_F m3 4 s := c_F_ext (fun c p1 p2 => hm c (by omega)) (fun _ _ => rfl) hS hF
    have hA3 : c_A m3 26 s := c_A_ext (fun c p1 p2 => hm c (by omega)) hA
    have hSle := z_sub_le hSF
    rw [l_Or_cheapestSet_18, q_Or_cheapestSet_18]
    by_cases c1 : S = w_fitting s t
    · left
      refine ⟨m3, ?_, hm⟩
      have e1 : w_cst s (177 + 6 * t) = w_bst (w_okk s (177 + 6 * t)) (w_prc s) (S + 1) := w_bst_pad 1024 (by omega) fun x h1 h2 => by
        cases c : w_okk s (177 + 6 * t) x with
        | false => rfl
        | true => have := z_sub_le (w_okk_sub hE h2 c); omega
      rw [e1]
      have x1 : (nI S - nI (w_fitting s t)) &&& nI (w_fitting s t) = nI 0 := by rw [← c1, b_sub (Nat.le_refl _), Nat.sub_self, b_and, Nat.zero_and]
      simp (disch := omega) only [x1, ↓bc_162, ↓b_t0, ↓b_t1, ↓b_t2, ↓b_t3, ↓b_t4, ↓b_t5, ↓b_t6, Nat.zero_add, Nat.le_refl, b_rs, b_rn, b_r2, b_ss, b_sn, b_bt, b_bf, b_b0, b_b1, b_bw, b_shl, b_or, b_iv, b_jv, b_sI, b_sJ, ↓z_hl, z_b0, z_b1, z_b2, b_and1c, b_and1z, if_true, if_false, nI_add, pk_mul, b_cl, b_lt, b_le, b_eq, b_eq0, b_le0, b_0lt, b_0le, b_lt0]
      rw [if_neg (by omega)]
    · right
      obtain ⟨n1, n2⟩ := z_nx 32 (w_fitting s t) S (w_fitting s t) (by omega) hSF (Nat.and_self _) (by omega)
      have n3 : ((S + 2 ^ 32 - w_fitting s t) &&& w_fitting s t) &&& w_fitting s t = (S + 2 ^ 32 - w_fitting s t) &&& w_fitting s t := by rw [Nat.and_assoc, Nat.and_self]
      have x1 : (nI S - nI (w_fitting s t)) &&& nI (w_fitting s t) = nI ((S + 2 ^ 32 - w_fitting s t) &&& w_fitting s t) := by rw [b_subn (by omega) (by omega), b_and]
      have gap : ∀ x, S + 1 ≤ x → x < ((S + 2 ^ 32 - w_fitting s t) &&& w_fitting s t) → w_okk s (177 + 6 * t) x = false := fun x h1 h2 => by
        cases c : w_okk s (177 + 6 * t) x with
        | false => rfl
        | true => have := (z_nx 32 (w_fitting s t) S x (by omega) hSF (w_okk_sub hE (by omega) c) (by omega)).2; omega
      generalize ((S + 2 ^ 32 - w_fitting s t) &&& w_fitting s t) = N at n1 n2 n3 x1 gap
      have hpad := w_bst_pad (Q := w_okk s (177 + 6 * t)) (pr := w_prc s) (a := S + 1) N (by omega) gap
      rw [← hpad] at hb ⊢
      have hlt := w_bst_lt (Q := w_okk s (177 + 6 * t)) (pr := w_prc s) N
      have hw := w_bst_1 (Q := w_okk s (177 + 6 * t)) (pr := w_prc s) (n := N)
      generalize hB : w_bst (w_okk s (177 + 6 * t)) (w_prc s) N = B at hb hlt hw ⊢
      have hBb : B = 4294967295 ∨ B < 1024 := by
        rcases hlt with g | g
        · exact Or.inl g
        · exact Or.inr (by omega)
      have s2 := s_Or_coinOf (X := X) (tx := tx) (D := d) (m := m3) (j := j) (w := w) hF3 hA3 hS hI (by omega) (S := N) (by omega)
      have s2 : a_ex X tx a_T d 109 [.ref 162, .int (nI N)] (b_h m3 j w) = some (b_h m3 j w, some (.int (nI (w_prc s N)))) := s2
      have hpl := w_prc_le hI hE (S := N)
      have hQ : w_okk s (177 + 6 * t) N = w_okc s (177 + 6 * t) N := by
        unfold w_okk
        rw [decide_eq_true (w_fit_left hE (by omega) n3), Bool.true_and]
      rw [hQ] at hw
      have fin : ∀ bt : Bool, (bt = true ↔ (B = 4294967295 ∨ w_prc s N < w_prc s B ∨ (w_prc s N = w_prc s B ∧ w_pc N < w_pc B))) → ∃ k2 L2 h2, k2 < q ∧ (∃ S m3 i b u7 u8, k2 + i = 1024 ∧ i ≤ S ∧ S < 2 ^ s 3 ∧ S &&& w_fitting s t = S ∧ (w_bst (w_okk s (177 + 6 * t)) (w_prc s) (S + 1) ≠ 4294967295 → b = w_prc s (w_bst (w_okk s (177 + 6 * t)) (w_prc s) (S + 1))) ∧ b ≤ 990 ∧ L2 = [.ref 162, .int (nI (w_fitting s t)), .int (nI 0), .int (nI (w_bst (w_okk s (177 + 6 * t)) (w_prc s) (S + 1))), .int (nI b), .int (nI S), .int (nI i), u7, u8] ∧ h2 = b_h m3 j w ∧ z_fr 164 164 m m3) ∧ a_rn X tx (a_ex X tx a_T d) (a_go X tx (a_ex X tx a_T d) k_Or_cheapestSet_0 f) k_Or_cheapestSet_51 0 [.ref 162, .int (nI (w_fitting s t)), .int (nI 0), .int (nI B), .int (nI b), .int (nI N), .int (nI i), .int (nI (w_prc s N)), u8] [.int (nI (b_b bt))] (b_h m3 j w) = a_go X tx (a_ex X tx a_T d) k_Or_cheapestSet_0 f 18 L2 h2 := fun bt hbt => by
        obtain ⟨m4, x, e5, g5⟩ := s_Or_cs51 (X := X) (tx := tx) (d := d) (f := f) (m := m3) (j := j) (w := w) hF3 hS (by omega) (r := 177 + 6 * t) (N := N) (F := w_fitting s t) (B := B) (b := b) (i := i) (p := w_prc s N) (u8 := u8) bt (by omega) (by omega) hr (fun k hk => by rw [hm 165 (by omega)]; exact h65 k hk)
        refine ⟨q - 1, _, _, by omega, ⟨N, m4, i + 1, (if bt = true ∧ w_okc s (177 + 6 * t) N = true then w_prc s N else b), .int (nI (w_prc s N)), x, by omega, by omega, by omega, n3, ?_, by split <;> omega, ?_, rfl, fun c hc => by rw [g5 c hc, hm c hc]⟩, e5⟩
        · rw [hw]
          by_cases c3 : bt = true ∧ w_okc s (177 + 6 * t) N = true
          · rw [if_pos c3, if_pos ⟨c3.2, hbt.mp c3.1⟩]
            exact fun _ => rfl
          · rw [if_neg c3, if_neg (fun g => c3 ⟨hbt.mpr g.2, g.1⟩)]
            exact hb
        · rw [hw]
          by_cases c3 : bt = true ∧ w_okc s (177 + 6 * t) N = true
          · rw [if_pos c3, if_pos c3, if_pos ⟨c3.2, hbt.mp c3.1⟩]
          · rw [if_neg c3, if_neg c3, if_neg (fun g => c3 ⟨hbt.mpr g.2, g.1⟩)]
      have hN0 : N ≠ 0 := by omega
      by_cases c2 : B = 4294967295
      · obtain ⟨k2, L2, h2, a1, a2, a3⟩ := fin true ⟨fun _ => Or.inl c2, fun _ => rfl⟩
        refine ⟨k2, L2, h2, a1, a2, ?_⟩
        rw [← a3, c2, b_bt]
        simp (disch := omega) only [x1, s2, ↓bc_162, ↓b_t0, ↓b_t1, ↓b_t2, ↓b_t3, ↓b_t4, ↓b_t5, ↓b_t6, Nat.zero_add, Nat.le_refl, b_rs, b_rn, b_r2, b_ss, b_sn, b_bt, b_bf, b_b0, b_b1, b_bw, b_shl, b_or, b_iv, b_jv, b_sI, b_sJ, ↓z_hl, z_b0, z_b1, z_b2, b_and1c, b_and1z, if_true, if_false, nI_add, pk_mul, b_cl, b_lt, b_le, b_eq, b_eq0, b_le0, b_0lt, b_0le, b_lt0]
        rw [if_neg (by omega), if_neg hN0]
      · have hb3 := hb c2
        have hB2 : B < 1024 := by omega
        by_cases c3 : w_prc s N < w_prc s B
        · obtain ⟨k2, L2, h2, a1, a2, a3⟩ := fin true ⟨fun _ => Or.inr (Or.inl c3), fun _ => rfl⟩
          refine ⟨k2, L2, h2, a1, a2, ?_⟩
          rw [← a3, b_bt]
          simp (disch := omega) only [x1, s2, ↓bc_162, ↓b_t0, ↓b_t1, ↓b_t2, ↓b_t3, ↓b_t4, ↓b_t5, ↓b_t6, Nat.zero_add, Nat.le_refl, b_rs, b_rn, b_r2, b_ss, b_sn, b_bt, b_bf, b_b0, b_b1, b_bw, b_shl, b_or, b_iv, b_jv, b_sI, b_sJ, ↓z_hl, z_b0, z_b1, z_b2, b_and1c, b_and1z, if_true, if_false, nI_add, pk_mul, b_cl, b_lt, b_le, b_eq, b_eq0, b_le0, b_0lt, b_0le, b_lt0]
          rw [if_neg (by omega), if_neg hN0, if_neg c2, if_pos (by omega)]
        · by_cases c4 : w_prc s N = w_prc s B
          · have p1 := w_pc_le N
            have p2 := w_pc_le B
            by_cases c5 : w_pc N < w_pc B
            · obtain ⟨k2, L2, h2, a1, a2, a3⟩ := fin true ⟨fun _ => Or.inr (Or.inr ⟨c4, c5⟩), fun _ => rfl⟩
              refine ⟨k2, L2, h2, a1, a2, ?_⟩
              rw [← a3, b_bt]
              simp (disch := omega) only [x1, s2, s_Ji_bitCount, ↓bc_162, ↓b_t0, ↓b_t1, ↓b_t2, ↓b_t3, ↓b_t4, ↓b_t5, ↓b_t6, Nat.zero_add, Nat.le_refl, b_rs, b_rn, b_r2, b_ss, b_sn, b_bt, b_bf, b_b0, b_b1, b_bw, b_shl, b_or, b_iv, b_jv, b_sI, b_sJ, ↓z_hl, z_b0, z_b1, z_b2, b_and1c, b_and1z, if_true, if_false, nI_add, pk_mul, b_cl, b_lt, b_le, b_eq, b_eq0, b_le0, b_0lt, b_0le, b_lt0]
              rw [if_neg (by omega), if_neg hN0, if_neg c2, if_neg (by omega), if_pos (by omega), if_neg (by omega)]
            · obtain ⟨k2, L2, h2, a1, a2, a3⟩ := fin false ⟨fun g => absurd g (by decide), fun g => by rcases g with g | g | g; exact absurd g c2; exact absurd g c3; exact absurd g.2 c5⟩
              refine ⟨k2, L2, h2, a1, a2, ?_⟩
              rw [← a3, b_bf]
              simp (disch := omega) only [x1, s2, s_Ji_bitCount, ↓bc_162, ↓b_t0, ↓b_t1, ↓b_t2, ↓b_t3, ↓b_t4, ↓b_t5, ↓b_t6, Nat.zero_add, Nat.le_refl, b_rs, b_rn, b_r2, b_ss, b_sn, b_bt, b_bf, b_b0, b_b1, b_bw, b_shl, b_or, b_iv, b_jv, b_sI, b_sJ, ↓z_hl, z_b0, z_b1, z_b2, b_and1c, b_and1z, if_true, if_false, nI_add, pk_mul, b_cl, b_lt, b_le, b_eq, b_eq0, b_le0, b_0lt, b_0le, b_lt0]
              rw [if_neg (by omega), if_neg hN0, if_neg c2, if_neg (by omega), if_pos (by omega), if_pos (by omega)]
          · obtain ⟨k2, L2, h2, a1, a2, a3⟩ := fin false ⟨fun g => absurd g (by decide), fun g => by rcases g with g | g | g; exact absurd g c2; exact absurd g c3; exact absurd g.1 c4⟩
            refine ⟨k2, L2, h2, a1, a2, ?_⟩
            rw [← a3, b_bf]
            simp (disch := omega) only [x1, s2, ↓bc_162, ↓b_t0, ↓b_t1, ↓b_t2, ↓b_t3, ↓b_t4, ↓b_t5, ↓b_t6, Nat.zero_add, Nat.le_refl, b_rs, b_rn, b_r2, b_ss, b_sn, b_bt, b_bf, b_b0, b_b1, b_bw, b_shl, b_or, b_iv, b_jv, b_sI, b_sJ, ↓z_hl, z_b0, z_b1, z_b2, b_and1c, b_and1z, if_true, if_false, nI_add, pk_mul, b_cl, b_lt, b_le, b_eq, b_eq0, b_le0, b_0lt, b_0le, b_lt0]
            rw [if_neg (by omega), if_neg hN0, if_neg c2, if_neg (by omega), if_neg (by omega)]
  · refine ⟨m, ?_, z_fr_rf⟩
    have c1 := Bool.eq_false_iff.mpr c0
    rw [show z_all (fun k => decide ((fun k => s (177 + 6 * t + k)) k ≤ (fun _ => 0) k + w_cs s (w_fitting s t) k)) 6 = false from c1] at s1
    have e1 : w_cst s (177 + 6 * t) = 4294967295 := by
      refine Classical.byContradiction fun g => c0 ((z_all_iff _ _).mpr fun k hk => decide_eq_true (Nat.le_of_not_lt fun g2 => g (w_cst_none hE hk (by omega))))
    rw [e1]
    simp (disch := omega) only [s1, ↓bc_162, ↓b_t0, ↓b_t1, ↓b_t2, ↓b_t3, ↓b_t4, ↓b_t5, ↓b_t6, Nat.zero_add, Nat.le_refl, b_rs, b_rn, b_r2, b_ss, b_sn, b_bt, b_bf, b_b0, b_b1, b_bw, b_shl, b_or, b_iv, b_jv, b_sI, b_sJ, ↓z_hl, z_b0, z_b1, z_b2, b_and1c, b_and1z, if_true, if_false, nI_add, pk_mul, b_cl, b_lt, b_le, b_eq, b_eq0, b_le0, b_0lt, b_0le, b_lt0]
end OE
