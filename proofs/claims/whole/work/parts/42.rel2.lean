/-! CLASS AND REFERENCE: what holds between them ahead of every call -/
/-- the tapes: how many bytes, the bytes -/
def r_T (n n2 : Nat) (b b2 : Nat → Nat) : Prop := n2 = n ∧ n ≤ 940 ∧ ∀ i, i < n → b i < 256 ∧ b2 i % 256 = b i
/-- small letters, five bits each, as bytes -/
def w_conv (L : Nat) : Nat := if h : L = 0 then 0 else w_conv (L / 32) * 256 + (L % 32 + 96)
  termination_by L
  decreasing_by omega
def w_base (q : Nat) : Nat := if q = 0 then 0 else if q = 1 then 6 else if q = 2 then 12 else 20
/-- the names: sorts, numbers, how many, letters; the reference's words -/
def r_N (so nu : Nat → Nat) (c : Nat) (L N : Nat → Nat) (s : Nat → Nat) : Prop :=
  c = s 0 + s 1 + s 2 + s 3 ∧ (∀ i, i < c → so i ≤ 3 ∧ nu i < s (so i) ∧ N (w_base (so i) + nu i) = w_conv (L i) ∧ L i < 34359738368) ∧ (∀ q, q ≤ 3 → ∀ n, n < s q → ∃ i, i < c ∧ so i = q ∧ nu i = n) ∧ (∀ i, i < c → ∀ k, k < c → L i = L k → i = k)
/-- a kept state -/
def w_rowS (s u : Nat → Nat) (r : Nat) : Nat → Nat := b_rg s 157 195 fun q => u (195 * r + q)
/-- what can be undone -/
def r_P (m : Nat → Nat → Nat) (s u : Nat → Nat) (n : Nat) : Prop :=
  n ≤ 8 ∧ m 50 1 = n ∧ m 50 2 < 8 ∧ ∀ r, r < n → c_A m (52 + 12 * ((m 50 2 + 8 - n + r) % 8)) (w_rowS s u r) ∧ i_D (w_rowS s u r)
/-- one part of a sentence: the class's, the reference's -/
def r_c1 (s : Nat → Nat) (p nm nb c0 c1 c2 : Nat) : Prop :=
  (p = 9 ∧ c0 = 22) ∨ (p = 10 ∧ c0 = 21) ∨ (p = 11 ∧ c0 = 20) ∨ (p = 12 ∧ c0 = 0) ∨ (p = 13 ∧ c0 = 1 ∧ c2 = nm ∧ nm < s 1) ∨ (p = 14 ∧ c0 = 2 ∧ c2 = nm ∧ nm < s 0) ∨ (p = 15 ∧ c0 = 3 ∧ c2 = nm ∧ nm < s 3) ∨ (16 ≤ p ∧ p ≤ 18 ∧ c0 + 12 = p ∧ c1 = nm ∧ 60 ≤ nm ∧ nm ≤ 62 ∧ c2 = nb ∧ nb ≤ 999)
/-- how many truths lie ready behind so many parts -/
def w_dep (part : Nat → Nat) : Nat → Nat
  | 0 => 0
  | n + 1 => if part n = 11 then w_dep part n else if part n = 9 ∨ part n = 10 then w_dep part n - 1 else w_dep part n + 1
def r_wf (part : Nat → Nat) (n : Nat) : Prop := (∀ i, i < n → (part i = 11 → 1 ≤ w_dep part i) ∧ (part i = 9 ∨ part i = 10 → 2 ≤ w_dep part i)) ∧ (∀ i, i ≤ n → w_dep part i ≤ 20) ∧ (0 < n → w_dep part n = 1)
/-- the sentence -/
def r_C (ones parts : Nat) (part named number : Nat → Nat) (s : Nat → Nat) : Prop :=
  parts ≤ 40 ∧ s 352 = parts ∧ (ones = 0 ↔ parts = 0) ∧ ones < 4294967296 ∧ (∀ i, i < parts → r_c1 s (part i) (named i) (number i) (s (353 + 3 * i)) (s (353 + 3 * i + 1)) (s (353 + 3 * i + 2))) ∧ r_wf part parts
/-- an image -/
def r_I (m j : Nat → Nat → Nat) (f : Nat) (s N : Nat → Nat) : Prop :=
  i_S s ∧ i_D s ∧ c_F m f s ∧ c_A m (f + 11) s ∧ r_N (m (f + 2)) (m (f + 3)) (m f 6) (j (f + 1)) N s ∧ r_C (m (f + 23) 0) (m (f + 23) 1) (m (f + 24)) (m (f + 25)) (m (f + 26)) s
def w_imS (m : Nat → Nat → Nat) (k : Nat) : Nat → Nat := fun i => m 254 (533 * k + i)
def w_imN (j : Nat → Nat → Nat) (k : Nat) : Nat → Nat := fun i => j 255 (30 * k + i)
/-- the words of the texts -/
def w_wl (k : Nat) : Nat := [370116, 13358, 21243335, 182592967, 6337125, 153195, 87859, 546451, 4153, 498, 1476, 14836, 5705892, 486, 8243, 206483, 508078, 16817331, 492210354].getD k 0
def w_words (j : Nat → Nat → Nat) : Prop := ∀ k, k < 19 → j 3 k = w_wl k ∧ j 240 k = w_conv (w_wl k)
def r_R (m j : Nat → Nat → Nat) : Prop :=
  (i_S (m 236)) ∧
  (i_D (m 236)) ∧
  (c_F m 4 (m 236)) ∧
  (c_A m 26 (m 236)) ∧
  (r_T (m 1 2) (m 234 2) (m 2) (m 235)) ∧
  (m 0 14 = m 234 15) ∧
  (r_N (m 6) (m 7) (m 4 6) (j 5) (j 239) (m 236)) ∧
  (r_P m (m 236) (m 241) (m 234 23)) ∧
  (r_C (m 148 0) (m 148 1) (m 149) (m 150) (m 151) (m 236)) ∧
  (m 156 6 = m 234 43 ∧ m 234 43 < 2 ∧ (m 234 43 ≠ 0 → ∀ k, k < 4 → m 156 (7 + k) = m 251 k)) ∧
  (m 162 3 ≤ 10 ∧ ((m 234 26 = 4294967295 ∧ m 162 3 = 0) ∨ m 234 26 = m 162 3) ∧ ∀ k, k < m 162 3 → m 163 k = m 244 k) ∧
  ((m 234 30 = 4294967295 ∨ m 234 30 ≤ 8) ∧ ∀ t, t < 8 → m 171 t = if m 234 30 ≠ 4294967295 ∧ t < m 234 30 then m 247 t else 4294967295) ∧
  (m 234 32 < 2 ∧ m 167 7 = if m 234 32 = 0 then 4294967295 else m 234 31) ∧
  (m 234 34 < 2 ∧ m 0 15 = if m 234 34 = 0 then 4294967295 else m 234 33) ∧
  (m 234 36 < 2 ∧ m 0 16 = if m 234 36 = 0 then 4294967295 else m 234 35) ∧
  (w_words j) ∧
  (∀ k, k < 2 → m (178 + 28 * k) 3 = m 256 k ∧ m 256 k < 2 ∧ (m 256 k ≠ 0 → r_I m j (179 + 28 * k) (w_imS m k) (w_imN j k)))
theorem r_R_st {m j : Nat → Nat → Nat} (h : r_R m j) : i_S (m 236) := h.1
theorem r_R_dy {m j : Nat → Nat → Nat} (h : r_R m j) : i_D (m 236) := h.2.1
theorem r_R_fa {m j : Nat → Nat → Nat} (h : r_R m j) : c_F m 4 (m 236) := h.2.2.1
theorem r_R_af {m j : Nat → Nat → Nat} (h : r_R m j) : c_A m 26 (m 236) := h.2.2.2.1
theorem r_R_tp {m j : Nat → Nat → Nat} (h : r_R m j) : r_T (m 1 2) (m 234 2) (m 2) (m 235) := h.2.2.2.2.1
theorem r_R_ft {m j : Nat → Nat → Nat} (h : r_R m j) : m 0 14 = m 234 15 := h.2.2.2.2.2.1
theorem r_R_nm {m j : Nat → Nat → Nat} (h : r_R m j) : r_N (m 6) (m 7) (m 4 6) (j 5) (j 239) (m 236) := h.2.2.2.2.2.2.1
theorem r_R_pa {m j : Nat → Nat → Nat} (h : r_R m j) : r_P m (m 236) (m 241) (m 234 23) := h.2.2.2.2.2.2.2.1
theorem r_R_cl {m j : Nat → Nat → Nat} (h : r_R m j) : r_C (m 148 0) (m 148 1) (m 149) (m 150) (m 151) (m 236) := h.2.2.2.2.2.2.2.2.1
theorem r_R_to {m j : Nat → Nat → Nat} (h : r_R m j) : m 156 6 = m 234 43 ∧ m 234 43 < 2 ∧ (m 234 43 ≠ 0 → ∀ k, k < 4 → m 156 (7 + k) = m 251 k) := h.2.2.2.2.2.2.2.2.2.1
theorem r_R_ro {m j : Nat → Nat → Nat} (h : r_R m j) : m 162 3 ≤ 10 ∧ ((m 234 26 = 4294967295 ∧ m 162 3 = 0) ∨ m 234 26 = m 162 3) ∧ ∀ k, k < m 162 3 → m 163 k = m 244 k := h.2.2.2.2.2.2.2.2.2.2.1
theorem r_R_sr {m j : Nat → Nat → Nat} (h : r_R m j) : (m 234 30 = 4294967295 ∨ m 234 30 ≤ 8) ∧ ∀ t, t < 8 → m 171 t = if m 234 30 ≠ 4294967295 ∧ t < m 234 30 then m 247 t else 4294967295 := h.2.2.2.2.2.2.2.2.2.2.2.1
theorem r_R_tr {m j : Nat → Nat → Nat} (h : r_R m j) : m 234 32 < 2 ∧ m 167 7 = if m 234 32 = 0 then 4294967295 else m 234 31 := h.2.2.2.2.2.2.2.2.2.2.2.2.1
theorem r_R_sk {m j : Nat → Nat → Nat} (h : r_R m j) : m 234 34 < 2 ∧ m 0 15 = if m 234 34 = 0 then 4294967295 else m 234 33 := h.2.2.2.2.2.2.2.2.2.2.2.2.2.1
theorem r_R_rd {m j : Nat → Nat → Nat} (h : r_R m j) : m 234 36 < 2 ∧ m 0 16 = if m 234 36 = 0 then 4294967295 else m 234 35 := h.2.2.2.2.2.2.2.2.2.2.2.2.2.2.1
theorem r_R_wd {m j : Nat → Nat → Nat} (h : r_R m j) : w_words j := h.2.2.2.2.2.2.2.2.2.2.2.2.2.2.2.1
theorem r_R_im {m j : Nat → Nat → Nat} (h : r_R m j) : ∀ k, k < 2 → m (178 + 28 * k) 3 = m 256 k ∧ m 256 k < 2 ∧ (m 256 k ≠ 0 → r_I m j (179 + 28 * k) (w_imS m k) (w_imN j k)) := h.2.2.2.2.2.2.2.2.2.2.2.2.2.2.2.2
