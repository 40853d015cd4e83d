/-! PURE GROUND: numbers, guards, loops of the abstract machine -/
theorem z_id {α : Type} {a b : α} (h : a = b) : a = b := h
theorem z_in {n m : Nat} (h : n < m) (hm : m < 2 ^ 31) : a_in (nI n) m = true := by
  unfold a_in
  rw [nI_toInt (by omega)]
  simp
  omega
theorem z_kc {h : A_H} {a c : Nat} {r : A_R} (e : a_kd h a = c) : a_kc h a c r = r := if_pos e
theorem z_ix {h : A_H} {a n : Nat} {r : A_R} (e : n < a_ln h a) (hl : a_ln h a < 2 ^ 31) : a_ix h a (nI n) r = r := by
  unfold a_ix
  rw [z_in e hl]
  rfl
theorem z_go {X : Nat × (Nat → Int32)} {tx : List Int32} {M : Nat → List Value → A_H → A_R} {ops : List A_O} {f t : Nat} {L : List Value} {h : A_H} : a_rn X tx M (a_go X tx M ops f) (ops.drop t) 0 L [] h = a_go X tx M ops (f + 1) t L h := rfl
theorem z_fo {α : Type} {x : α} {f : α → A_R} : a_fo (some x) f = f x := z_id rfl
theorem z_b0 {h : A_H} {f : A_H → A_R} : a_b0 (some (h, none)) f = f h := z_id rfl
theorem z_b1 {h : A_H} {x : Int32} {f : Int32 → A_H → A_R} : a_b1 (some (h, some (.int x))) f = f x h := z_id rfl
theorem z_b2 {h : A_H} {x : Int64} {f : Int64 → A_H → A_R} : a_b2 (some (h, some (.long x))) f = f x h := z_id rfl
theorem z_hl {h : A_H} {f : A_H → A_R} : a_hl h f = f h := z_id rfl
theorem z_it {r : A_R} : a_if true r = r := z_id rfl
/-- a loop with so many rounds: the state of round j; F: the fuel that what comes behind it wants -/
theorem z_loop {go : Nat → Nat → List Value → A_H → A_R} {t : Nat} (st : Nat → List Value) (hp : Nat → A_H) (n F : Nat) {r : A_R}
    (hs : ∀ j, j < n → ∀ f, F ≤ f → go (f + 1) t (st j) (hp j) = go f t (st (j + 1)) (hp (j + 1))) (he : ∀ f, F ≤ f → go (f + 1) t (st n) (hp n) = r) : ∀ f, F + n < f → go f t (st 0) (hp 0) = r := by
  have key : ∀ m j, j + m = n → ∀ f, F + m < f → go f t (st j) (hp j) = r := by
    intro m
    induction m with
    | zero =>
      intro j hj f hf
      have hj : j = n := by omega
      subst hj
      obtain ⟨g, rfl⟩ : ∃ g, f = g + 1 := ⟨f - 1, by omega⟩
      exact he g (by omega)
    | succ m ih =>
      intro j hj f hf
      obtain ⟨g, rfl⟩ : ∃ g, f = g + 1 := ⟨f - 1, by omega⟩
      rw [hs j (by omega) g (by omega)]
      exact ih (j + 1) (by omega) g (by omega)
  intro f hf
  exact key n 0 (by omega) f (by omega)
/-- the first round in which c holds, or the one behind the last -/
def z_fst (c : Nat → Bool) : Nat → Nat → Nat
  | 0, j => j
  | n + 1, j => if c j = true then j else z_fst c n (j + 1)
theorem z_find {go : Nat → Nat → List Value → A_H → A_R} {t : Nat} (st : Nat → List Value) (hp : Nat → A_H) (c : Nat → Bool) (r : Nat → A_R) (n F : Nat)
    (hs : ∀ j, j < n → ∀ f, F ≤ f → go (f + 1) t (st j) (hp j) = if c j = true then r j else go f t (st (j + 1)) (hp (j + 1))) (he : ∀ f, F ≤ f → go (f + 1) t (st n) (hp n) = r n) : ∀ f, F + n < f → go f t (st 0) (hp 0) = r (z_fst c n 0) := by
  have key : ∀ m j, j + m = n → ∀ f, F + m < f → go f t (st j) (hp j) = r (z_fst c m j) := by
    intro m
    induction m with
    | zero =>
      intro j hj f hf
      have hj : j = n := by omega
      subst hj
      obtain ⟨g, rfl⟩ : ∃ g, f = g + 1 := ⟨f - 1, by omega⟩
      exact he g (by omega)
    | succ m ih =>
      intro j hj f hf
      obtain ⟨g, rfl⟩ : ∃ g, f = g + 1 := ⟨f - 1, by omega⟩
      rw [hs j (by omega) g (by omega)]
      unfold z_fst
      split
      · rfl
      · exact ih (j + 1) (by omega) g (by omega)
  intro f hf
  exact key n 0 (by omega) f (by omega)
theorem z_fst_spec (c : Nat → Bool) : ∀ n j, j ≤ z_fst c n j ∧ z_fst c n j ≤ j + n ∧ (∀ i, j ≤ i → i < z_fst c n j → c i = false) ∧ (z_fst c n j < j + n → c (z_fst c n j) = true) := by
  intro n
  induction n with
  | zero => intro j; exact ⟨Nat.le_refl _, Nat.le_refl _, fun i h1 h2 => by unfold z_fst at h2; omega, fun h => by unfold z_fst at h; omega⟩
  | succ n ih =>
    intro j
    unfold z_fst
    split
    · rename_i hc
      exact ⟨Nat.le_refl _, by omega, fun i h1 h2 => by omega, fun _ => hc⟩
    · rename_i hc
      obtain ⟨h1, h2, h3, h4⟩ := ih (j + 1)
      refine ⟨by omega, by omega, fun i g1 g2 => ?_, fun g => h4 (by omega)⟩
      by_cases e : i = j
      · subst e; simpa using hc
      · exact h3 i (by omega) g2
theorem z_fu {n : Nat} (h : n < 1000000) : n < a_f1 + 1 := by
  have : a_f1 = 999999 := rfl
  omega
/-! sums, sets -/
def z_sum (g : Nat → Nat) : Nat → Nat
  | 0 => 0
  | n + 1 => z_sum g n + g n
def z_set (c : Nat → Bool) : Nat → Nat
  | 0 => 0
  | n + 1 => z_set c n + (if c n = true then 2 ^ n else 0)
theorem z_set_lt (c : Nat → Bool) : ∀ n, z_set c n < 2 ^ n
  | 0 => by simp [z_set]
  | n + 1 => by
    have := z_set_lt c n
    unfold z_set
    split <;> omega
theorem z_sum_congr {g k : Nat → Nat} : ∀ n, (∀ j, j < n → g j = k j) → z_sum g n = z_sum k n
  | 0, _ => rfl
  | n + 1, h => by
    unfold z_sum
    rw [z_sum_congr n (fun j hj => h j (by omega)), h n (by omega)]
theorem z_set_congr {g k : Nat → Bool} : ∀ n, (∀ j, j < n → g j = k j) → z_set g n = z_set k n
  | 0, _ => rfl
  | n + 1, h => by
    unfold z_set
    rw [z_set_congr n (fun j hj => h j (by omega)), h n (by omega)]
theorem z_sum_pad {g : Nat → Nat} {n : Nat} : ∀ m, (∀ j, n ≤ j → j < n + m → g j = 0) → z_sum g (n + m) = z_sum g n
  | 0, _ => rfl
  | m + 1, h => by
    show z_sum g (n + m) + g (n + m) = _
    rw [z_sum_pad m (fun j h1 h2 => h j h1 (by omega)), h (n + m) (by omega) (by omega)]
    rfl
theorem z_sum_zero {g : Nat → Nat} : ∀ n, z_sum g n = 0 ↔ ∀ j, j < n → g j = 0
  | 0 => by simp [z_sum]
  | n + 1 => by
    unfold z_sum
    rw [Nat.add_eq_zero_iff, z_sum_zero n]
    constructor
    · rintro ⟨h1, h2⟩ j hj
      by_cases e : j = n
      · rw [e]; exact h2
      · exact h1 j (by omega)
    · intro h
      exact ⟨fun j hj => h j (by omega), h n (by omega)⟩
theorem z_sum_le {g : Nat → Nat} {b : Nat} : ∀ n, (∀ j, j < n → g j ≤ b) → z_sum g n ≤ n * b
  | 0, _ => by simp [z_sum]
  | n + 1, h => by
    unfold z_sum
    have h1 := z_sum_le n (fun j hj => h j (by omega))
    have h2 := h n (by omega)
    rw [Nat.add_mul]
    omega
/-! bits of small numbers -/
theorem z_sh : ∀ n, n < 32 → ((nI n &&& 31).toBitVec.smod 32).toNat = n := by decide +kernel
theorem z_shl1 {n : Nat} (h : n < 31) : nI 1 <<< (nI n &&& 31) = nI (2 ^ n) := by
  have := pk_shlN (n := 1) (nI n &&& 31) n (z_sh n (by omega)) (by have : 2 ^ n < 2 ^ 32 := Nat.pow_lt_pow_right (by decide) (by omega); omega)
  rwa [Nat.one_mul] at this
theorem z_orN (a b : Nat) : nI a ||| nI b = nI (a ||| b) := by
  unfold nI
  apply Int32.toBitVec_inj.mp
  simp [Int32.toBitVec_ofNat', BitVec.ofNat_or]
theorem z_or {m n : Nat} (h : m < 2 ^ n) : nI m ||| nI (2 ^ n) = nI (m + 2 ^ n) := by
  rw [z_orN]
  congr 1
  rw [Nat.or_comm]
  have := Nat.two_pow_add_eq_or_of_lt h 1
  rw [Nat.mul_one] at this
  rw [← this]
  omega
theorem z_bit {s i : Nat} (hs : s < 2 ^ 31) (hi : i < 32) : (nI s >>> (nI i &&& 31)) &&& nI 1 = nI (s / 2 ^ i % 2) := by
  rw [pk_shrN hs _ i (z_sh i hi)]
  have := pk_andN (n := s / 2 ^ i) (m := nI 1) (by have := Nat.div_le_self s (2 ^ i); omega) 1 (by decide)
  rw [this]
theorem z_m1 : (-1 : Int32) = nI 4294967295 := by decide
theorem z_set_bit (c : Nat → Bool) : ∀ n i, i < n → (z_set c n / 2 ^ i % 2 = 1 ↔ c i = true)
  | 0, i, h => by omega
  | n + 1, i, h => by
    unfold z_set
    by_cases e : i = n
    · subst e
      have hl := z_set_lt c i
      split
      · rename_i hc
        rw [Nat.add_div_right _ (Nat.two_pow_pos i), Nat.div_eq_of_lt hl]
        simp [hc]
      · rename_i hc
        rw [Nat.add_zero, Nat.div_eq_of_lt hl]
        simp [hc]
    · rw [← z_set_bit c n i (by omega)]
      split
      · obtain ⟨k, hk⟩ : ∃ k, n = i + 1 + k := ⟨n - i - 1, by omega⟩
        have e2 : 2 ^ n = 2 ^ i * (2 * 2 ^ k) := by rw [hk, Nat.pow_add, Nat.pow_add]; simp [Nat.mul_assoc]
        rw [e2, Nat.add_mul_div_left _ _ (Nat.two_pow_pos i)]
        omega
      · rw [Nat.add_zero]
theorem z_set_big (c : Nat → Bool) {n i : Nat} (h : n ≤ i) : z_set c n / 2 ^ i % 2 = 0 := by
  rw [Nat.div_eq_of_lt (Nat.lt_of_lt_of_le (z_set_lt c n) (Nat.pow_le_pow_right (by decide) h))]
