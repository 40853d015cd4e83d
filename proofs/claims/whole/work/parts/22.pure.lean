/-! PURE GROUND: truths as numbers, sets as bits, loops with a way out -/
def b_b (c : Bool) : Nat := if c = true then 1 else 0
theorem b_b_lt (c : Bool) : b_b c < 2 := by unfold b_b; split <;> decide
theorem b_b0 {c : Bool} : (nI (b_b c) = 0) = (c = false) := by
  have h : ∀ c, (nI (b_b c) = 0) ↔ (c = false) := by decide +kernel
  exact propext (h c)
theorem b_b1 {c : Bool} : (nI (b_b c) = nI 1) = (c = true) := by
  have h : ∀ c, (nI (b_b c) = nI 1) ↔ (c = true) := by decide +kernel
  exact propext (h c)
theorem b_bz {c : Bool} : (nI (b_b c) = nI 0) = (c = false) := by
  have h : ∀ c, (nI (b_b c) = nI 0) ↔ (c = false) := by decide +kernel
  exact propext (h c)
theorem b_bw {c : Bool} : (nI (b_b c) &&& 1 = nI (b_b c)) = True := by
  have h : ∀ c, nI (b_b c) &&& 1 = nI (b_b c) := by decide +kernel
  exact eq_true (h c)
theorem b_bt : b_b true = 1 := rfl
theorem b_bf : b_b false = 0 := rfl
theorem b_bd {c : Prop} [Decidable c] : b_b (decide c) = if c then 1 else 0 := by
  unfold b_b
  by_cases h : c <;> simp [h]
def z_all (c : Nat → Bool) : Nat → Bool
  | 0 => true
  | n + 1 => z_all c n && c n
def z_any (c : Nat → Bool) : Nat → Bool
  | 0 => false
  | n + 1 => z_any c n || c n
theorem z_all_iff (c : Nat → Bool) : ∀ n, z_all c n = true ↔ ∀ k, k < n → c k = true
  | 0 => by simp [z_all]
  | n + 1 => by
    unfold z_all
    rw [Bool.and_eq_true, z_all_iff c n]
    constructor
    · rintro ⟨h1, h2⟩ k hk
      by_cases e : k = n
      · rw [e]; exact h2
      · exact h1 k (by omega)
    · intro h
      exact ⟨fun k hk => h k (by omega), h n (by omega)⟩
theorem z_any_iff (c : Nat → Bool) : ∀ n, z_any c n = true ↔ ∃ k, k < n ∧ c k = true
  | 0 => by simp [z_any]
  | n + 1 => by
    unfold z_any
    rw [Bool.or_eq_true, z_any_iff c n]
    constructor
    · rintro (⟨k, h1, h2⟩ | h)
      · exact ⟨k, by omega, h2⟩
      · exact ⟨n, by omega, h⟩
    · rintro ⟨k, h1, h2⟩
      by_cases e : k = n
      · subst e; exact Or.inr h2
      · exact Or.inl ⟨k, by omega, h2⟩
theorem z_all_congr {c e : Nat → Bool} {n : Nat} (h : ∀ k, k < n → c k = e k) : z_all c n = z_all e n := by
  rw [Bool.eq_iff_iff, z_all_iff, z_all_iff]
  exact ⟨fun g k hk => by rw [← h k hk]; exact g k hk, fun g k hk => by rw [h k hk]; exact g k hk⟩
theorem z_any_congr {c e : Nat → Bool} {n : Nat} (h : ∀ k, k < n → c k = e k) : z_any c n = z_any e n := by
  rw [Bool.eq_iff_iff, z_any_iff, z_any_iff]
  exact ⟨fun ⟨k, hk, g⟩ => ⟨k, hk, by rw [← h k hk]; exact g⟩, fun ⟨k, hk, g⟩ => ⟨k, hk, by rw [h k hk]; exact g⟩⟩
/-- what is behind n says nothing -/
theorem z_all_pad {c : Nat → Bool} {n p : Nat} (hn : n ≤ p) (h : ∀ k, n ≤ k → k < p → c k = true) : z_all c p = z_all c n := by
  rw [Bool.eq_iff_iff, z_all_iff, z_all_iff]
  refine ⟨fun g k hk => g k (by omega), fun g k hk => ?_⟩
  by_cases e : k < n
  · exact g k e
  · exact h k (by omega) hk
theorem z_any_pad {c : Nat → Bool} {n p : Nat} (hn : n ≤ p) (h : ∀ k, n ≤ k → k < p → c k = false) : z_any c p = z_any c n := by
  rw [Bool.eq_iff_iff, z_any_iff, z_any_iff]
  refine ⟨fun ⟨k, hk, g⟩ => ?_, fun ⟨k, hk, g⟩ => ⟨k, by omega, g⟩⟩
  by_cases e : k < n
  · exact ⟨k, e, g⟩
  · rw [h k (by omega) hk] at g; cases g
theorem z_sum_pad2 {g : Nat → Nat} {n p : Nat} (hn : n ≤ p) (h : ∀ k, n ≤ k → k < p → g k = 0) : z_sum g p = z_sum g n := by
  obtain ⟨q, rfl⟩ : ∃ q, p = n + q := ⟨p - n, by omega⟩
  exact z_sum_pad q h
theorem z_set_t {c : Nat → Bool} {n : Nat} (h : c n = true) : z_set c (n + 1) = z_set c n ||| 2 ^ n := by
  show z_set c n + (if c n = true then 2 ^ n else 0) = _
  rw [if_pos h, Nat.or_comm]
  have h1 := Nat.two_pow_add_eq_or_of_lt (z_set_lt c n) 1
  rw [Nat.mul_one] at h1
  rw [← h1]
  omega
theorem z_set_f {c : Nat → Bool} {n : Nat} (h : c n = false) : z_set c (n + 1) = z_set c n := by
  show z_set c n + (if c n = true then 2 ^ n else 0) = _
  rw [if_neg (by rw [h]; decide)]
  rfl
theorem z_set_bt (c : Nat → Bool) (n i : Nat) : (z_set c n).testBit i = (decide (i < n) && c i) := by
  rw [Nat.testBit_eq_decide_div_mod_eq]
  by_cases h : i < n
  · have := z_set_bit c n i h
    simp only [this, h, decide_true, Bool.true_and]
    simp
  · rw [z_set_big c (by omega)]
    simp [h]
theorem z_sum_set (c : Nat → Bool) : ∀ n, z_set c n = z_sum (fun k => if c k = true then 2 ^ k else 0) n
  | 0 => rfl
  | n + 1 => by
    unfold z_set z_sum
    rw [z_sum_set c n]
/-- a set with its highest bit in its place -/
theorem z_set_of {S n : Nat} (h : S < 2 ^ n) : z_set (fun i => S.testBit i) n = S := by
  apply Nat.eq_of_testBit_eq
  intro i
  rw [z_set_bt]
  by_cases hi : i < n
  · simp [hi]
  · have : S.testBit i = false := Nat.testBit_lt_two_pow (Nat.lt_of_lt_of_le h (Nat.pow_le_pow_right (by decide) (by omega)))
    simp [this]
/-! loops -/
section LP
variable {go : Nat → Nat → List Value → A_H → A_R} {t : Nat}
theorem z_alls (st : Nat → List Value) (hp : Nat → A_H) (ok : Nat → Bool) {r0 r1 : A_R} (n F : Nat)
    (hs : ∀ k, k < n → ∀ f, F ≤ f → go (f + 1) t (st k) (hp k) = if ok k = true then go f t (st (k + 1)) (hp (k + 1)) else r0) (he : ∀ f, F ≤ f → go (f + 1) t (st n) (hp n) = r1) : ∀ f, F + n < f → go f t (st 0) (hp 0) = if z_all ok n = true then r1 else r0 := by
  have key : ∀ q k, k + q = n → z_all ok k = true → ∀ f, F + q < f → go f t (st k) (hp k) = if z_all ok n = true then r1 else r0 := by
    intro q
    induction q with
    | zero =>
      intro k hk ha f hf
      have hk : k = n := by omega
      subst hk
      obtain ⟨g, rfl⟩ : ∃ g, f = g + 1 := ⟨f - 1, by omega⟩
      rw [he g (by omega), if_pos ha]
    | succ q ih =>
      intro k hk ha f hf
      obtain ⟨g, rfl⟩ : ∃ g, f = g + 1 := ⟨f - 1, by omega⟩
      rw [hs k (by omega) g (by omega)]
      by_cases hc : ok k = true
      · rw [if_pos hc]
        exact ih (k + 1) (by omega) (by unfold z_all; rw [ha, hc]; rfl) g (by omega)
      · rw [if_neg hc, if_neg]
        rw [z_all_iff]
        exact fun h => hc (h k (by omega))
  intro f hf
  exact key n 0 (by omega) rfl f (by omega)
/-- as z_loop, from a state that is that of round 0 -/
theorem z_lp {L0 : List Value} {H0 : A_H} (st : Nat → List Value) (hp : Nat → A_H) (n F : Nat) {r : A_R} (hL : L0 = st 0) (hH : H0 = hp 0)
    (hs : ∀ k, k < n → ∀ f, F ≤ f → go (f + 1) t (st k) (hp k) = go f t (st (k + 1)) (hp (k + 1))) (he : ∀ f, F ≤ f → go (f + 1) t (st n) (hp n) = r) : ∀ f, F + n < f → go f t L0 H0 = r := by
  subst hL; subst hH
  exact z_loop st hp n F hs he
/-- a loop by a measure that falls: Q of what comes out -/
theorem z_run {Q : A_R → Prop} (V : Nat → List Value → A_H → Prop) (F : Nat)
    (hs : ∀ k L h, V k L h → ∀ f, F ≤ f → Q (go (f + 1) t L h) ∨ ∃ k2 L2 h2, k2 < k ∧ V k2 L2 h2 ∧ go (f + 1) t L h = go f t L2 h2) : ∀ k L h, V k L h → ∀ f, F + k < f → Q (go f t L h) := by
  intro k
  induction k using Nat.strongRecOn with
  | _ k ih =>
    intro L h hv f hf
    obtain ⟨g, rfl⟩ : ∃ g, f = g + 1 := ⟨f - 1, by omega⟩
    rcases hs k L h hv g (by omega) with h1 | ⟨k2, L2, h2, h3, h4, h5⟩
    · exact h1
    · rw [h5]
      exact ih k2 h3 L2 h2 h4 g (by omega)
/-- a loop within a loop: so many rounds, so much fuel -/
theorem z_inner (st : Nat → List Value) (hp : Nat → A_H) (n : Nat) (hs : ∀ k, k < n → ∀ f, go (f + 1) t (st k) (hp k) = go f t (st (k + 1)) (hp (k + 1))) : ∀ f, go (f + n) t (st 0) (hp 0) = go f t (st n) (hp n) := by
  have key : ∀ q, q ≤ n → ∀ f, go (f + q) t (st 0) (hp 0) = go f t (st q) (hp q) := by
    intro q
    induction q with
    | zero => intro _ f; rfl
    | succ q ih =>
      intro hq f
      rw [show f + (q + 1) = (f + 1) + q by omega, ih (by omega) (f + 1), hs q (by omega) f]
  exact key n (Nat.le_refl _)
/-- a loop by a measure, with so much fuel for a round -/
theorem z_runC {Q : A_R → Prop} (V : Nat → List Value → A_H → Prop) (c F : Nat)
    (hs : ∀ k L h, V k L h → ∀ f, F ≤ f → Q (go (f + 1) t L h) ∨ ∃ k2 L2 h2 g, k2 < k ∧ V k2 L2 h2 ∧ f ≤ g + c ∧ go (f + 1) t L h = go g t L2 h2) : ∀ k L h, V k L h → ∀ f, F + (c + 1) * k < f → Q (go f t L h) := by
  intro k
  induction k using Nat.strongRecOn with
  | _ k ih =>
    intro L h hv f hf
    obtain ⟨f, rfl⟩ : ∃ g, f = g + 1 := ⟨f - 1, by omega⟩
    rcases hs k L h hv f (by have := Nat.zero_le ((c + 1) * k); omega) with h1 | ⟨k2, L2, h2, g, h3, h4, h5, h6⟩
    · exact h1
    · rw [h6]
      refine ih k2 h3 L2 h2 h4 g ?_
      have h7 : (c + 1) * (k2 + 1) ≤ (c + 1) * k := Nat.mul_le_mul_left _ h3
      rw [Nat.mul_add] at h7
      omega
end LP
/-! numbers of the machine once more -/
theorem b_bit {S i : Nat} (hs : S < 2147483648) (hi : i < 32) : ((nI S >>> (nI i &&& 31)) &&& nI 1 = 0) = (S.testBit i = false) := by
  rw [z_bit hs hi]
  rw [Nat.testBit_eq_decide_div_mod_eq, b_eq0 (by have := Nat.mod_lt (S / 2 ^ i) (show 0 < 2 by decide); omega)]
  refine propext ?_
  have := Nat.mod_lt (S / 2 ^ i) (show 0 < 2 by decide)
  simp only [decide_eq_false_iff_not]
  omega
theorem b_bit1 {S i : Nat} (hs : S < 2147483648) (hi : i < 32) : ((nI S >>> (nI i &&& 31)) &&& nI 1 = nI 1) = (S.testBit i = true) := by
  rw [z_bit hs hi]
  rw [Nat.testBit_eq_decide_div_mod_eq, b_eq (by have := Nat.mod_lt (S / 2 ^ i) (show 0 < 2 by decide); omega) (by decide)]
  refine propext ?_
  simp only [decide_eq_true_eq]
theorem b_shl {n : Nat} (h : n < 31) : nI 1 <<< (nI n &&& 31) = nI (2 ^ n) := z_shl1 h
theorem b_or (a b : Nat) : nI a ||| nI b = nI (a ||| b) := z_orN a b
theorem b_and (a b : Nat) : nI a &&& nI b = nI (a &&& b) := by
  unfold nI
  apply Int32.toBitVec_inj.mp
  simp [Int32.toBitVec_ofNat', BitVec.ofNat_and]
theorem b_xor (a b : Nat) : nI a ^^^ nI b = nI (a ^^^ b) := by
  unfold nI
  apply Int32.toBitVec_inj.mp
  simp [Int32.toBitVec_ofNat', BitVec.ofNat_xor]
/-- an Int32 is a number's -/
def b_n (x : Int32) : Nat := x.toBitVec.toNat
theorem b_nI (x : Int32) : nI (b_n x) = x := by
  unfold nI b_n
  apply Int32.toBitVec_inj.mp
  rw [Int32.toBitVec_ofNat']
  simp
theorem b_nlt (x : Int32) : b_n x < 4294967296 := x.toBitVec.isLt
/-! switches -/
theorem b_ts0 {n : Nat} {rs : List A_R} {d : A_R} (hn : n < 2147483648) : a_ts 0 (nI n) rs d = match rs[n]? with
    | some r => r
    | none => d := by
  unfold a_ts
  rw [nI_toInt hn, if_neg (by omega), show ((n : Int) - 0).toNat = n by omega]
  cases rs[n]? <;> rfl
theorem b_tsd {n : Nat} {rs : List A_R} {d : A_R} (hl : rs.length ≤ n) (hn : n < 4294967296) : a_ts 0 (nI n) rs d = d := by
  by_cases h : n < 2147483648
  · rw [b_ts0 h, List.getElem?_eq_none hl]
  · unfold a_ts
    have := b_neg (a := n) (by omega) hn
    rw [Int32.lt_iff_toInt_lt] at this
    exact if_pos this
theorem b_tsi {rs : List A_R} {d r : A_R} (n : Nat) (hn : n < 2147483648) (hr : rs[n]? = some r) : a_ts 0 (nI n) rs d = r := by
  rw [b_ts0 hn, hr]
section TS
variable {rs : List A_R} {d r0 r1 r2 r3 r4 r5 r6 : A_R}
theorem b_t0 : a_ts 0 (nI 0) (r0 :: rs) d = r0 := b_tsi 0 (by decide) rfl
theorem b_t1 : a_ts 0 (nI 1) (r0 :: r1 :: rs) d = r1 := b_tsi 1 (by decide) rfl
theorem b_t2 : a_ts 0 (nI 2) (r0 :: r1 :: r2 :: rs) d = r2 := b_tsi 2 (by decide) rfl
theorem b_t3 : a_ts 0 (nI 3) (r0 :: r1 :: r2 :: r3 :: rs) d = r3 := b_tsi 3 (by decide) rfl
theorem b_t4 : a_ts 0 (nI 4) (r0 :: r1 :: r2 :: r3 :: r4 :: rs) d = r4 := b_tsi 4 (by decide) rfl
theorem b_t5 : a_ts 0 (nI 5) (r0 :: r1 :: r2 :: r3 :: r4 :: r5 :: rs) d = r5 := b_tsi 5 (by decide) rfl
theorem b_t6 : a_ts 0 (nI 6) (r0 :: r1 :: r2 :: r3 :: r4 :: r5 :: r6 :: rs) d = r6 := b_tsi 6 (by decide) rfl
end TS
theorem b_bitv {S i : Nat} (hs : S < 2147483648) (hi : i < 32) : (nI S >>> (nI i &&& 31)) &&& nI 1 = nI (b_b (S.testBit i)) := by
  by_cases h : S.testBit i = true
  · rw [show ((nI S >>> (nI i &&& 31)) &&& nI 1 = nI 1) from (b_bit1 hs hi).symm ▸ h, h]; rfl
  · have h2 := Bool.eq_false_iff.mpr h
    rw [z_bit hs hi, h2]
    rw [Nat.testBit_eq_decide_div_mod_eq] at h2
    have h3 := of_decide_eq_false h2
    have h4 := Nat.mod_lt (S / 2 ^ i) (show 0 < 2 by decide)
    rw [show S / 2 ^ i % 2 = 0 by omega]
    rfl
