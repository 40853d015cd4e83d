/-! TEXTS: tokens, pure; b: the bytes, n: how many, q: the most -/
def z_sm (c : Nat) : Bool := decide (97 ≤ c ∧ c ≤ 122)
def z_dg (c : Nat) : Bool := decide (48 ≤ c ∧ c ≤ 57)
def z_bl (c : Nat) : Bool := decide (c = 32 ∨ c = 10)
def z_sg (c : Nat) : Bool := decide (c = 59 ∨ c = 60 ∨ c = 61 ∨ c = 62 ∨ c = 40 ∨ c = 41)
def z_ld (c : Nat) : Bool := z_sm c || z_dg c
/-- behind the blanks -/
def w_sk (b : Nat → Nat) (u p : Nat) : Nat := z_fst (fun i => !(z_bl (b i))) (u - p) p
/-- behind the letters and digits -/
def w_re (b : Nat → Nat) (n i : Nat) : Nat := z_fst (fun i => !(z_ld (b i))) (n - i) i
def w_ns (b : Nat → Nat) (i : Nat) : Nat → Nat := z_sum (fun x => b_b (z_sm (b (i + x))))
def w_nd2 (b : Nat → Nat) (i : Nat) : Nat → Nat := z_sum (fun x => b_b (z_dg (b (i + x))))
def w_lg (b : Nat → Nat) (i : Nat) : Nat → Nat
  | 0 => 0
  | k + 1 => if z_sm (b (i + k)) = true then w_lg b i k * 32 + (b (i + k) - 96) else w_lg b i k
def w_vg (b : Nat → Nat) (i : Nat) : Nat → Nat
  | 0 => 0
  | k + 1 => if z_dg (b (i + k)) = true then w_vg b i k * 10 + (b (i + k) - 48) else w_vg b i k
/-- what a run is: 1 a word, 2 a number, 0 none -/
def w_rk (b : Nat → Nat) (i e : Nat) : Nat := if w_nd2 b i (e - i) = 0 ∧ w_ns b i (e - i) ≤ 7 then 1 else if w_ns b i (e - i) = 0 ∧ w_nd2 b i (e - i) ≤ 3 then 2 else 0
def w_kn (b : Nat → Nat) (n i : Nat) : Nat := if w_re b n i = i then (if z_sg (b i) = true then b i else 0) else w_rk b i (w_re b n i)
/-- the token that is read from p on: where it begins, what it is (3 the end, 4 cut off), where one goes on, its letters, its value, which word of the language it is -/
def w_pb2 (b : Nat → Nat) (n q p : Nat) : Nat := w_sk b (min n q) p
def w_pl (b : Nat → Nat) (n q p : Nat) : Nat := if w_pb2 b n q p < min n q then w_pb2 b n q p else min n q
def w_kd (b : Nat → Nat) (n q p : Nat) : Nat := if w_pb2 b n q p < min n q then w_kn b n (w_pb2 b n q p) else if n ≤ q then 3 else 4
def w_nx (b : Nat → Nat) (n q p : Nat) : Nat := if w_pb2 b n q p < min n q then (if w_re b n (w_pb2 b n q p) = w_pb2 b n q p then w_pb2 b n q p + 1 else w_re b n (w_pb2 b n q p)) else p
def w_le (b : Nat → Nat) (n q p : Nat) : Nat := w_lg b (w_pb2 b n q p) (w_re b n (w_pb2 b n q p) - w_pb2 b n q p)
def w_va (b : Nat → Nat) (n q p : Nat) : Nat := w_vg b (w_pb2 b n q p) (w_re b n (w_pb2 b n q p) - w_pb2 b n q p)
def w_kyn (L : Nat) : Nat → Nat
  | 0 => 4294967295
  | k + 1 => if w_wl k = L then k else w_kyn L k
def w_ky (b : Nat → Nat) (n q p : Nat) : Nat := if w_kd b n q p = 1 then w_kyn (w_le b n q p) 19 else 4294967295
theorem w_kyn_lt {L : Nat} : ∀ n, w_kyn L n = 4294967295 ∨ (w_kyn L n < n ∧ w_wl (w_kyn L n) = L)
  | 0 => Or.inl rfl
  | n + 1 => by
    unfold w_kyn
    split
    · rename_i h
      exact Or.inr ⟨by omega, h⟩
    · rcases w_kyn_lt (L := L) n with h | h
      · exact Or.inl h
      · exact Or.inr ⟨by omega, h.2⟩
theorem w_sk_le {b : Nat → Nat} {u p : Nat} : p ≤ w_sk b u p ∧ (p ≤ u → w_sk b u p ≤ u) ∧ (∀ i, p ≤ i → i < w_sk b u p → z_bl (b i) = true) ∧ (w_sk b u p < u → z_bl (b (w_sk b u p)) = false) := by
  obtain ⟨h1, h2, h3, h4⟩ := z_fst_spec (fun i => !(z_bl (b i))) (u - p) p
  refine ⟨h1, fun h => ?_, fun i g1 g2 => ?_, fun h => ?_⟩
  · show z_fst (fun i => !(z_bl (b i))) (u - p) p ≤ u
    omega
  · have h5 : (!(z_bl (b i))) = false := h3 i g1 g2
    cases c : z_bl (b i) with
    | true => rfl
    | false => rw [c] at h5; exact absurd h5 (by decide)
  · have h : z_fst (fun i => !(z_bl (b i))) (u - p) p < u := h
    have h5 : (!(z_bl (b (w_sk b u p)))) = true := h4 (by omega)
    cases c : z_bl (b (w_sk b u p)) with
    | false => rfl
    | true => rw [c] at h5; exact absurd h5 (by decide)
theorem w_re_le {b : Nat → Nat} {n i : Nat} : i ≤ w_re b n i ∧ (i ≤ n → w_re b n i ≤ n) ∧ (∀ x, i ≤ x → x < w_re b n i → z_ld (b x) = true) ∧ (w_re b n i < n → z_ld (b (w_re b n i)) = false) := by
  obtain ⟨h1, h2, h3, h4⟩ := z_fst_spec (fun i => !(z_ld (b i))) (n - i) i
  refine ⟨h1, fun h => ?_, fun x g1 g2 => ?_, fun h => ?_⟩
  · show z_fst (fun i => !(z_ld (b i))) (n - i) i ≤ n
    omega
  · have h5 : (!(z_ld (b x))) = false := h3 x g1 g2
    cases c : z_ld (b x) with
    | true => rfl
    | false => rw [c] at h5; exact absurd h5 (by decide)
  · have h : z_fst (fun i => !(z_ld (b i))) (n - i) i < n := h
    have h5 : (!(z_ld (b (w_re b n i)))) = true := h4 (by omega)
    cases c : z_ld (b (w_re b n i)) with
    | false => rfl
    | true => rw [c] at h5; exact absurd h5 (by decide)
/-- by what a run's end is known -/
theorem w_re_eq {b : Nat → Nat} {n i e : Nat} (h1 : i ≤ e) (h2 : e ≤ n) (h3 : ∀ x, i ≤ x → x < e → z_ld (b x) = true) (h4 : e < n → z_ld (b e) = false) : w_re b n i = e := by
  obtain ⟨g1, g2, g3, g4⟩ := w_re_le (b := b) (n := n) (i := i)
  have g2 := g2 (by omega)
  refine Nat.le_antisymm (Nat.le_of_not_lt fun c => ?_) (Nat.le_of_not_lt fun c => ?_)
  · have := g3 e h1 c
    rw [h4 (by omega)] at this
    exact absurd this (by decide)
  · have := h3 _ g1 c
    rw [g4 (by omega)] at this
    exact absurd this (by decide)
theorem w_sk_eq {b : Nat → Nat} {u p i : Nat} (h1 : p ≤ i) (h2 : i ≤ u) (h3 : ∀ x, p ≤ x → x < i → z_bl (b x) = true) (h4 : i < u → z_bl (b i) = false) : w_sk b u p = i := by
  obtain ⟨g1, g2, g3, g4⟩ := w_sk_le (b := b) (u := u) (p := p)
  have g2 := g2 (by omega)
  refine Nat.le_antisymm (Nat.le_of_not_lt fun c => ?_) (Nat.le_of_not_lt fun c => ?_)
  · have := g3 i h1 c
    rw [h4 (by omega)] at this
    exact absurd this (by decide)
  · have := h3 _ g1 c
    rw [g4 (by omega)] at this
    exact absurd this (by decide)
theorem w_sk_hi {b : Nat → Nat} {u p : Nat} (h : u ≤ p) : w_sk b u p = p := by
  unfold w_sk
  rw [show u - p = 0 by omega]
  rfl
theorem w_ns_le {b : Nat → Nat} {i : Nat} : ∀ k, w_ns b i k ≤ k := fun k => by
  have := z_sum_le (g := fun x => b_b (z_sm (b (i + x)))) (b := 1) k (fun x _ => by have := b_b_lt (z_sm (b (i + x))); omega)
  unfold w_ns
  omega
theorem w_nd2_le {b : Nat → Nat} {i : Nat} : ∀ k, w_nd2 b i k ≤ k := fun k => by
  have := z_sum_le (g := fun x => b_b (z_dg (b (i + x)))) (b := 1) k (fun x _ => by have := b_b_lt (z_dg (b (i + x))); omega)
  unfold w_nd2
  omega
theorem w_ns_1 {b : Nat → Nat} {i k : Nat} : w_ns b i (k + 1) = w_ns b i k + b_b (z_sm (b (i + k))) := rfl
theorem w_nd2_1 {b : Nat → Nat} {i k : Nat} : w_nd2 b i (k + 1) = w_nd2 b i k + b_b (z_dg (b (i + k))) := rfl
theorem w_lg_1 {b : Nat → Nat} {i k : Nat} : w_lg b i (k + 1) = if z_sm (b (i + k)) = true then w_lg b i k * 32 + (b (i + k) - 96) else w_lg b i k := rfl
theorem w_vg_1 {b : Nat → Nat} {i k : Nat} : w_vg b i (k + 1) = if z_dg (b (i + k)) = true then w_vg b i k * 10 + (b (i + k) - 48) else w_vg b i k := rfl
theorem z_smdg {c : Nat} (h : z_sm c = true) : z_dg c = false := by
  unfold z_sm at h
  unfold z_dg
  rw [decide_eq_true_eq] at h
  exact decide_eq_false (by omega)
theorem w_sum_ld {b : Nat → Nat} {i : Nat} : ∀ k, (∀ x, x < k → z_ld (b (i + x)) = true) → w_ns b i k + w_nd2 b i k = k
  | 0, _ => rfl
  | k + 1, h => by
    have ih := w_sum_ld k (fun x hx => h x (by omega))
    have h1 := h k (by omega)
    rw [w_ns_1, w_nd2_1]
    unfold z_ld at h1
    rw [Bool.or_eq_true] at h1
    rcases h1 with h1 | h1
    · rw [h1, z_smdg h1, b_bt, b_bf]; omega
    · cases c : z_sm (b (i + k)) with
      | true => rw [z_smdg c] at h1; exact absurd h1 (by decide)
      | false => rw [h1, b_bt, b_bf]; omega
theorem w_lg_lt {b : Nat → Nat} {i : Nat} (hb : ∀ x, b x < 256) : ∀ k, w_lg b i k < 32 ^ k
  | 0 => by show (0 : Nat) < 1; decide
  | k + 1 => by
    have ih := w_lg_lt (i := i) hb k
    rw [w_lg_1, Nat.pow_succ]
    split
    · rename_i h
      unfold z_sm at h
      rw [decide_eq_true_eq] at h
      omega
    · omega
theorem w_vg_lt {b : Nat → Nat} {i : Nat} (hb : ∀ x, b x < 256) : ∀ k, w_vg b i k < 10 ^ k
  | 0 => by show (0 : Nat) < 1; decide
  | k + 1 => by
    have ih := w_vg_lt (i := i) hb k
    rw [w_vg_1, Nat.pow_succ]
    split
    · rename_i h
      unfold z_dg at h
      rw [decide_eq_true_eq] at h
      omega
    · omega
/-- the letters as bytes -/
theorem w_conv_0 : w_conv 0 = 0 := by unfold w_conv; rfl
theorem w_conv_s {L d : Nat} (h1 : 1 ≤ d) (h2 : d < 32) : w_conv (L * 32 + d) = w_conv L * 256 + (d + 96) := by
  have e1 : (L * 32 + d) / 32 = L := by omega
  have e2 : (L * 32 + d) % 32 = d := by omega
  have h : w_conv (L * 32 + d) = if h : L * 32 + d = 0 then 0 else w_conv ((L * 32 + d) / 32) * 256 + ((L * 32 + d) % 32 + 96) := by rw [w_conv]
  rw [h, dif_neg (by omega), e1, e2]
theorem w_conv_inj : ∀ a b, w_conv a = w_conv b → a = b := fun a => by
  induction a using Nat.strongRecOn with
  | _ a ih =>
    intro b h
    have ha : w_conv a = if h : a = 0 then 0 else w_conv (a / 32) * 256 + (a % 32 + 96) := by rw [w_conv]
    have hb : w_conv b = if h : b = 0 then 0 else w_conv (b / 32) * 256 + (b % 32 + 96) := by rw [w_conv]
    by_cases c1 : a = 0
    · by_cases c2 : b = 0
      · omega
      · rw [dif_pos c1] at ha; rw [dif_neg c2] at hb; omega
    · by_cases c2 : b = 0
      · rw [dif_neg c1] at ha; rw [dif_pos c2] at hb; omega
      · rw [dif_neg c1] at ha; rw [dif_neg c2] at hb
        have h3 : a % 32 = b % 32 := by omega
        have h4 : w_conv (a / 32) = w_conv (b / 32) := by omega
        have h5 := ih (a / 32) (by omega) (b / 32) h4
        omega
/-! numbers of 64 bits -/
theorem b_lcmp {a b : Nat} (ha : a < 9223372036854775808) (hb : b < 9223372036854775808) : (lg_cmp (lN a) (lN b) = 0) = (a = b) := propext ((lg_cmp_eq _ _).trans (pk_lEQ ha hb))
theorem b_lsh8 (a : Nat) : lN a <<< ((nI 8).toInt64 &&& 63) = lN (a * 256) := by
  have e1 : ((nI 8).toInt64 &&& 63) = 8 := by decide +kernel
  rw [e1]
  apply Int64.toBitVec_inj.mp
  rw [Int64.toBitVec_shiftLeft]
  have e2 : (8 : Int64).toBitVec.smod 64 = BitVec.ofNat 64 8 := by decide +kernel
  rw [e2]
  have t : ∀ x, (lN x).toBitVec = BitVec.ofNat 64 x := fun _ => rfl
  rw [t, t]
  apply BitVec.eq_of_toNat_eq
  have e3 : (8 : Nat) % 2 ^ 64 = 8 := by omega
  rw [BitVec.shiftLeft_eq', BitVec.toNat_shiftLeft, BitVec.toNat_ofNat, BitVec.toNat_ofNat, BitVec.toNat_ofNat, e3, Nat.shiftLeft_eq, Nat.mul_mod, Nat.mod_mod, ← Nat.mul_mod]
theorem b_lshor {a c : Nat} (hc : c < 256) : (lN a <<< ((nI 8).toInt64 &&& 63)) ||| lN c = lN (a * 256 + c) := by
  rw [b_lsh8]
  apply Int64.toBitVec_inj.mp
  rw [Int64.toBitVec_or]
  have t : ∀ x, (lN x).toBitVec = BitVec.ofNat 64 x := fun _ => rfl
  rw [t, t, t, ← BitVec.ofNat_or]
  have h1 : a * 256 ||| c = a * 256 + c := by
    have := Nat.shiftLeft_add_eq_or_of_lt (a := a) (b := c) (i := 8) (by omega)
    rw [Nat.shiftLeft_eq] at this
    exact this.symm
  rw [h1]
