/-! ORDERS: numbers that may be below 0; what endings close in all -/
def w_lf (A C : Nat) : Nat := if C ≤ A then A - C else A + 4294967296 - C
theorem w_lf0 {A : Nat} : w_lf A 0 = A := if_pos (Nat.zero_le _)
theorem w_lf_lt {A C : Nat} (hA : A < 1000000) (hC : C < 1000000) : w_lf A C < 4294967296 := by
  unfold w_lf
  split <;> omega
theorem nI_wrap {a : Nat} : nI (a + 4294967296) = nI a := by
  unfold nI
  apply Int32.toBitVec_inj.mp
  apply BitVec.eq_of_toNat_eq
  rw [Int32.toBitVec_ofNat', Int32.toBitVec_ofNat', BitVec.toNat_ofNat, BitVec.toNat_ofNat]
  omega
theorem b_lfa {A C c : Nat} (hA : A < 1000000) (hC : C < 1000000) (hc : c < 1000000) : nI (w_lf A (C + c)) + nI c = nI (w_lf A C) := by
  rw [nI_add]
  unfold w_lf
  by_cases c1 : C + c ≤ A
  · rw [if_pos c1, if_pos (by omega)]
    congr 1
    omega
  · rw [if_neg c1]
    by_cases c2 : C ≤ A
    · rw [if_pos c2, show A + 4294967296 - (C + c) + c = (A - C) + 4294967296 by omega, nI_wrap]
    · rw [if_neg c2]
      congr 1
      omega
theorem b_lfs {A C c : Nat} (hA : A < 1000000) (hC : C < 1000000) (hc : c < 1000000) : nI (w_lf A C) - nI c = nI (w_lf A (C + c)) := by
  unfold w_lf
  by_cases c2 : C ≤ A
  · rw [if_pos c2]
    by_cases c1 : C + c ≤ A
    · rw [if_pos c1, b_sub (by omega)]
      congr 1
      omega
    · rw [if_neg c1, b_subn (by omega) (by omega)]
      congr 1
      omega
  · rw [if_neg c2, if_neg (by omega), b_sub (by omega)]
    congr 1
    omega
theorem b_lfle {A C S : Nat} (hA : A < 1000000) (hC : C < 1000000) (hS : S < 1000000) : (nI (w_lf A C) ≤ nI S) = (A ≤ C + S) := by
  unfold w_lf
  by_cases c : C ≤ A
  · rw [if_pos c, b_le (by omega) (by omega)]
    exact propext ⟨fun h => by omega, fun h => by omega⟩
  · rw [if_neg c, b_lem (by omega) (by omega) (by omega)]
    exact propext ⟨fun _ => by omega, fun _ => trivial⟩
theorem b_lflt {A C S : Nat} (hA : A < 1000000) (hC : C < 1000000) (hS : S < 1000000) : (nI S < nI (w_lf A C)) = (C + S < A) := by
  unfold w_lf
  by_cases c : C ≤ A
  · rw [if_pos c, b_lt (by omega) (by omega)]
    exact propext ⟨fun h => by omega, fun h => by omega⟩
  · rw [if_neg c, b_ltm (by omega) (by omega) (by omega)]
    exact propext ⟨fun h => h.elim, fun h => by omega⟩
theorem b_lfle0 {A C : Nat} (hA : A < 1000000) (hC : C < 1000000) : (nI (w_lf A C) ≤ 0) = (A ≤ C) := by
  have h : (0 : Int32) = nI 0 := rfl
  rw [h, b_lfle hA hC (by decide)]
  rfl
theorem b_0ltlf {A C : Nat} (hA : A < 1000000) (hC : C < 1000000) : (0 < nI (w_lf A C)) = (C < A) := by
  have h : (0 : Int32) = nI 0 := rfl
  rw [h, b_lflt hA hC (by decide)]
  rfl
/-- what some endings close of a kind -/
def w_csn (s : Nat → Nat) (S k : Nat) : Nat → Nat := z_sum (fun e => if S.testBit e = true then s (87 + 6 * e + k) else 0)
def w_cs (s : Nat → Nat) (S k : Nat) : Nat := w_csn s S k (s 3)
theorem w_csn_1 {s : Nat → Nat} {S k e : Nat} : w_csn s S k (e + 1) = w_csn s S k e + (if S.testBit e = true then s (87 + 6 * e + k) else 0) := rfl
theorem w_csn_le {s : Nat → Nat} (hS : i_S s) {S k n : Nat} (hn : n ≤ 10) (hk : k < 6) : w_csn s S k n ≤ 90 := by
  have := z_sum_le (g := fun e => if S.testBit e = true then s (87 + 6 * e + k) else 0) (b := 9) n (fun e he => by
    have := i_S_cl hS e (by omega) k hk
    show (if S.testBit e = true then s (87 + 6 * e + k) else 0) ≤ 9
    split <;> omega)
  unfold w_csn
  omega
theorem w_cs_le {s : Nat → Nat} (hS : i_S s) {S k : Nat} (hk : k < 6) : w_cs s S k ≤ 90 := w_csn_le hS (i_S_E hS) hk
theorem w_cs_mono {s : Nat → Nat} {S T k : Nat} (hE : s 3 ≤ 10) (h : ∀ i, i < 10 → T.testBit i = true → S.testBit i = true) : w_cs s T k ≤ w_cs s S k := by
  refine z_sum_mono (s 3) fun e he => ?_
  show (if T.testBit e = true then s (87 + 6 * e + k) else 0) ≤ (if S.testBit e = true then s (87 + 6 * e + k) else 0)
  by_cases c : T.testBit e = true
  · rw [if_pos c, if_pos (h e (by omega) c)]; exact Nat.le_refl _
  · rw [if_neg c]; exact Nat.zero_le _
theorem w_cs_congr {s : Nat → Nat} {S T k : Nat} (h : ∀ i, i < s 3 → T.testBit i = S.testBit i) : w_cs s T k = w_cs s S k := by
  refine z_sum_congr (s 3) fun e he => ?_
  rw [h e he]
theorem z_sum_add {f g : Nat → Nat} : ∀ n, z_sum (fun k => f k + g k) n = z_sum f n + z_sum g n
  | 0 => rfl
  | n + 1 => by
    have h1 : z_sum (fun k => f k + g k) (n + 1) = z_sum (fun k => f k + g k) n + (f n + g n) := rfl
    have h2 : z_sum f (n + 1) = z_sum f n + f n := rfl
    have h3 : z_sum g (n + 1) = z_sum g n + g n := rfl
    rw [h1, h2, h3, z_sum_add n]
    omega
def w_dj (P S : Nat) : Prop := ∀ i, i < 10 → P.testBit i = true → S.testBit i = false
theorem w_cs_or {s : Nat → Nat} {P S k : Nat} (hE : s 3 ≤ 10) (h : w_dj P S) : w_cs s (P ||| S) k = w_cs s P k + w_cs s S k := by
  unfold w_cs w_csn
  rw [← z_sum_add]
  refine z_sum_congr (s 3) fun e he => ?_
  rw [Nat.testBit_or]
  cases hp : P.testBit e with
  | true => rw [h e (by omega) hp]; rfl
  | false =>
    cases S.testBit e with
    | true => exact (Nat.zero_add _).symm
    | false => rfl
theorem w_cs_one {s : Nat → Nat} {e k : Nat} (he : e < s 3) : w_cs s (2 ^ e) k = s (87 + 6 * e + k) := by
  have h1 : ∀ n, w_csn s (2 ^ e) k n = if e < n then s (87 + 6 * e + k) else 0 := fun n => by
    induction n with
    | zero => rfl
    | succ n ih =>
      rw [w_csn_1, ih, Nat.testBit_two_pow]
      by_cases c : e = n
      · rw [c, if_neg (Nat.lt_irrefl n), if_pos (decide_eq_true rfl), if_pos (by omega), Nat.zero_add]
      · rw [if_neg (c := decide (e = n) = true) (by rw [decide_eq_true_eq]; exact c), Nat.add_zero]
        by_cases c2 : e < n
        · rw [if_pos c2, if_pos (by omega)]
        · rw [if_neg c2, if_neg (by omega)]
  unfold w_cs
  rw [h1, if_pos he]
theorem w_rm_ins {S e : Nat} (hS : S < 1024) (he : S.testBit e = true) : w_rm S e ||| 2 ^ e = S := by
  have he10 := z_bt10 hS he
  refine z_ext10 (w_or_lt (Nat.lt_of_le_of_lt w_rm_le hS) he10) hS fun i hi => ?_
  rw [w_or_bt, w_rm_bt (by omega)]
  by_cases c : i = e
  · rw [c, he, decide_eq_true rfl]; rfl
  · rw [decide_eq_false c, decide_eq_false (fun g => c g.symm), Bool.not_false, Bool.and_true, Bool.or_false]
theorem w_dj_rm {S e : Nat} : w_dj (w_rm S e) (2 ^ e) := fun i hi h => by
  rw [w_rm_bt (by omega), Bool.and_eq_true, Bool.not_eq_true', decide_eq_false_iff_not] at h
  rw [Nat.testBit_two_pow, decide_eq_false (fun g => h.2 g.symm)]
theorem w_cs_rm {s : Nat → Nat} {S e k : Nat} (hE : s 3 ≤ 10) (hS : S < 1024) (he : S.testBit e = true) (hs : e < s 3) : w_cs s S k = w_cs s (w_rm S e) k + s (87 + 6 * e + k) := by
  have h1 := w_cs_or (s := s) (k := k) hE (w_dj_rm (S := S) (e := e))
  rw [w_rm_ins hS he, w_cs_one hs] at h1
  exact h1
theorem w_cs_0 {s : Nat → Nat} {k : Nat} : w_cs s 0 k = 0 := by
  unfold w_cs w_csn
  rw [z_sum_zero]
  intro e _
  rw [Nat.zero_testBit, if_neg (by decide)]
/-- whether an ending fits behind others, in a row of what is open -/
def w_fbh (s : Nat → Nat) (r e T : Nat) : Bool := z_all (fun k => decide (s (87 + 6 * e + k) = 0 ∨ w_cs s T k < s (r + k))) 6 && z_any (fun k => decide (s (87 + 6 * e + k) ≠ 0)) 6
theorem w_fbh_anti {s : Nat → Nat} {r : Nat} (hE : s 3 ≤ 10) : w_anti (w_fbh s r) := fun e S T _ _ h hf => by
  unfold w_fbh at hf ⊢
  rw [Bool.and_eq_true] at hf ⊢
  refine ⟨?_, hf.2⟩
  rw [z_all_iff] at hf ⊢
  intro k hk
  have h1 := of_decide_eq_true (hf.1 k hk)
  have h2 := w_cs_mono (s := s) (k := k) hE h
  exact decide_eq_true (by omega)
theorem w_fbh_row {s : Nat → Nat} {r e : Nat} : w_fbh s r e 0 = w_fitsRow s e r := by
  unfold w_fbh w_fitsRow
  congr 1
  refine z_all_congr fun k _ => ?_
  rw [w_cs_0, decide_eq_decide]
  omega
