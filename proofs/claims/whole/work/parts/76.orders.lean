/-! ORDERS, pure: in which order endings can come -/
def w_rm (S e : Nat) : Nat := S &&& (2 ^ e ^^^ 4294967295)
theorem w_rm_bt {S e i : Nat} (hi : i < 32) : (w_rm S e).testBit i = (S.testBit i && !(decide (i = e))) := by
  unfold w_rm
  rw [Nat.testBit_and, Nat.testBit_xor, z_tbF i hi, Bool.xor_true, Nat.testBit_two_pow]
  congr 2
  rw [decide_eq_decide]
  exact ⟨fun h => h.symm, fun h => h.symm⟩
theorem w_rm_le {S e : Nat} : w_rm S e ≤ S := Nat.and_le_left
theorem z_ext10 {a b : Nat} (ha : a < 1024) (hb : b < 1024) (h : ∀ i, i < 10 → a.testBit i = b.testBit i) : a = b := by
  refine Nat.eq_of_testBit_eq fun i => ?_
  by_cases c : i < 10
  · exact h i c
  · have h1 : (1024 : Nat) ≤ 2 ^ i := Nat.pow_le_pow_right (n := 2) (i := 10) (by decide) (by omega)
    rw [Nat.testBit_lt_two_pow (Nat.lt_of_lt_of_le ha h1), Nat.testBit_lt_two_pow (Nat.lt_of_lt_of_le hb h1)]
theorem z_bt10 {a i : Nat} (ha : a < 1024) (h : a.testBit i = true) : i < 10 := by
  refine Nat.lt_of_not_le fun c => ?_
  rw [Nat.testBit_lt_two_pow (Nat.lt_of_lt_of_le ha (Nat.pow_le_pow_right (n := 2) (i := 10) (by decide) c))] at h
  exact absurd h (by decide)
theorem z_btE {a i n : Nat} (ha : a < 2 ^ n) (h : a.testBit i = true) : i < n := by
  refine Nat.lt_of_not_le fun c => ?_
  rw [Nat.testBit_lt_two_pow (Nat.lt_of_lt_of_le ha (Nat.pow_le_pow_right (n := 2) (by decide) c))] at h
  exact absurd h (by decide)
theorem w_or_bt {S e i : Nat} : (S ||| 2 ^ e).testBit i = (S.testBit i || decide (e = i)) := z_or_bt
theorem w_or_lt {S e : Nat} (hS : S < 1024) (he : e < 10) : S ||| 2 ^ e < 1024 := Nat.or_lt_two_pow (n := 10) hS (Nat.pow_lt_pow_right (by decide) he)
theorem w_pc_rm {S e : Nat} (hS : S < 1024) (h : S.testBit e = true) : w_pc (w_rm S e) + 1 = w_pc S := by
  have he := z_bt10 hS h
  have h1 : w_rm S e < 1024 := Nat.lt_of_le_of_lt w_rm_le hS
  have h2 : w_rm S e ||| 2 ^ e = S := z_ext10 (w_or_lt h1 he) hS fun i hi => by
    rw [w_or_bt, w_rm_bt (by omega)]
    by_cases c : i = e
    · rw [c, h, decide_eq_true rfl]; rfl
    · rw [decide_eq_false c, decide_eq_false (fun g => c g.symm), Bool.not_false, Bool.and_true, Bool.or_false]
  have h3 := w_pc_or e he (w_rm S e) h1 (by rw [w_rm_bt (by omega), decide_eq_true rfl, Bool.not_true, Bool.and_false])
  rw [h2] at h3
  exact h3.symm
/-- can come in some order: fb says of an ending and those ahead of it whether it fits then -/
def w_co (fb : Nat → Nat → Bool) : Nat → Nat → Bool
  | 0, S => decide (S = 0)
  | n + 1, S => decide (S = 0) || z_any (fun e => S.testBit e && fb e (w_rm S e) && w_co fb n (w_rm S e)) 10
def w_cn (fb : Nat → Nat → Bool) (S : Nat) : Bool := w_co fb 10 S
theorem w_co_step {fb : Nat → Nat → Bool} : ∀ n S, S < 1024 → w_pc S ≤ n → w_co fb (n + 1) S = w_co fb n S
  | 0, S, hS, hp => by
    have h1 : S = 0 := w_pc_0 S hS (by omega)
    rw [h1]
    rfl
  | n + 1, S, hS, hp => by
    show (decide (S = 0) || z_any (fun e => S.testBit e && fb e (w_rm S e) && w_co fb (n + 1) (w_rm S e)) 10) = (decide (S = 0) || z_any (fun e => S.testBit e && fb e (w_rm S e) && w_co fb n (w_rm S e)) 10)
    congr 1
    refine z_any_congr fun e he => ?_
    cases hb : S.testBit e with
    | false => rfl
    | true =>
      have h2 := w_pc_rm hS hb
      rw [w_co_step n (w_rm S e) (Nat.lt_of_le_of_lt w_rm_le hS) (by omega)]
theorem w_cn_eq {fb : Nat → Nat → Bool} {S : Nat} (hS : S < 1024) : w_cn fb S = (decide (S = 0) || z_any (fun e => S.testBit e && fb e (w_rm S e) && w_cn fb (w_rm S e)) 10) := by
  have h1 := w_co_step (fb := fb) 10 S hS (w_pc_le S)
  exact h1.symm
theorem w_cn_0 {fb : Nat → Nat → Bool} : w_cn fb 0 = true := rfl
/-- a last one -/
theorem w_cn_last {fb : Nat → Nat → Bool} {S : Nat} (hS : S < 1024) (h0 : S ≠ 0) : w_cn fb S = true ↔ ∃ e, e < 10 ∧ S.testBit e = true ∧ fb e (w_rm S e) = true ∧ w_cn fb (w_rm S e) = true := by
  rw [w_cn_eq hS, decide_eq_false h0, Bool.false_or, z_any_iff]
  constructor
  · rintro ⟨e, h1, h2⟩
    have h2 : (S.testBit e && fb e (w_rm S e) && w_cn fb (w_rm S e)) = true := h2
    rw [Bool.and_eq_true, Bool.and_eq_true] at h2
    exact ⟨e, h1, h2.1.1, h2.1.2, h2.2⟩
  · rintro ⟨e, h1, h2, h3, h4⟩
    exact ⟨e, h1, by show (S.testBit e && fb e (w_rm S e) && w_cn fb (w_rm S e)) = true; rw [h2, h3, h4]; rfl⟩
/-- what fits behind some fits behind fewer -/
def w_anti (fb : Nat → Nat → Bool) : Prop := ∀ e S T, S < 1024 → T < 1024 → (∀ i, i < 10 → T.testBit i = true → S.testBit i = true) → fb e S = true → fb e T = true
theorem w_rm_comm {S a e : Nat} (hS : S < 1024) : w_rm (w_rm S a) e = w_rm (w_rm S e) a := by
  have h1 : w_rm (w_rm S a) e < 1024 := Nat.lt_of_le_of_lt w_rm_le (Nat.lt_of_le_of_lt w_rm_le hS)
  have h2 : w_rm (w_rm S e) a < 1024 := Nat.lt_of_le_of_lt w_rm_le (Nat.lt_of_le_of_lt w_rm_le hS)
  refine z_ext10 h1 h2 fun i hi => ?_
  rw [w_rm_bt (by omega), w_rm_bt (by omega), w_rm_bt (by omega), w_rm_bt (by omega), Bool.and_assoc, Bool.and_assoc, Bool.and_comm (!decide (i = a))]
/-- one may be left out -/
theorem w_cn_less {fb : Nat → Nat → Bool} (ha : w_anti fb) : ∀ n S, S < 1024 → w_pc S ≤ n → w_cn fb S = true → ∀ e, S.testBit e = true → w_cn fb (w_rm S e) = true
  | 0, S, hS, hp, _, e, he => by
    have h1 : S = 0 := w_pc_0 S hS (by omega)
    rw [h1, Nat.zero_testBit] at he
    exact absurd he (by decide)
  | n + 1, S, hS, hp, hc, e, he => by
    have h0 : S ≠ 0 := fun g => by rw [g, Nat.zero_testBit] at he; exact absurd he (by decide)
    obtain ⟨a, h1, h2, h3, h4⟩ := (w_cn_last hS h0).mp hc
    by_cases c : a = e
    · rw [← c]; exact h4
    · have hl : w_rm S a < 1024 := Nat.lt_of_le_of_lt w_rm_le hS
      have hl2 : w_rm S e < 1024 := Nat.lt_of_le_of_lt w_rm_le hS
      have he10 := z_bt10 hS he
      have hp2 := w_pc_rm hS h2
      have ih := w_cn_less ha n (w_rm S a) hl (by omega) h4 e (by rw [w_rm_bt (by omega), he, decide_eq_false (fun g => c g.symm)]; rfl)
      have hab : (w_rm S e).testBit a = true := by rw [w_rm_bt (by omega), h2, decide_eq_false c]; rfl
      have h00 : w_rm S e ≠ 0 := fun g => by rw [g, Nat.zero_testBit] at hab; exact absurd hab (by decide)
      refine (w_cn_last hl2 h00).mpr ⟨a, h1, hab, ?_, ?_⟩
      · refine ha a (w_rm S a) _ hl (Nat.lt_of_le_of_lt w_rm_le hl2) (fun i hi g => ?_) h3
        rw [w_rm_bt (by omega), w_rm_bt (by omega), Bool.and_eq_true, Bool.and_eq_true] at g
        rw [w_rm_bt (by omega), g.1.1, g.2]; rfl
      · rw [← w_rm_comm hS]; exact ih
/-- one that fits last may be taken away first -/
theorem w_cn_take {fb : Nat → Nat → Bool} (ha : w_anti fb) {S e : Nat} (hS : S < 1024) (he : S.testBit e = true) (hf : fb e (w_rm S e) = true) : w_cn fb (w_rm S e) = w_cn fb S := by
  have h0 : S ≠ 0 := fun g => by rw [g, Nat.zero_testBit] at he; exact absurd he (by decide)
  rw [Bool.eq_iff_iff]
  constructor
  · intro h
    exact (w_cn_last hS h0).mpr ⟨e, z_bt10 hS he, he, hf, h⟩
  · intro h
    exact w_cn_less ha 10 S hS (w_pc_le S) h e he
theorem w_cn_stuck {fb : Nat → Nat → Bool} {S : Nat} (hS : S < 1024) (h0 : S ≠ 0) (h : ∀ e, e < 10 → S.testBit e = true → fb e (w_rm S e) = false) : w_cn fb S = false := by
  refine Bool.eq_false_iff.mpr fun g => ?_
  obtain ⟨e, h1, h2, h3, _⟩ := (w_cn_last hS h0).mp g
  rw [h e h1 h2] at h3
  exact absurd h3 (by decide)
/-- behind some that are put already -/
def w_fp (fb : Nat → Nat → Bool) (P e S : Nat) : Bool := fb e (P ||| S)
theorem w_fp_anti {fb : Nat → Nat → Bool} (ha : w_anti fb) {P : Nat} (hP : P < 1024) : w_anti (w_fp fb P) := fun e S T hS hT h hf => by
  refine ha e (P ||| S) (P ||| T) (Nat.or_lt_two_pow (n := 10) hP hS) (Nat.or_lt_two_pow (n := 10) hP hT) (fun i hi g => ?_) hf
  rw [Nat.testBit_or, Bool.or_eq_true] at g
  rw [Nat.testBit_or, Bool.or_eq_true]
  rcases g with g | g
  · exact Or.inl g
  · exact Or.inr (h i hi g)
/-- all of them fit at once -/
theorem w_cn_each {fb : Nat → Nat → Bool} (ha : w_anti fb) : ∀ n S, S < 1024 → w_pc S ≤ n → w_cn fb S = true → ∀ e, S.testBit e = true → fb e 0 = true
  | 0, S, hS, hp, _, e, he => by
    have h1 : S = 0 := w_pc_0 S hS (by omega)
    rw [h1, Nat.zero_testBit] at he
    exact absurd he (by decide)
  | n + 1, S, hS, hp, hc, e, he => by
    have h0 : S ≠ 0 := fun g => by rw [g, Nat.zero_testBit] at he; exact absurd he (by decide)
    obtain ⟨a, h1, h2, h3, h4⟩ := (w_cn_last hS h0).mp hc
    have hl : w_rm S a < 1024 := Nat.lt_of_le_of_lt w_rm_le hS
    by_cases c : e = a
    · rw [c]
      exact ha a (w_rm S a) 0 hl (by decide) (fun i _ g => by rw [Nat.zero_testBit] at g; exact absurd g (by decide)) h3
    · have hp2 := w_pc_rm hS h2
      have he10 := z_bt10 hS he
      exact w_cn_each ha n (w_rm S a) hl (by omega) h4 e (by rw [w_rm_bt (by omega), he, decide_eq_false c]; rfl)
theorem w_set_ins {P S e : Nat} (hP : P < 1024) (hS : S < 1024) (he : S.testBit e = true) {a : Nat} (hne : a ≠ e) (ha : S.testBit a = true) : (P ||| 2 ^ e) ||| w_rm (w_rm S e) a = P ||| w_rm S a := by
  have he10 := z_bt10 hS he
  have hl : w_rm S a < 1024 := Nat.lt_of_le_of_lt w_rm_le hS
  have hl2 : w_rm (w_rm S e) a < 1024 := Nat.lt_of_le_of_lt w_rm_le (Nat.lt_of_le_of_lt w_rm_le hS)
  refine z_ext10 (Nat.or_lt_two_pow (n := 10) (w_or_lt hP he10) hl2) (Nat.or_lt_two_pow (n := 10) hP hl) fun i hi => ?_
  rw [Nat.testBit_or, w_or_bt, Nat.testBit_or, w_rm_bt (by omega), w_rm_bt (by omega), w_rm_bt (by omega)]
  by_cases c : i = e
  · rw [c, he, decide_eq_true rfl, decide_eq_false (fun g => hne g.symm)]
    cases P.testBit e <;> rfl
  · rw [decide_eq_false c, decide_eq_false (fun g => c g.symm), Bool.or_false, Bool.not_false, Bool.and_true]
/-- a first one -/
theorem w_cn_first {fb : Nat → Nat → Bool} {P : Nat} (hP : P < 1024) : ∀ n S, S < 1024 → w_pc S ≤ n → S ≠ 0 → (w_cn (w_fp fb P) S = true ↔ ∃ e, e < 10 ∧ S.testBit e = true ∧ fb e P = true ∧ w_cn (w_fp fb (P ||| 2 ^ e)) (w_rm S e) = true)
  | 0, S, hS, hp, h0 => absurd (w_pc_0 S hS (by omega)) h0
  | n + 1, S, hS, hp, h0 => by
    have hl : ∀ a, w_rm S a < 1024 := fun a => Nat.lt_of_le_of_lt w_rm_le hS
    constructor
    · intro h
      obtain ⟨a, h1, h2, h3, h4⟩ := (w_cn_last hS h0).mp h
      have h3 : fb a (P ||| w_rm S a) = true := h3
      by_cases c : w_rm S a = 0
      · rw [c, Nat.or_zero] at h3
        exact ⟨a, h1, h2, h3, by rw [c]; rfl⟩
      · have hp2 := w_pc_rm hS h2
        obtain ⟨e, g1, g2, g3, g4⟩ := (w_cn_first hP n (w_rm S a) (hl a) (by omega) c).mp h4
        have g2b := g2
        rw [w_rm_bt (by omega), Bool.and_eq_true, Bool.not_eq_true', decide_eq_false_iff_not] at g2
        have hne : a ≠ e := fun q => g2.2 q.symm
        refine ⟨e, g1, g2.1, g3, ?_⟩
        have hab : (w_rm S e).testBit a = true := by rw [w_rm_bt (by omega), h2, decide_eq_false hne]; rfl
        have h00 : w_rm S e ≠ 0 := fun g => by rw [g, Nat.zero_testBit] at hab; exact absurd hab (by decide)
        refine (w_cn_last (hl e) h00).mpr ⟨a, h1, hab, ?_, ?_⟩
        · show fb a ((P ||| 2 ^ e) ||| w_rm (w_rm S e) a) = true
          rw [w_set_ins hP hS g2.1 hne h2]
          exact h3
        · rw [w_rm_comm hS]; exact g4
    · rintro ⟨e, g1, g2, g3, g4⟩
      by_cases c : w_rm S e = 0
      · exact (w_cn_last hS h0).mpr ⟨e, g1, g2, by show fb e (P ||| w_rm S e) = true; rw [c, Nat.or_zero]; exact g3, by rw [c]; rfl⟩
      · obtain ⟨a, h1, h2, h3, h4⟩ := (w_cn_last (hl e) c).mp g4
        have h3 : fb a ((P ||| 2 ^ e) ||| w_rm (w_rm S e) a) = true := h3
        rw [w_rm_bt (by omega), Bool.and_eq_true, Bool.not_eq_true', decide_eq_false_iff_not] at h2
        rw [w_set_ins hP hS g2 h2.2 h2.1] at h3
        have hp2 := w_pc_rm hS h2.1
        have heb : (w_rm S a).testBit e = true := by rw [w_rm_bt (by omega), g2, decide_eq_false (fun q => h2.2 q.symm)]; rfl
        have h00 : w_rm S a ≠ 0 := fun g => by rw [g, Nat.zero_testBit] at heb; exact absurd heb (by decide)
        refine (w_cn_last hS h0).mpr ⟨a, h1, h2.1, h3, ?_⟩
        exact (w_cn_first hP n (w_rm S a) (hl a) (by omega) h00).mpr ⟨e, g1, heb, g3, by rw [w_rm_comm hS]; exact h4⟩
