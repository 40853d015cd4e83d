/-! THE HEAP BEHIND THE CONSTRUCTORS, as two memories of numbers -/
def b_h (m j : Nat → Nat → Nat) (w : (Nat × Nat) × Bool) : A_H := (a_G0, fun c k => nI (m c k), fun c k => lN (j c k), w)
/-- one place; a whole row -/
def b_s (f : Nat → Nat) (k x : Nat) : Nat → Nat := fun i => if i = k then x else f i
def b_r (m : Nat → Nat → Nat) (c : Nat) (f : Nat → Nat) : Nat → Nat → Nat := fun c2 => if c2 = c then f else m c2
section MEM
variable {m j : Nat → Nat → Nat} {w : (Nat × Nat) × Bool} {r : A_R} {c k x i n : Nat}
theorem b_iv : a_iv (b_h m j w) c k = nI (m c k) := z_id rfl
theorem b_jv : a_jv (b_h m j w) c k = lN (j c k) := z_id rfl
theorem b_sI : a_sI (b_h m j w) c k (nI x) = b_h (b_r m c (b_s (m c) k x)) j w := by
  unfold a_sI b_h b_r b_s va_up upd
  simp only [Prod.mk.injEq, true_and, and_true]
  funext c2 k2
  by_cases h1 : c2 = c
  · subst h1
    by_cases h2 : k2 = k
    · simp [h2]
    · simp [h2]
  · simp [h1]
theorem b_sJ : a_sJ (b_h m j w) c k (lN x) = b_h m (b_r j c (b_s (j c) k x)) w := by
  unfold a_sJ b_h b_r b_s va_up vp_updL
  simp only [Prod.mk.injEq, true_and, and_true]
  funext c2 k2
  by_cases h1 : c2 = c
  · subst h1
    by_cases h2 : k2 = k
    · simp [h2]
    · simp [h2]
  · simp [h1]
theorem b_ss {f : Nat → Nat} : b_s f k x k = x := if_pos rfl
theorem b_sn {f : Nat → Nat} {k2 : Nat} (h : k2 ≠ k) : b_s f k x k2 = f k2 := if_neg h
theorem b_s2 {f : Nat → Nat} {y : Nat} : b_s (b_s f k x) k y = b_s f k y := by
  funext i
  unfold b_s
  split <;> rfl
theorem b_rs {f : Nat → Nat} : b_r m c f c = f := if_pos rfl
theorem b_rn {f : Nat → Nat} {c2 : Nat} (h : c2 ≠ c) : b_r m c f c2 = m c2 := if_neg h
theorem b_r2 {f g : Nat → Nat} : b_r (b_r m c f) c g = b_r m c g := by
  funext i
  unfold b_r
  split <;> rfl
theorem b_rx {f g : Nat → Nat} {c2 : Nat} (h : c2 < c) : b_r (b_r m c f) c2 g = b_r (b_r m c2 g) c f := by
  funext i
  unfold b_r
  by_cases h1 : i = c
  · by_cases h2 : i = c2
    · omega
    · simp [h1]; intro h3; omega
  · simp [h1]
theorem b_ri {f : Nat → Nat} (h : m c = f) : b_r m c f = m := by
  funext i
  unfold b_r
  split
  · rename_i h1; rw [h1, h]
  · rfl
/-- a stretch of a row -/
def b_rg (f : Nat → Nat) (a n : Nat) (g : Nat → Nat) : Nat → Nat := fun i => if a ≤ i ∧ i < a + n then g (i - a) else f i
theorem b_rg0 {f g : Nat → Nat} {a : Nat} : b_rg f a 0 g = f := by
  funext i
  unfold b_rg
  rw [if_neg (by omega)]
theorem b_rg1 {f g : Nat → Nat} {a : Nat} : b_s (b_rg f a n g) (a + n) (g n) = b_rg f a (n + 1) g := by
  funext i
  unfold b_s b_rg
  by_cases h : i = a + n
  · subst h
    rw [if_pos rfl, if_pos (by omega)]
    congr 1
    omega
  · rw [if_neg h]
    by_cases h2 : a ≤ i ∧ i < a + n
    · rw [if_pos h2, if_pos (by omega)]
    · rw [if_neg h2, if_neg (by omega)]
theorem b_rg1' {f g : Nat → Nat} {a p x : Nat} (hp : p = a + n) (hx : x = g n) : b_s (b_rg f a n g) p x = b_rg f a (n + 1) g := by
  subst hp; subst hx; exact b_rg1
theorem b_rgi {f g : Nat → Nat} {a : Nat} (h : a ≤ i) (h2 : i < a + n) : b_rg f a n g i = g (i - a) := if_pos ⟨h, h2⟩
theorem b_rgk {f g : Nat → Nat} {a : Nat} (h : k < n) : b_rg f a n g (a + k) = g k := by
  rw [b_rgi (by omega) (by omega)]
  congr 1
  omega
theorem b_rgo {f g : Nat → Nat} {a : Nat} (h : i < a ∨ a + n ≤ i) : b_rg f a n g i = f i := if_neg (by omega)
/-- a place outside a stretch -/
theorem b_rgs {f g : Nat → Nat} {a : Nat} (h : k < a ∨ a + n ≤ k) : b_s (b_rg f a n g) k x = b_rg (b_s f k x) a n g := by
  funext i
  unfold b_s b_rg
  by_cases h1 : i = k
  · subst h1
    rw [if_pos rfl, if_neg (by omega)]
    exact (if_pos rfl).symm
  · simp [h1]
theorem b_rg_congr {f g g2 : Nat → Nat} {a : Nat} (h : ∀ q, q < n → g q = g2 q) : b_rg f a n g = b_rg f a n g2 := by
  funext i
  unfold b_rg
  split
  · exact h _ (by omega)
  · rfl
theorem b_ge (h : n < 2 ^ 31) (hi : i < n) : a_in (nI i) n = true := z_in hi h
theorem b_cp {a b s d l : Nat} {f : A_H → A_R} (h1 : s + l ≤ a_ln (b_h m j w) a) (h2 : d + l ≤ a_ln (b_h m j w) b) (hs : s + l < 2 ^ 31) (hd : d + l < 2 ^ 31) : a_cp (b_h m j w) a (nI s) b (nI d) (nI l) f = f (b_h (b_r m b (b_rg (m b) d l fun q => m a (s + q))) j w) := by
  unfold a_cp
  rw [nI_toInt (by omega), nI_toInt (by omega), nI_toInt (by omega), nI_clamp (by omega), nI_clamp (by omega), nI_clamp (by omega)]
  have e1 : Nat.ble (s + l) (a_ln (b_h m j w) a) = true := Nat.ble_eq_true_of_le h1
  have e2 : Nat.ble (d + l) (a_ln (b_h m j w) b) = true := Nat.ble_eq_true_of_le h2
  rw [e1, e2]
  have e3 : decide ((0 : Int) ≤ (s : Int)) = true := decide_eq_true (by omega)
  have e4 : decide ((0 : Int) ≤ (d : Int)) = true := decide_eq_true (by omega)
  have e5 : decide ((0 : Int) ≤ (l : Int)) = true := decide_eq_true (by omega)
  rw [e3, e4, e5]
  show f _ = f _
  congr 1
  unfold a_rI b_h b_r b_rg va_up va_cpy
  simp only [Prod.mk.injEq, true_and, and_true]
  funext c2 k2
  by_cases h1 : c2 = b
  · subst h1
    simp only [if_true]
    split <;> rfl
  · simp [h1]
theorem b_cj {a b s d l : Nat} {f : A_H → A_R} (h1 : s + l ≤ a_ln (b_h m j w) a) (h2 : d + l ≤ a_ln (b_h m j w) b) (hs : s + l < 2 ^ 31) (hd : d + l < 2 ^ 31) : a_cj (b_h m j w) a (nI s) b (nI d) (nI l) f = f (b_h m (b_r j b (b_rg (j b) d l fun q => j a (s + q))) w) := by
  unfold a_cj
  rw [nI_toInt (by omega), nI_toInt (by omega), nI_toInt (by omega), nI_clamp (by omega), nI_clamp (by omega), nI_clamp (by omega)]
  have e1 : Nat.ble (s + l) (a_ln (b_h m j w) a) = true := Nat.ble_eq_true_of_le h1
  have e2 : Nat.ble (d + l) (a_ln (b_h m j w) b) = true := Nat.ble_eq_true_of_le h2
  rw [e1, e2]
  have e3 : decide ((0 : Int) ≤ (s : Int)) = true := decide_eq_true (by omega)
  have e4 : decide ((0 : Int) ≤ (d : Int)) = true := decide_eq_true (by omega)
  have e5 : decide ((0 : Int) ≤ (l : Int)) = true := decide_eq_true (by omega)
  rw [e3, e4, e5]
  show f _ = f _
  congr 1
  unfold a_rJ b_h b_r b_rg va_up va_cpy
  simp only [Prod.mk.injEq, true_and, and_true]
  funext c2 k2
  by_cases h1 : c2 = b
  · subst h1
    simp only [if_true]
    split <;> rfl
  · simp [h1]
/-! comparisons of small numbers, as equations -/
theorem b_lt {a b : Nat} (ha : a < 2147483648) (hb : b < 2147483648) : (nI a < nI b) = (a < b) := propext (nI_ltI ha hb)
theorem b_le {a b : Nat} (ha : a < 2147483648) (hb : b < 2147483648) : (nI a ≤ nI b) = (a ≤ b) := propext (nI_leI ha hb)
theorem b_eq {a b : Nat} (ha : a < 4294967296) (hb : b < 4294967296) : (nI a = nI b) = (a = b) := by
  refine propext ⟨fun h => ?_, fun h => by rw [h]⟩
  have h2 := congrArg (fun z : Int32 => z.toBitVec.toNat) h
  simp only [nI, Int32.toBitVec_ofNat', BitVec.toNat_ofNat] at h2
  omega
theorem b_eq0 {a : Nat} (ha : a < 4294967296) : (nI a = 0) = (a = 0) := by
  have h := b_eq ha (b := 0) (by decide)
  rw [nI_0] at h
  exact h
theorem b_le0 {a : Nat} (ha : a < 2147483648) : (nI a ≤ 0) = (a = 0) := by
  have h := b_le ha (b := 0) (by decide)
  rw [nI_0] at h
  rw [h]
  exact propext (by omega)
theorem b_0lt {a : Nat} (ha : a < 2147483648) : (0 < nI a) = (0 < a) := by
  have h := b_lt (a := 0) (by decide) ha
  rwa [nI_0] at h
theorem b_0le {a : Nat} (ha : a < 2147483648) : (0 ≤ nI a) = True := by
  have h := b_le (a := 0) (by decide) ha
  rw [nI_0] at h
  rw [h]
  exact propext (by simp)
theorem b_lt0 {a : Nat} (ha : a < 2147483648) : (nI a < 0) = False := by
  have h := b_lt ha (b := 0) (by decide)
  rw [nI_0] at h
  rw [h]
  exact propext (by simp)
/-- the big ones are below 0 -/
theorem b_neg {a : Nat} (h1 : 2147483648 ≤ a) (h2 : a < 4294967296) : nI a < 0 := by
  rw [Int32.lt_iff_toInt_lt]
  have : (nI a).toInt = (a : Int) - 4294967296 := by
    unfold nI
    rw [Int32.toInt_ofNat', Int.bmod_def]
    have hs : Int32.size = 4294967296 := rfl
    rw [hs]
    split <;> omega
  rw [this]
  show _ < (0 : Int)
  omega
theorem b_lt0n {a : Nat} (h1 : 2147483648 ≤ a) (h2 : a < 4294967296) : (nI a < 0) = True := propext ⟨fun _ => trivial, fun _ => b_neg h1 h2⟩
theorem b_0len {a : Nat} (h1 : 2147483648 ≤ a) (h2 : a < 4294967296) : (0 ≤ nI a) = False := propext ⟨fun h => by
  have := b_neg h1 h2
  rw [Int32.lt_iff_toInt_lt] at this
  rw [Int32.le_iff_toInt_le] at h
  omega, fun h => h.elim⟩
theorem b_ltn {a b : Nat} (h1 : 2147483648 ≤ a) (h2 : a < 4294967296) (hb : b < 2147483648) : (nI a < nI b) = True := by
  refine propext ⟨fun _ => trivial, fun _ => ?_⟩
  have h3 := b_neg h1 h2
  rw [Int32.lt_iff_toInt_lt] at h3 ⊢
  rw [nI_toInt hb]
  have : (0 : Int32).toInt = 0 := rfl
  omega
theorem b_len {a b : Nat} (h1 : 2147483648 ≤ a) (h2 : a < 4294967296) (hb : b < 2147483648) : (nI b ≤ nI a) = False := by
  refine propext ⟨fun h => ?_, fun h => h.elim⟩
  have h3 := b_neg h1 h2
  rw [Int32.lt_iff_toInt_lt] at h3
  rw [Int32.le_iff_toInt_le, nI_toInt hb] at h
  have : (0 : Int32).toInt = 0 := rfl
  omega
theorem b_ltm {a b : Nat} (h1 : 2147483648 ≤ a) (h2 : a < 4294967296) (hb : b < 2147483648) : (nI b < nI a) = False := by
  refine propext ⟨fun h => ?_, fun h => h.elim⟩
  have h3 := b_neg h1 h2
  rw [Int32.lt_iff_toInt_lt] at h3 h
  rw [nI_toInt hb] at h
  have : (0 : Int32).toInt = 0 := rfl
  omega
theorem b_lem {a b : Nat} (h1 : 2147483648 ≤ a) (h2 : a < 4294967296) (hb : b < 2147483648) : (nI a ≤ nI b) = True := by
  refine propext ⟨fun _ => trivial, fun _ => ?_⟩
  have h3 := b_neg h1 h2
  rw [Int32.lt_iff_toInt_lt] at h3
  rw [Int32.le_iff_toInt_le, nI_toInt hb]
  have : (0 : Int32).toInt = 0 := rfl
  omega
theorem b_pred0 : nI 0 - nI 1 = nI 4294967295 := by decide +kernel
theorem b_cl {a : Nat} (h : a < 2147483648) : (nI a).toNatClampNeg = a := nI_clamp h
theorem b_sub {a b : Nat} (h : b ≤ a) : nI a - nI b = nI (a - b) := pk_sub h
theorem b_m1 (a : Nat) : nI a + nI 4294967295 = nI (a + 4294967295) := nI_add a _
theorem b_and1 {a : Nat} (h : a < 2) : (nI a &&& 1 = nI a) = True := by
  have : ∀ a, a < 2 → nI a &&& 1 = nI a := by decide +kernel
  exact eq_true (this a h)
theorem b_and1c : (nI 1 &&& 1 = nI 1) = True := b_and1 (by decide)
theorem b_and1z : (nI 0 &&& 1 = nI 0) = True := b_and1 (by decide)
theorem b_ic {a : Nat} (c : Prop) [Decidable c] : (if c then nI a else nI k) = nI (if c then a else k) := by split <;> rfl
theorem b_min {a b : Nat} (ha : a < 2147483648) (hb : b < 2147483648) : a_min (nI a) (nI b) = nI (min a b) := by
  unfold a_min
  simp only [b_lt hb ha]
  split
  · rw [Nat.min_eq_right (by omega)]
  · rw [Nat.min_eq_left (by omega)]
theorem b_max {a b : Nat} (ha : a < 2147483648) (hb : b < 2147483648) : a_max (nI a) (nI b) = nI (max a b) := by
  unfold a_max
  simp only [b_lt ha hb]
  split
  · rw [Nat.max_eq_right (by omega)]
  · rw [Nat.max_eq_left (by omega)]

theorem bc_0 : a_kc (b_h m j w) 0 11 r = r := z_id rfl
theorem br_0_0 {f : Nat → A_R} : a_fo (a_rf (b_h m j w) 0 0) f = f 1 := z_id rfl
theorem br_0_1 {f : Nat → A_R} : a_fo (a_rf (b_h m j w) 0 1) f = f 4 := z_id rfl
theorem br_0_2 {f : Nat → A_R} : a_fo (a_rf (b_h m j w) 0 2) f = f 15 := z_id rfl
theorem br_0_3 {f : Nat → A_R} : a_fo (a_rf (b_h m j w) 0 3) f = f 26 := z_id rfl
theorem br_0_4 {f : Nat → A_R} : a_fo (a_rf (b_h m j w) 0 4) f = f 38 := z_id rfl
theorem br_0_5 {f : Nat → A_R} : a_fo (a_rf (b_h m j w) 0 5) f = f 50 := z_id rfl
theorem br_0_6 {f : Nat → A_R} : a_fo (a_rf (b_h m j w) 0 6) f = f 148 := z_id rfl
theorem br_0_7 {f : Nat → A_R} : a_fo (a_rf (b_h m j w) 0 7) f = f 152 := z_id rfl
theorem br_0_8 {f : Nat → A_R} : a_fo (a_rf (b_h m j w) 0 8) f = f 156 := z_id rfl
theorem br_0_9 {f : Nat → A_R} : a_fo (a_rf (b_h m j w) 0 9) f = f 162 := z_id rfl
theorem br_0_10 {f : Nat → A_R} : a_fo (a_rf (b_h m j w) 0 10) f = f 167 := z_id rfl
theorem br_0_11 {f : Nat → A_R} : a_fo (a_rf (b_h m j w) 0 11) f = f 172 := z_id rfl
theorem br_0_12 {f : Nat → A_R} : a_fo (a_rf (b_h m j w) 0 12) f = f 176 := z_id rfl
theorem br_0_13 {f : Nat → A_R} : a_fo (a_rf (b_h m j w) 0 13) f = f 177 := z_id rfl
theorem bc_1 : a_kc (b_h m j w) 1 10 r = r := z_id rfl
theorem br_1_0 {f : Nat → A_R} : a_fo (a_rf (b_h m j w) 1 0) f = f 2 := z_id rfl
theorem br_1_1 {f : Nat → A_R} : a_fo (a_rf (b_h m j w) 1 1) f = f 3 := z_id rfl
theorem bc_2 : a_kc (b_h m j w) 2 100 r = r := z_id rfl
theorem bl_2 : a_ln (b_h m j w) 2 = 940 := z_id rfl
theorem bx_2 (h : i < 940) : a_ix (b_h m j w) 2 (nI i) r = r := z_ix (h := b_h m j w) (a := 2) h (Nat.le_of_ble_eq_true rfl)
theorem bc_3 : a_kc (b_h m j w) 3 101 r = r := z_id rfl
theorem bl_3 : a_ln (b_h m j w) 3 = 19 := z_id rfl
theorem bx_3 (h : i < 19) : a_ix (b_h m j w) 3 (nI i) r = r := z_ix (h := b_h m j w) (a := 3) h (Nat.le_of_ble_eq_true rfl)
theorem bc_4 : a_kc (b_h m j w) 4 2 r = r := z_id rfl
theorem br_4_7 {f : Nat → A_R} : a_fo (a_rf (b_h m j w) 4 7) f = f 5 := z_id rfl
theorem br_4_8 {f : Nat → A_R} : a_fo (a_rf (b_h m j w) 4 8) f = f 6 := z_id rfl
theorem br_4_9 {f : Nat → A_R} : a_fo (a_rf (b_h m j w) 4 9) f = f 7 := z_id rfl
theorem br_4_10 {f : Nat → A_R} : a_fo (a_rf (b_h m j w) 4 10) f = f 8 := z_id rfl
theorem br_4_11 {f : Nat → A_R} : a_fo (a_rf (b_h m j w) 4 11) f = f 9 := z_id rfl
theorem br_4_12 {f : Nat → A_R} : a_fo (a_rf (b_h m j w) 4 12) f = f 10 := z_id rfl
theorem br_4_13 {f : Nat → A_R} : a_fo (a_rf (b_h m j w) 4 13) f = f 11 := z_id rfl
theorem br_4_14 {f : Nat → A_R} : a_fo (a_rf (b_h m j w) 4 14) f = f 12 := z_id rfl
theorem br_4_15 {f : Nat → A_R} : a_fo (a_rf (b_h m j w) 4 15) f = f 13 := z_id rfl
theorem br_4_16 {f : Nat → A_R} : a_fo (a_rf (b_h m j w) 4 16) f = f 14 := z_id rfl
theorem bc_5 : a_kc (b_h m j w) 5 101 r = r := z_id rfl
theorem bl_5 : a_ln (b_h m j w) 5 = 30 := z_id rfl
theorem bx_5 (h : i < 30) : a_ix (b_h m j w) 5 (nI i) r = r := z_ix (h := b_h m j w) (a := 5) h (Nat.le_of_ble_eq_true rfl)
theorem bc_6 : a_kc (b_h m j w) 6 100 r = r := z_id rfl
theorem bl_6 : a_ln (b_h m j w) 6 = 30 := z_id rfl
theorem bx_6 (h : i < 30) : a_ix (b_h m j w) 6 (nI i) r = r := z_ix (h := b_h m j w) (a := 6) h (Nat.le_of_ble_eq_true rfl)
theorem bc_7 : a_kc (b_h m j w) 7 100 r = r := z_id rfl
theorem bl_7 : a_ln (b_h m j w) 7 = 30 := z_id rfl
theorem bx_7 (h : i < 30) : a_ix (b_h m j w) 7 (nI i) r = r := z_ix (h := b_h m j w) (a := 7) h (Nat.le_of_ble_eq_true rfl)
theorem bc_8 : a_kc (b_h m j w) 8 100 r = r := z_id rfl
theorem bl_8 : a_ln (b_h m j w) 8 = 6 := z_id rfl
theorem bx_8 (h : i < 6) : a_ix (b_h m j w) 8 (nI i) r = r := z_ix (h := b_h m j w) (a := 8) h (Nat.le_of_ble_eq_true rfl)
theorem bc_9 : a_kc (b_h m j w) 9 100 r = r := z_id rfl
theorem bl_9 : a_ln (b_h m j w) 9 = 8 := z_id rfl
theorem bx_9 (h : i < 8) : a_ix (b_h m j w) 9 (nI i) r = r := z_ix (h := b_h m j w) (a := 9) h (Nat.le_of_ble_eq_true rfl)
theorem bc_10 : a_kc (b_h m j w) 10 100 r = r := z_id rfl
theorem bl_10 : a_ln (b_h m j w) 10 = 48 := z_id rfl
theorem bx_10 (h : i < 48) : a_ix (b_h m j w) 10 (nI i) r = r := z_ix (h := b_h m j w) (a := 10) h (Nat.le_of_ble_eq_true rfl)
theorem bc_11 : a_kc (b_h m j w) 11 100 r = r := z_id rfl
theorem bl_11 : a_ln (b_h m j w) 11 = 10 := z_id rfl
theorem bx_11 (h : i < 10) : a_ix (b_h m j w) 11 (nI i) r = r := z_ix (h := b_h m j w) (a := 11) h (Nat.le_of_ble_eq_true rfl)
theorem bc_12 : a_kc (b_h m j w) 12 100 r = r := z_id rfl
theorem bl_12 : a_ln (b_h m j w) 12 = 10 := z_id rfl
theorem bx_12 (h : i < 10) : a_ix (b_h m j w) 12 (nI i) r = r := z_ix (h := b_h m j w) (a := 12) h (Nat.le_of_ble_eq_true rfl)
theorem bc_13 : a_kc (b_h m j w) 13 100 r = r := z_id rfl
theorem bl_13 : a_ln (b_h m j w) 13 = 60 := z_id rfl
theorem bx_13 (h : i < 60) : a_ix (b_h m j w) 13 (nI i) r = r := z_ix (h := b_h m j w) (a := 13) h (Nat.le_of_ble_eq_true rfl)
theorem bc_14 : a_kc (b_h m j w) 14 100 r = r := z_id rfl
theorem bl_14 : a_ln (b_h m j w) 14 = 10 := z_id rfl
theorem bx_14 (h : i < 10) : a_ix (b_h m j w) 14 (nI i) r = r := z_ix (h := b_h m j w) (a := 14) h (Nat.le_of_ble_eq_true rfl)
theorem bc_15 : a_kc (b_h m j w) 15 2 r = r := z_id rfl
theorem br_15_7 {f : Nat → A_R} : a_fo (a_rf (b_h m j w) 15 7) f = f 16 := z_id rfl
theorem br_15_8 {f : Nat → A_R} : a_fo (a_rf (b_h m j w) 15 8) f = f 17 := z_id rfl
theorem br_15_9 {f : Nat → A_R} : a_fo (a_rf (b_h m j w) 15 9) f = f 18 := z_id rfl
theorem br_15_10 {f : Nat → A_R} : a_fo (a_rf (b_h m j w) 15 10) f = f 19 := z_id rfl
theorem br_15_11 {f : Nat → A_R} : a_fo (a_rf (b_h m j w) 15 11) f = f 20 := z_id rfl
theorem br_15_12 {f : Nat → A_R} : a_fo (a_rf (b_h m j w) 15 12) f = f 21 := z_id rfl
theorem br_15_13 {f : Nat → A_R} : a_fo (a_rf (b_h m j w) 15 13) f = f 22 := z_id rfl
theorem br_15_14 {f : Nat → A_R} : a_fo (a_rf (b_h m j w) 15 14) f = f 23 := z_id rfl
theorem br_15_15 {f : Nat → A_R} : a_fo (a_rf (b_h m j w) 15 15) f = f 24 := z_id rfl
theorem br_15_16 {f : Nat → A_R} : a_fo (a_rf (b_h m j w) 15 16) f = f 25 := z_id rfl
theorem bc_16 : a_kc (b_h m j w) 16 101 r = r := z_id rfl
theorem bl_16 : a_ln (b_h m j w) 16 = 30 := z_id rfl
theorem bx_16 (h : i < 30) : a_ix (b_h m j w) 16 (nI i) r = r := z_ix (h := b_h m j w) (a := 16) h (Nat.le_of_ble_eq_true rfl)
theorem bc_17 : a_kc (b_h m j w) 17 100 r = r := z_id rfl
theorem bl_17 : a_ln (b_h m j w) 17 = 30 := z_id rfl
theorem bx_17 (h : i < 30) : a_ix (b_h m j w) 17 (nI i) r = r := z_ix (h := b_h m j w) (a := 17) h (Nat.le_of_ble_eq_true rfl)
theorem bc_18 : a_kc (b_h m j w) 18 100 r = r := z_id rfl
theorem bl_18 : a_ln (b_h m j w) 18 = 30 := z_id rfl
theorem bx_18 (h : i < 30) : a_ix (b_h m j w) 18 (nI i) r = r := z_ix (h := b_h m j w) (a := 18) h (Nat.le_of_ble_eq_true rfl)
theorem bc_19 : a_kc (b_h m j w) 19 100 r = r := z_id rfl
theorem bl_19 : a_ln (b_h m j w) 19 = 6 := z_id rfl
theorem bx_19 (h : i < 6) : a_ix (b_h m j w) 19 (nI i) r = r := z_ix (h := b_h m j w) (a := 19) h (Nat.le_of_ble_eq_true rfl)
theorem bc_20 : a_kc (b_h m j w) 20 100 r = r := z_id rfl
theorem bl_20 : a_ln (b_h m j w) 20 = 8 := z_id rfl
theorem bx_20 (h : i < 8) : a_ix (b_h m j w) 20 (nI i) r = r := z_ix (h := b_h m j w) (a := 20) h (Nat.le_of_ble_eq_true rfl)
theorem bc_21 : a_kc (b_h m j w) 21 100 r = r := z_id rfl
theorem bl_21 : a_ln (b_h m j w) 21 = 48 := z_id rfl
theorem bx_21 (h : i < 48) : a_ix (b_h m j w) 21 (nI i) r = r := z_ix (h := b_h m j w) (a := 21) h (Nat.le_of_ble_eq_true rfl)
theorem bc_22 : a_kc (b_h m j w) 22 100 r = r := z_id rfl
theorem bl_22 : a_ln (b_h m j w) 22 = 10 := z_id rfl
theorem bx_22 (h : i < 10) : a_ix (b_h m j w) 22 (nI i) r = r := z_ix (h := b_h m j w) (a := 22) h (Nat.le_of_ble_eq_true rfl)
theorem bc_23 : a_kc (b_h m j w) 23 100 r = r := z_id rfl
theorem bl_23 : a_ln (b_h m j w) 23 = 10 := z_id rfl
theorem bx_23 (h : i < 10) : a_ix (b_h m j w) 23 (nI i) r = r := z_ix (h := b_h m j w) (a := 23) h (Nat.le_of_ble_eq_true rfl)
theorem bc_24 : a_kc (b_h m j w) 24 100 r = r := z_id rfl
theorem bl_24 : a_ln (b_h m j w) 24 = 60 := z_id rfl
theorem bx_24 (h : i < 60) : a_ix (b_h m j w) 24 (nI i) r = r := z_ix (h := b_h m j w) (a := 24) h (Nat.le_of_ble_eq_true rfl)
theorem bc_25 : a_kc (b_h m j w) 25 100 r = r := z_id rfl
theorem bl_25 : a_ln (b_h m j w) 25 = 10 := z_id rfl
theorem bx_25 (h : i < 10) : a_ix (b_h m j w) 25 (nI i) r = r := z_ix (h := b_h m j w) (a := 25) h (Nat.le_of_ble_eq_true rfl)
theorem bc_26 : a_kc (b_h m j w) 26 0 r = r := z_id rfl
theorem br_26_0 {f : Nat → A_R} : a_fo (a_rf (b_h m j w) 26 0) f = f 4 := z_id rfl
theorem br_26_2 {f : Nat → A_R} : a_fo (a_rf (b_h m j w) 26 2) f = f 27 := z_id rfl
theorem br_26_3 {f : Nat → A_R} : a_fo (a_rf (b_h m j w) 26 3) f = f 28 := z_id rfl
theorem br_26_4 {f : Nat → A_R} : a_fo (a_rf (b_h m j w) 26 4) f = f 29 := z_id rfl
theorem br_26_5 {f : Nat → A_R} : a_fo (a_rf (b_h m j w) 26 5) f = f 30 := z_id rfl
theorem br_26_6 {f : Nat → A_R} : a_fo (a_rf (b_h m j w) 26 6) f = f 31 := z_id rfl
theorem br_26_7 {f : Nat → A_R} : a_fo (a_rf (b_h m j w) 26 7) f = f 32 := z_id rfl
theorem br_26_8 {f : Nat → A_R} : a_fo (a_rf (b_h m j w) 26 8) f = f 33 := z_id rfl
theorem br_26_9 {f : Nat → A_R} : a_fo (a_rf (b_h m j w) 26 9) f = f 34 := z_id rfl
theorem br_26_10 {f : Nat → A_R} : a_fo (a_rf (b_h m j w) 26 10) f = f 35 := z_id rfl
theorem br_26_11 {f : Nat → A_R} : a_fo (a_rf (b_h m j w) 26 11) f = f 36 := z_id rfl
theorem br_26_12 {f : Nat → A_R} : a_fo (a_rf (b_h m j w) 26 12) f = f 37 := z_id rfl
theorem bc_27 : a_kc (b_h m j w) 27 100 r = r := z_id rfl
theorem bl_27 : a_ln (b_h m j w) 27 = 6 := z_id rfl
theorem bx_27 (h : i < 6) : a_ix (b_h m j w) 27 (nI i) r = r := z_ix (h := b_h m j w) (a := 27) h (Nat.le_of_ble_eq_true rfl)
theorem bc_28 : a_kc (b_h m j w) 28 100 r = r := z_id rfl
theorem bl_28 : a_ln (b_h m j w) 28 = 6 := z_id rfl
theorem bx_28 (h : i < 6) : a_ix (b_h m j w) 28 (nI i) r = r := z_ix (h := b_h m j w) (a := 28) h (Nat.le_of_ble_eq_true rfl)
theorem bc_29 : a_kc (b_h m j w) 29 100 r = r := z_id rfl
theorem bl_29 : a_ln (b_h m j w) 29 = 6 := z_id rfl
theorem bx_29 (h : i < 6) : a_ix (b_h m j w) 29 (nI i) r = r := z_ix (h := b_h m j w) (a := 29) h (Nat.le_of_ble_eq_true rfl)
theorem bc_30 : a_kc (b_h m j w) 30 100 r = r := z_id rfl
theorem bl_30 : a_ln (b_h m j w) 30 = 48 := z_id rfl
theorem bx_30 (h : i < 48) : a_ix (b_h m j w) 30 (nI i) r = r := z_ix (h := b_h m j w) (a := 30) h (Nat.le_of_ble_eq_true rfl)
theorem bc_31 : a_kc (b_h m j w) 31 100 r = r := z_id rfl
theorem bl_31 : a_ln (b_h m j w) 31 = 10 := z_id rfl
theorem bx_31 (h : i < 10) : a_ix (b_h m j w) 31 (nI i) r = r := z_ix (h := b_h m j w) (a := 31) h (Nat.le_of_ble_eq_true rfl)
theorem bc_32 : a_kc (b_h m j w) 32 100 r = r := z_id rfl
theorem bl_32 : a_ln (b_h m j w) 32 = 10 := z_id rfl
theorem bx_32 (h : i < 10) : a_ix (b_h m j w) 32 (nI i) r = r := z_ix (h := b_h m j w) (a := 32) h (Nat.le_of_ble_eq_true rfl)
theorem bc_33 : a_kc (b_h m j w) 33 100 r = r := z_id rfl
theorem bl_33 : a_ln (b_h m j w) 33 = 10 := z_id rfl
theorem bx_33 (h : i < 10) : a_ix (b_h m j w) 33 (nI i) r = r := z_ix (h := b_h m j w) (a := 33) h (Nat.le_of_ble_eq_true rfl)
theorem bc_34 : a_kc (b_h m j w) 34 100 r = r := z_id rfl
theorem bl_34 : a_ln (b_h m j w) 34 = 10 := z_id rfl
theorem bx_34 (h : i < 10) : a_ix (b_h m j w) 34 (nI i) r = r := z_ix (h := b_h m j w) (a := 34) h (Nat.le_of_ble_eq_true rfl)
theorem bc_35 : a_kc (b_h m j w) 35 100 r = r := z_id rfl
theorem bl_35 : a_ln (b_h m j w) 35 = 10 := z_id rfl
theorem bx_35 (h : i < 10) : a_ix (b_h m j w) 35 (nI i) r = r := z_ix (h := b_h m j w) (a := 35) h (Nat.le_of_ble_eq_true rfl)
theorem bc_36 : a_kc (b_h m j w) 36 100 r = r := z_id rfl
theorem bl_36 : a_ln (b_h m j w) 36 = 10 := z_id rfl
theorem bx_36 (h : i < 10) : a_ix (b_h m j w) 36 (nI i) r = r := z_ix (h := b_h m j w) (a := 36) h (Nat.le_of_ble_eq_true rfl)
theorem bc_37 : a_kc (b_h m j w) 37 100 r = r := z_id rfl
theorem bl_37 : a_ln (b_h m j w) 37 = 60 := z_id rfl
theorem bx_37 (h : i < 60) : a_ix (b_h m j w) 37 (nI i) r = r := z_ix (h := b_h m j w) (a := 37) h (Nat.le_of_ble_eq_true rfl)
theorem bc_38 : a_kc (b_h m j w) 38 0 r = r := z_id rfl
theorem br_38_0 {f : Nat → A_R} : a_fo (a_rf (b_h m j w) 38 0) f = f 4 := z_id rfl
theorem br_38_2 {f : Nat → A_R} : a_fo (a_rf (b_h m j w) 38 2) f = f 39 := z_id rfl
theorem br_38_3 {f : Nat → A_R} : a_fo (a_rf (b_h m j w) 38 3) f = f 40 := z_id rfl
theorem br_38_4 {f : Nat → A_R} : a_fo (a_rf (b_h m j w) 38 4) f = f 41 := z_id rfl
theorem br_38_5 {f : Nat → A_R} : a_fo (a_rf (b_h m j w) 38 5) f = f 42 := z_id rfl
theorem br_38_6 {f : Nat → A_R} : a_fo (a_rf (b_h m j w) 38 6) f = f 43 := z_id rfl
theorem br_38_7 {f : Nat → A_R} : a_fo (a_rf (b_h m j w) 38 7) f = f 44 := z_id rfl
theorem br_38_8 {f : Nat → A_R} : a_fo (a_rf (b_h m j w) 38 8) f = f 45 := z_id rfl
theorem br_38_9 {f : Nat → A_R} : a_fo (a_rf (b_h m j w) 38 9) f = f 46 := z_id rfl
theorem br_38_10 {f : Nat → A_R} : a_fo (a_rf (b_h m j w) 38 10) f = f 47 := z_id rfl
theorem br_38_11 {f : Nat → A_R} : a_fo (a_rf (b_h m j w) 38 11) f = f 48 := z_id rfl
theorem br_38_12 {f : Nat → A_R} : a_fo (a_rf (b_h m j w) 38 12) f = f 49 := z_id rfl
theorem bc_39 : a_kc (b_h m j w) 39 100 r = r := z_id rfl
theorem bl_39 : a_ln (b_h m j w) 39 = 6 := z_id rfl
theorem bx_39 (h : i < 6) : a_ix (b_h m j w) 39 (nI i) r = r := z_ix (h := b_h m j w) (a := 39) h (Nat.le_of_ble_eq_true rfl)
theorem bc_40 : a_kc (b_h m j w) 40 100 r = r := z_id rfl
theorem bl_40 : a_ln (b_h m j w) 40 = 6 := z_id rfl
theorem bx_40 (h : i < 6) : a_ix (b_h m j w) 40 (nI i) r = r := z_ix (h := b_h m j w) (a := 40) h (Nat.le_of_ble_eq_true rfl)
theorem bc_41 : a_kc (b_h m j w) 41 100 r = r := z_id rfl
theorem bl_41 : a_ln (b_h m j w) 41 = 6 := z_id rfl
theorem bx_41 (h : i < 6) : a_ix (b_h m j w) 41 (nI i) r = r := z_ix (h := b_h m j w) (a := 41) h (Nat.le_of_ble_eq_true rfl)
theorem bc_42 : a_kc (b_h m j w) 42 100 r = r := z_id rfl
theorem bl_42 : a_ln (b_h m j w) 42 = 48 := z_id rfl
theorem bx_42 (h : i < 48) : a_ix (b_h m j w) 42 (nI i) r = r := z_ix (h := b_h m j w) (a := 42) h (Nat.le_of_ble_eq_true rfl)
theorem bc_43 : a_kc (b_h m j w) 43 100 r = r := z_id rfl
theorem bl_43 : a_ln (b_h m j w) 43 = 10 := z_id rfl
theorem bx_43 (h : i < 10) : a_ix (b_h m j w) 43 (nI i) r = r := z_ix (h := b_h m j w) (a := 43) h (Nat.le_of_ble_eq_true rfl)
theorem bc_44 : a_kc (b_h m j w) 44 100 r = r := z_id rfl
theorem bl_44 : a_ln (b_h m j w) 44 = 10 := z_id rfl
theorem bx_44 (h : i < 10) : a_ix (b_h m j w) 44 (nI i) r = r := z_ix (h := b_h m j w) (a := 44) h (Nat.le_of_ble_eq_true rfl)
theorem bc_45 : a_kc (b_h m j w) 45 100 r = r := z_id rfl
theorem bl_45 : a_ln (b_h m j w) 45 = 10 := z_id rfl
theorem bx_45 (h : i < 10) : a_ix (b_h m j w) 45 (nI i) r = r := z_ix (h := b_h m j w) (a := 45) h (Nat.le_of_ble_eq_true rfl)
theorem bc_46 : a_kc (b_h m j w) 46 100 r = r := z_id rfl
theorem bl_46 : a_ln (b_h m j w) 46 = 10 := z_id rfl
theorem bx_46 (h : i < 10) : a_ix (b_h m j w) 46 (nI i) r = r := z_ix (h := b_h m j w) (a := 46) h (Nat.le_of_ble_eq_true rfl)
theorem bc_47 : a_kc (b_h m j w) 47 100 r = r := z_id rfl
theorem bl_47 : a_ln (b_h m j w) 47 = 10 := z_id rfl
theorem bx_47 (h : i < 10) : a_ix (b_h m j w) 47 (nI i) r = r := z_ix (h := b_h m j w) (a := 47) h (Nat.le_of_ble_eq_true rfl)
theorem bc_48 : a_kc (b_h m j w) 48 100 r = r := z_id rfl
theorem bl_48 : a_ln (b_h m j w) 48 = 10 := z_id rfl
theorem bx_48 (h : i < 10) : a_ix (b_h m j w) 48 (nI i) r = r := z_ix (h := b_h m j w) (a := 48) h (Nat.le_of_ble_eq_true rfl)
theorem bc_49 : a_kc (b_h m j w) 49 100 r = r := z_id rfl
theorem bl_49 : a_ln (b_h m j w) 49 = 60 := z_id rfl
theorem bx_49 (h : i < 60) : a_ix (b_h m j w) 49 (nI i) r = r := z_ix (h := b_h m j w) (a := 49) h (Nat.le_of_ble_eq_true rfl)
theorem bc_50 : a_kc (b_h m j w) 50 7 r = r := z_id rfl
theorem br_50_0 {f : Nat → A_R} : a_fo (a_rf (b_h m j w) 50 0) f = f 51 := z_id rfl
theorem bc_51 : a_kc (b_h m j w) 51 104 r = r := z_id rfl
theorem bl_51 : a_ln (b_h m j w) 51 = 8 := z_id rfl
theorem bx_51 (h : i < 8) : a_ix (b_h m j w) 51 (nI i) r = r := z_ix (h := b_h m j w) (a := 51) h (Nat.le_of_ble_eq_true rfl)
theorem br_51_0 {f : Nat → A_R} : a_fo (a_rf (b_h m j w) 51 0) f = f 52 := z_id rfl
theorem br_51_1 {f : Nat → A_R} : a_fo (a_rf (b_h m j w) 51 1) f = f 64 := z_id rfl
theorem br_51_2 {f : Nat → A_R} : a_fo (a_rf (b_h m j w) 51 2) f = f 76 := z_id rfl
theorem br_51_3 {f : Nat → A_R} : a_fo (a_rf (b_h m j w) 51 3) f = f 88 := z_id rfl
theorem br_51_4 {f : Nat → A_R} : a_fo (a_rf (b_h m j w) 51 4) f = f 100 := z_id rfl
theorem br_51_5 {f : Nat → A_R} : a_fo (a_rf (b_h m j w) 51 5) f = f 112 := z_id rfl
theorem br_51_6 {f : Nat → A_R} : a_fo (a_rf (b_h m j w) 51 6) f = f 124 := z_id rfl
theorem br_51_7 {f : Nat → A_R} : a_fo (a_rf (b_h m j w) 51 7) f = f 136 := z_id rfl
theorem bc_52 : a_kc (b_h m j w) 52 0 r = r := z_id rfl
theorem br_52_0 {f : Nat → A_R} : a_fo (a_rf (b_h m j w) 52 0) f = f 4 := z_id rfl
theorem br_52_2 {f : Nat → A_R} : a_fo (a_rf (b_h m j w) 52 2) f = f 53 := z_id rfl
theorem br_52_3 {f : Nat → A_R} : a_fo (a_rf (b_h m j w) 52 3) f = f 54 := z_id rfl
theorem br_52_4 {f : Nat → A_R} : a_fo (a_rf (b_h m j w) 52 4) f = f 55 := z_id rfl
theorem br_52_5 {f : Nat → A_R} : a_fo (a_rf (b_h m j w) 52 5) f = f 56 := z_id rfl
theorem br_52_6 {f : Nat → A_R} : a_fo (a_rf (b_h m j w) 52 6) f = f 57 := z_id rfl
theorem br_52_7 {f : Nat → A_R} : a_fo (a_rf (b_h m j w) 52 7) f = f 58 := z_id rfl
theorem br_52_8 {f : Nat → A_R} : a_fo (a_rf (b_h m j w) 52 8) f = f 59 := z_id rfl
theorem br_52_9 {f : Nat → A_R} : a_fo (a_rf (b_h m j w) 52 9) f = f 60 := z_id rfl
theorem br_52_10 {f : Nat → A_R} : a_fo (a_rf (b_h m j w) 52 10) f = f 61 := z_id rfl
theorem br_52_11 {f : Nat → A_R} : a_fo (a_rf (b_h m j w) 52 11) f = f 62 := z_id rfl
theorem br_52_12 {f : Nat → A_R} : a_fo (a_rf (b_h m j w) 52 12) f = f 63 := z_id rfl
theorem bc_53 : a_kc (b_h m j w) 53 100 r = r := z_id rfl
theorem bl_53 : a_ln (b_h m j w) 53 = 6 := z_id rfl
theorem bx_53 (h : i < 6) : a_ix (b_h m j w) 53 (nI i) r = r := z_ix (h := b_h m j w) (a := 53) h (Nat.le_of_ble_eq_true rfl)
theorem bc_54 : a_kc (b_h m j w) 54 100 r = r := z_id rfl
theorem bl_54 : a_ln (b_h m j w) 54 = 6 := z_id rfl
theorem bx_54 (h : i < 6) : a_ix (b_h m j w) 54 (nI i) r = r := z_ix (h := b_h m j w) (a := 54) h (Nat.le_of_ble_eq_true rfl)
theorem bc_55 : a_kc (b_h m j w) 55 100 r = r := z_id rfl
theorem bl_55 : a_ln (b_h m j w) 55 = 6 := z_id rfl
theorem bx_55 (h : i < 6) : a_ix (b_h m j w) 55 (nI i) r = r := z_ix (h := b_h m j w) (a := 55) h (Nat.le_of_ble_eq_true rfl)
theorem bc_56 : a_kc (b_h m j w) 56 100 r = r := z_id rfl
theorem bl_56 : a_ln (b_h m j w) 56 = 48 := z_id rfl
theorem bx_56 (h : i < 48) : a_ix (b_h m j w) 56 (nI i) r = r := z_ix (h := b_h m j w) (a := 56) h (Nat.le_of_ble_eq_true rfl)
theorem bc_57 : a_kc (b_h m j w) 57 100 r = r := z_id rfl
theorem bl_57 : a_ln (b_h m j w) 57 = 10 := z_id rfl
theorem bx_57 (h : i < 10) : a_ix (b_h m j w) 57 (nI i) r = r := z_ix (h := b_h m j w) (a := 57) h (Nat.le_of_ble_eq_true rfl)
theorem bc_58 : a_kc (b_h m j w) 58 100 r = r := z_id rfl
theorem bl_58 : a_ln (b_h m j w) 58 = 10 := z_id rfl
theorem bx_58 (h : i < 10) : a_ix (b_h m j w) 58 (nI i) r = r := z_ix (h := b_h m j w) (a := 58) h (Nat.le_of_ble_eq_true rfl)
theorem bc_59 : a_kc (b_h m j w) 59 100 r = r := z_id rfl
theorem bl_59 : a_ln (b_h m j w) 59 = 10 := z_id rfl
theorem bx_59 (h : i < 10) : a_ix (b_h m j w) 59 (nI i) r = r := z_ix (h := b_h m j w) (a := 59) h (Nat.le_of_ble_eq_true rfl)
theorem bc_60 : a_kc (b_h m j w) 60 100 r = r := z_id rfl
theorem bl_60 : a_ln (b_h m j w) 60 = 10 := z_id rfl
theorem bx_60 (h : i < 10) : a_ix (b_h m j w) 60 (nI i) r = r := z_ix (h := b_h m j w) (a := 60) h (Nat.le_of_ble_eq_true rfl)
theorem bc_61 : a_kc (b_h m j w) 61 100 r = r := z_id rfl
theorem bl_61 : a_ln (b_h m j w) 61 = 10 := z_id rfl
theorem bx_61 (h : i < 10) : a_ix (b_h m j w) 61 (nI i) r = r := z_ix (h := b_h m j w) (a := 61) h (Nat.le_of_ble_eq_true rfl)
theorem bc_62 : a_kc (b_h m j w) 62 100 r = r := z_id rfl
theorem bl_62 : a_ln (b_h m j w) 62 = 10 := z_id rfl
theorem bx_62 (h : i < 10) : a_ix (b_h m j w) 62 (nI i) r = r := z_ix (h := b_h m j w) (a := 62) h (Nat.le_of_ble_eq_true rfl)
theorem bc_63 : a_kc (b_h m j w) 63 100 r = r := z_id rfl
theorem bl_63 : a_ln (b_h m j w) 63 = 60 := z_id rfl
theorem bx_63 (h : i < 60) : a_ix (b_h m j w) 63 (nI i) r = r := z_ix (h := b_h m j w) (a := 63) h (Nat.le_of_ble_eq_true rfl)
theorem bc_64 : a_kc (b_h m j w) 64 0 r = r := z_id rfl
theorem br_64_0 {f : Nat → A_R} : a_fo (a_rf (b_h m j w) 64 0) f = f 4 := z_id rfl
theorem br_64_2 {f : Nat → A_R} : a_fo (a_rf (b_h m j w) 64 2) f = f 65 := z_id rfl
theorem br_64_3 {f : Nat → A_R} : a_fo (a_rf (b_h m j w) 64 3) f = f 66 := z_id rfl
theorem br_64_4 {f : Nat → A_R} : a_fo (a_rf (b_h m j w) 64 4) f = f 67 := z_id rfl
theorem br_64_5 {f : Nat → A_R} : a_fo (a_rf (b_h m j w) 64 5) f = f 68 := z_id rfl
theorem br_64_6 {f : Nat → A_R} : a_fo (a_rf (b_h m j w) 64 6) f = f 69 := z_id rfl
theorem br_64_7 {f : Nat → A_R} : a_fo (a_rf (b_h m j w) 64 7) f = f 70 := z_id rfl
theorem br_64_8 {f : Nat → A_R} : a_fo (a_rf (b_h m j w) 64 8) f = f 71 := z_id rfl
theorem br_64_9 {f : Nat → A_R} : a_fo (a_rf (b_h m j w) 64 9) f = f 72 := z_id rfl
theorem br_64_10 {f : Nat → A_R} : a_fo (a_rf (b_h m j w) 64 10) f = f 73 := z_id rfl
theorem br_64_11 {f : Nat → A_R} : a_fo (a_rf (b_h m j w) 64 11) f = f 74 := z_id rfl
theorem br_64_12 {f : Nat → A_R} : a_fo (a_rf (b_h m j w) 64 12) f = f 75 := z_id rfl
theorem bc_65 : a_kc (b_h m j w) 65 100 r = r := z_id rfl
theorem bl_65 : a_ln (b_h m j w) 65 = 6 := z_id rfl
theorem bx_65 (h : i < 6) : a_ix (b_h m j w) 65 (nI i) r = r := z_ix (h := b_h m j w) (a := 65) h (Nat.le_of_ble_eq_true rfl)
theorem bc_66 : a_kc (b_h m j w) 66 100 r = r := z_id rfl
theorem bl_66 : a_ln (b_h m j w) 66 = 6 := z_id rfl
theorem bx_66 (h : i < 6) : a_ix (b_h m j w) 66 (nI i) r = r := z_ix (h := b_h m j w) (a := 66) h (Nat.le_of_ble_eq_true rfl)
theorem bc_67 : a_kc (b_h m j w) 67 100 r = r := z_id rfl
theorem bl_67 : a_ln (b_h m j w) 67 = 6 := z_id rfl
theorem bx_67 (h : i < 6) : a_ix (b_h m j w) 67 (nI i) r = r := z_ix (h := b_h m j w) (a := 67) h (Nat.le_of_ble_eq_true rfl)
theorem bc_68 : a_kc (b_h m j w) 68 100 r = r := z_id rfl
theorem bl_68 : a_ln (b_h m j w) 68 = 48 := z_id rfl
theorem bx_68 (h : i < 48) : a_ix (b_h m j w) 68 (nI i) r = r := z_ix (h := b_h m j w) (a := 68) h (Nat.le_of_ble_eq_true rfl)
theorem bc_69 : a_kc (b_h m j w) 69 100 r = r := z_id rfl
theorem bl_69 : a_ln (b_h m j w) 69 = 10 := z_id rfl
theorem bx_69 (h : i < 10) : a_ix (b_h m j w) 69 (nI i) r = r := z_ix (h := b_h m j w) (a := 69) h (Nat.le_of_ble_eq_true rfl)
theorem bc_70 : a_kc (b_h m j w) 70 100 r = r := z_id rfl
theorem bl_70 : a_ln (b_h m j w) 70 = 10 := z_id rfl
theorem bx_70 (h : i < 10) : a_ix (b_h m j w) 70 (nI i) r = r := z_ix (h := b_h m j w) (a := 70) h (Nat.le_of_ble_eq_true rfl)
theorem bc_71 : a_kc (b_h m j w) 71 100 r = r := z_id rfl
theorem bl_71 : a_ln (b_h m j w) 71 = 10 := z_id rfl
theorem bx_71 (h : i < 10) : a_ix (b_h m j w) 71 (nI i) r = r := z_ix (h := b_h m j w) (a := 71) h (Nat.le_of_ble_eq_true rfl)
theorem bc_72 : a_kc (b_h m j w) 72 100 r = r := z_id rfl
theorem bl_72 : a_ln (b_h m j w) 72 = 10 := z_id rfl
theorem bx_72 (h : i < 10) : a_ix (b_h m j w) 72 (nI i) r = r := z_ix (h := b_h m j w) (a := 72) h (Nat.le_of_ble_eq_true rfl)
theorem bc_73 : a_kc (b_h m j w) 73 100 r = r := z_id rfl
theorem bl_73 : a_ln (b_h m j w) 73 = 10 := z_id rfl
theorem bx_73 (h : i < 10) : a_ix (b_h m j w) 73 (nI i) r = r := z_ix (h := b_h m j w) (a := 73) h (Nat.le_of_ble_eq_true rfl)
theorem bc_74 : a_kc (b_h m j w) 74 100 r = r := z_id rfl
theorem bl_74 : a_ln (b_h m j w) 74 = 10 := z_id rfl
theorem bx_74 (h : i < 10) : a_ix (b_h m j w) 74 (nI i) r = r := z_ix (h := b_h m j w) (a := 74) h (Nat.le_of_ble_eq_true rfl)
theorem bc_75 : a_kc (b_h m j w) 75 100 r = r := z_id rfl
theorem bl_75 : a_ln (b_h m j w) 75 = 60 := z_id rfl
theorem bx_75 (h : i < 60) : a_ix (b_h m j w) 75 (nI i) r = r := z_ix (h := b_h m j w) (a := 75) h (Nat.le_of_ble_eq_true rfl)
theorem bc_76 : a_kc (b_h m j w) 76 0 r = r := z_id rfl
theorem br_76_0 {f : Nat → A_R} : a_fo (a_rf (b_h m j w) 76 0) f = f 4 := z_id rfl
theorem br_76_2 {f : Nat → A_R} : a_fo (a_rf (b_h m j w) 76 2) f = f 77 := z_id rfl
theorem br_76_3 {f : Nat → A_R} : a_fo (a_rf (b_h m j w) 76 3) f = f 78 := z_id rfl
theorem br_76_4 {f : Nat → A_R} : a_fo (a_rf (b_h m j w) 76 4) f = f 79 := z_id rfl
theorem br_76_5 {f : Nat → A_R} : a_fo (a_rf (b_h m j w) 76 5) f = f 80 := z_id rfl
theorem br_76_6 {f : Nat → A_R} : a_fo (a_rf (b_h m j w) 76 6) f = f 81 := z_id rfl
theorem br_76_7 {f : Nat → A_R} : a_fo (a_rf (b_h m j w) 76 7) f = f 82 := z_id rfl
theorem br_76_8 {f : Nat → A_R} : a_fo (a_rf (b_h m j w) 76 8) f = f 83 := z_id rfl
theorem br_76_9 {f : Nat → A_R} : a_fo (a_rf (b_h m j w) 76 9) f = f 84 := z_id rfl
theorem br_76_10 {f : Nat → A_R} : a_fo (a_rf (b_h m j w) 76 10) f = f 85 := z_id rfl
theorem br_76_11 {f : Nat → A_R} : a_fo (a_rf (b_h m j w) 76 11) f = f 86 := z_id rfl
theorem br_76_12 {f : Nat → A_R} : a_fo (a_rf (b_h m j w) 76 12) f = f 87 := z_id rfl
theorem bc_77 : a_kc (b_h m j w) 77 100 r = r := z_id rfl
theorem bl_77 : a_ln (b_h m j w) 77 = 6 := z_id rfl
theorem bx_77 (h : i < 6) : a_ix (b_h m j w) 77 (nI i) r = r := z_ix (h := b_h m j w) (a := 77) h (Nat.le_of_ble_eq_true rfl)
theorem bc_78 : a_kc (b_h m j w) 78 100 r = r := z_id rfl
theorem bl_78 : a_ln (b_h m j w) 78 = 6 := z_id rfl
theorem bx_78 (h : i < 6) : a_ix (b_h m j w) 78 (nI i) r = r := z_ix (h := b_h m j w) (a := 78) h (Nat.le_of_ble_eq_true rfl)
theorem bc_79 : a_kc (b_h m j w) 79 100 r = r := z_id rfl
theorem bl_79 : a_ln (b_h m j w) 79 = 6 := z_id rfl
theorem bx_79 (h : i < 6) : a_ix (b_h m j w) 79 (nI i) r = r := z_ix (h := b_h m j w) (a := 79) h (Nat.le_of_ble_eq_true rfl)
theorem bc_80 : a_kc (b_h m j w) 80 100 r = r := z_id rfl
theorem bl_80 : a_ln (b_h m j w) 80 = 48 := z_id rfl
theorem bx_80 (h : i < 48) : a_ix (b_h m j w) 80 (nI i) r = r := z_ix (h := b_h m j w) (a := 80) h (Nat.le_of_ble_eq_true rfl)
theorem bc_81 : a_kc (b_h m j w) 81 100 r = r := z_id rfl
theorem bl_81 : a_ln (b_h m j w) 81 = 10 := z_id rfl
theorem bx_81 (h : i < 10) : a_ix (b_h m j w) 81 (nI i) r = r := z_ix (h := b_h m j w) (a := 81) h (Nat.le_of_ble_eq_true rfl)
theorem bc_82 : a_kc (b_h m j w) 82 100 r = r := z_id rfl
theorem bl_82 : a_ln (b_h m j w) 82 = 10 := z_id rfl
theorem bx_82 (h : i < 10) : a_ix (b_h m j w) 82 (nI i) r = r := z_ix (h := b_h m j w) (a := 82) h (Nat.le_of_ble_eq_true rfl)
theorem bc_83 : a_kc (b_h m j w) 83 100 r = r := z_id rfl
theorem bl_83 : a_ln (b_h m j w) 83 = 10 := z_id rfl
theorem bx_83 (h : i < 10) : a_ix (b_h m j w) 83 (nI i) r = r := z_ix (h := b_h m j w) (a := 83) h (Nat.le_of_ble_eq_true rfl)
theorem bc_84 : a_kc (b_h m j w) 84 100 r = r := z_id rfl
theorem bl_84 : a_ln (b_h m j w) 84 = 10 := z_id rfl
theorem bx_84 (h : i < 10) : a_ix (b_h m j w) 84 (nI i) r = r := z_ix (h := b_h m j w) (a := 84) h (Nat.le_of_ble_eq_true rfl)
theorem bc_85 : a_kc (b_h m j w) 85 100 r = r := z_id rfl
theorem bl_85 : a_ln (b_h m j w) 85 = 10 := z_id rfl
theorem bx_85 (h : i < 10) : a_ix (b_h m j w) 85 (nI i) r = r := z_ix (h := b_h m j w) (a := 85) h (Nat.le_of_ble_eq_true rfl)
theorem bc_86 : a_kc (b_h m j w) 86 100 r = r := z_id rfl
theorem bl_86 : a_ln (b_h m j w) 86 = 10 := z_id rfl
theorem bx_86 (h : i < 10) : a_ix (b_h m j w) 86 (nI i) r = r := z_ix (h := b_h m j w) (a := 86) h (Nat.le_of_ble_eq_true rfl)
theorem bc_87 : a_kc (b_h m j w) 87 100 r = r := z_id rfl
theorem bl_87 : a_ln (b_h m j w) 87 = 60 := z_id rfl
theorem bx_87 (h : i < 60) : a_ix (b_h m j w) 87 (nI i) r = r := z_ix (h := b_h m j w) (a := 87) h (Nat.le_of_ble_eq_true rfl)
theorem bc_88 : a_kc (b_h m j w) 88 0 r = r := z_id rfl
theorem br_88_0 {f : Nat → A_R} : a_fo (a_rf (b_h m j w) 88 0) f = f 4 := z_id rfl
theorem br_88_2 {f : Nat → A_R} : a_fo (a_rf (b_h m j w) 88 2) f = f 89 := z_id rfl
theorem br_88_3 {f : Nat → A_R} : a_fo (a_rf (b_h m j w) 88 3) f = f 90 := z_id rfl
theorem br_88_4 {f : Nat → A_R} : a_fo (a_rf (b_h m j w) 88 4) f = f 91 := z_id rfl
theorem br_88_5 {f : Nat → A_R} : a_fo (a_rf (b_h m j w) 88 5) f = f 92 := z_id rfl
theorem br_88_6 {f : Nat → A_R} : a_fo (a_rf (b_h m j w) 88 6) f = f 93 := z_id rfl
theorem br_88_7 {f : Nat → A_R} : a_fo (a_rf (b_h m j w) 88 7) f = f 94 := z_id rfl
theorem br_88_8 {f : Nat → A_R} : a_fo (a_rf (b_h m j w) 88 8) f = f 95 := z_id rfl
theorem br_88_9 {f : Nat → A_R} : a_fo (a_rf (b_h m j w) 88 9) f = f 96 := z_id rfl
theorem br_88_10 {f : Nat → A_R} : a_fo (a_rf (b_h m j w) 88 10) f = f 97 := z_id rfl
theorem br_88_11 {f : Nat → A_R} : a_fo (a_rf (b_h m j w) 88 11) f = f 98 := z_id rfl
theorem br_88_12 {f : Nat → A_R} : a_fo (a_rf (b_h m j w) 88 12) f = f 99 := z_id rfl
theorem bc_89 : a_kc (b_h m j w) 89 100 r = r := z_id rfl
theorem bl_89 : a_ln (b_h m j w) 89 = 6 := z_id rfl
theorem bx_89 (h : i < 6) : a_ix (b_h m j w) 89 (nI i) r = r := z_ix (h := b_h m j w) (a := 89) h (Nat.le_of_ble_eq_true rfl)
theorem bc_90 : a_kc (b_h m j w) 90 100 r = r := z_id rfl
theorem bl_90 : a_ln (b_h m j w) 90 = 6 := z_id rfl
theorem bx_90 (h : i < 6) : a_ix (b_h m j w) 90 (nI i) r = r := z_ix (h := b_h m j w) (a := 90) h (Nat.le_of_ble_eq_true rfl)
theorem bc_91 : a_kc (b_h m j w) 91 100 r = r := z_id rfl
theorem bl_91 : a_ln (b_h m j w) 91 = 6 := z_id rfl
theorem bx_91 (h : i < 6) : a_ix (b_h m j w) 91 (nI i) r = r := z_ix (h := b_h m j w) (a := 91) h (Nat.le_of_ble_eq_true rfl)
theorem bc_92 : a_kc (b_h m j w) 92 100 r = r := z_id rfl
theorem bl_92 : a_ln (b_h m j w) 92 = 48 := z_id rfl
theorem bx_92 (h : i < 48) : a_ix (b_h m j w) 92 (nI i) r = r := z_ix (h := b_h m j w) (a := 92) h (Nat.le_of_ble_eq_true rfl)
theorem bc_93 : a_kc (b_h m j w) 93 100 r = r := z_id rfl
theorem bl_93 : a_ln (b_h m j w) 93 = 10 := z_id rfl
theorem bx_93 (h : i < 10) : a_ix (b_h m j w) 93 (nI i) r = r := z_ix (h := b_h m j w) (a := 93) h (Nat.le_of_ble_eq_true rfl)
theorem bc_94 : a_kc (b_h m j w) 94 100 r = r := z_id rfl
theorem bl_94 : a_ln (b_h m j w) 94 = 10 := z_id rfl
theorem bx_94 (h : i < 10) : a_ix (b_h m j w) 94 (nI i) r = r := z_ix (h := b_h m j w) (a := 94) h (Nat.le_of_ble_eq_true rfl)
theorem bc_95 : a_kc (b_h m j w) 95 100 r = r := z_id rfl
theorem bl_95 : a_ln (b_h m j w) 95 = 10 := z_id rfl
theorem bx_95 (h : i < 10) : a_ix (b_h m j w) 95 (nI i) r = r := z_ix (h := b_h m j w) (a := 95) h (Nat.le_of_ble_eq_true rfl)
theorem bc_96 : a_kc (b_h m j w) 96 100 r = r := z_id rfl
theorem bl_96 : a_ln (b_h m j w) 96 = 10 := z_id rfl
theorem bx_96 (h : i < 10) : a_ix (b_h m j w) 96 (nI i) r = r := z_ix (h := b_h m j w) (a := 96) h (Nat.le_of_ble_eq_true rfl)
theorem bc_97 : a_kc (b_h m j w) 97 100 r = r := z_id rfl
theorem bl_97 : a_ln (b_h m j w) 97 = 10 := z_id rfl
theorem bx_97 (h : i < 10) : a_ix (b_h m j w) 97 (nI i) r = r := z_ix (h := b_h m j w) (a := 97) h (Nat.le_of_ble_eq_true rfl)
theorem bc_98 : a_kc (b_h m j w) 98 100 r = r := z_id rfl
theorem bl_98 : a_ln (b_h m j w) 98 = 10 := z_id rfl
theorem bx_98 (h : i < 10) : a_ix (b_h m j w) 98 (nI i) r = r := z_ix (h := b_h m j w) (a := 98) h (Nat.le_of_ble_eq_true rfl)
theorem bc_99 : a_kc (b_h m j w) 99 100 r = r := z_id rfl
theorem bl_99 : a_ln (b_h m j w) 99 = 60 := z_id rfl
theorem bx_99 (h : i < 60) : a_ix (b_h m j w) 99 (nI i) r = r := z_ix (h := b_h m j w) (a := 99) h (Nat.le_of_ble_eq_true rfl)
theorem bc_100 : a_kc (b_h m j w) 100 0 r = r := z_id rfl
theorem br_100_0 {f : Nat → A_R} : a_fo (a_rf (b_h m j w) 100 0) f = f 4 := z_id rfl
theorem br_100_2 {f : Nat → A_R} : a_fo (a_rf (b_h m j w) 100 2) f = f 101 := z_id rfl
theorem br_100_3 {f : Nat → A_R} : a_fo (a_rf (b_h m j w) 100 3) f = f 102 := z_id rfl
theorem br_100_4 {f : Nat → A_R} : a_fo (a_rf (b_h m j w) 100 4) f = f 103 := z_id rfl
theorem br_100_5 {f : Nat → A_R} : a_fo (a_rf (b_h m j w) 100 5) f = f 104 := z_id rfl
theorem br_100_6 {f : Nat → A_R} : a_fo (a_rf (b_h m j w) 100 6) f = f 105 := z_id rfl
theorem br_100_7 {f : Nat → A_R} : a_fo (a_rf (b_h m j w) 100 7) f = f 106 := z_id rfl
theorem br_100_8 {f : Nat → A_R} : a_fo (a_rf (b_h m j w) 100 8) f = f 107 := z_id rfl
theorem br_100_9 {f : Nat → A_R} : a_fo (a_rf (b_h m j w) 100 9) f = f 108 := z_id rfl
theorem br_100_10 {f : Nat → A_R} : a_fo (a_rf (b_h m j w) 100 10) f = f 109 := z_id rfl
theorem br_100_11 {f : Nat → A_R} : a_fo (a_rf (b_h m j w) 100 11) f = f 110 := z_id rfl
theorem br_100_12 {f : Nat → A_R} : a_fo (a_rf (b_h m j w) 100 12) f = f 111 := z_id rfl
theorem bc_101 : a_kc (b_h m j w) 101 100 r = r := z_id rfl
theorem bl_101 : a_ln (b_h m j w) 101 = 6 := z_id rfl
theorem bx_101 (h : i < 6) : a_ix (b_h m j w) 101 (nI i) r = r := z_ix (h := b_h m j w) (a := 101) h (Nat.le_of_ble_eq_true rfl)
theorem bc_102 : a_kc (b_h m j w) 102 100 r = r := z_id rfl
theorem bl_102 : a_ln (b_h m j w) 102 = 6 := z_id rfl
theorem bx_102 (h : i < 6) : a_ix (b_h m j w) 102 (nI i) r = r := z_ix (h := b_h m j w) (a := 102) h (Nat.le_of_ble_eq_true rfl)
theorem bc_103 : a_kc (b_h m j w) 103 100 r = r := z_id rfl
theorem bl_103 : a_ln (b_h m j w) 103 = 6 := z_id rfl
theorem bx_103 (h : i < 6) : a_ix (b_h m j w) 103 (nI i) r = r := z_ix (h := b_h m j w) (a := 103) h (Nat.le_of_ble_eq_true rfl)
theorem bc_104 : a_kc (b_h m j w) 104 100 r = r := z_id rfl
theorem bl_104 : a_ln (b_h m j w) 104 = 48 := z_id rfl
theorem bx_104 (h : i < 48) : a_ix (b_h m j w) 104 (nI i) r = r := z_ix (h := b_h m j w) (a := 104) h (Nat.le_of_ble_eq_true rfl)
theorem bc_105 : a_kc (b_h m j w) 105 100 r = r := z_id rfl
theorem bl_105 : a_ln (b_h m j w) 105 = 10 := z_id rfl
theorem bx_105 (h : i < 10) : a_ix (b_h m j w) 105 (nI i) r = r := z_ix (h := b_h m j w) (a := 105) h (Nat.le_of_ble_eq_true rfl)
theorem bc_106 : a_kc (b_h m j w) 106 100 r = r := z_id rfl
theorem bl_106 : a_ln (b_h m j w) 106 = 10 := z_id rfl
theorem bx_106 (h : i < 10) : a_ix (b_h m j w) 106 (nI i) r = r := z_ix (h := b_h m j w) (a := 106) h (Nat.le_of_ble_eq_true rfl)
theorem bc_107 : a_kc (b_h m j w) 107 100 r = r := z_id rfl
theorem bl_107 : a_ln (b_h m j w) 107 = 10 := z_id rfl
theorem bx_107 (h : i < 10) : a_ix (b_h m j w) 107 (nI i) r = r := z_ix (h := b_h m j w) (a := 107) h (Nat.le_of_ble_eq_true rfl)
theorem bc_108 : a_kc (b_h m j w) 108 100 r = r := z_id rfl
theorem bl_108 : a_ln (b_h m j w) 108 = 10 := z_id rfl
theorem bx_108 (h : i < 10) : a_ix (b_h m j w) 108 (nI i) r = r := z_ix (h := b_h m j w) (a := 108) h (Nat.le_of_ble_eq_true rfl)
theorem bc_109 : a_kc (b_h m j w) 109 100 r = r := z_id rfl
theorem bl_109 : a_ln (b_h m j w) 109 = 10 := z_id rfl
theorem bx_109 (h : i < 10) : a_ix (b_h m j w) 109 (nI i) r = r := z_ix (h := b_h m j w) (a := 109) h (Nat.le_of_ble_eq_true rfl)
theorem bc_110 : a_kc (b_h m j w) 110 100 r = r := z_id rfl
theorem bl_110 : a_ln (b_h m j w) 110 = 10 := z_id rfl
theorem bx_110 (h : i < 10) : a_ix (b_h m j w) 110 (nI i) r = r := z_ix (h := b_h m j w) (a := 110) h (Nat.le_of_ble_eq_true rfl)
theorem bc_111 : a_kc (b_h m j w) 111 100 r = r := z_id rfl
theorem bl_111 : a_ln (b_h m j w) 111 = 60 := z_id rfl
theorem bx_111 (h : i < 60) : a_ix (b_h m j w) 111 (nI i) r = r := z_ix (h := b_h m j w) (a := 111) h (Nat.le_of_ble_eq_true rfl)
theorem bc_112 : a_kc (b_h m j w) 112 0 r = r := z_id rfl
theorem br_112_0 {f : Nat → A_R} : a_fo (a_rf (b_h m j w) 112 0) f = f 4 := z_id rfl
theorem br_112_2 {f : Nat → A_R} : a_fo (a_rf (b_h m j w) 112 2) f = f 113 := z_id rfl
theorem br_112_3 {f : Nat → A_R} : a_fo (a_rf (b_h m j w) 112 3) f = f 114 := z_id rfl
theorem br_112_4 {f : Nat → A_R} : a_fo (a_rf (b_h m j w) 112 4) f = f 115 := z_id rfl
theorem br_112_5 {f : Nat → A_R} : a_fo (a_rf (b_h m j w) 112 5) f = f 116 := z_id rfl
theorem br_112_6 {f : Nat → A_R} : a_fo (a_rf (b_h m j w) 112 6) f = f 117 := z_id rfl
theorem br_112_7 {f : Nat → A_R} : a_fo (a_rf (b_h m j w) 112 7) f = f 118 := z_id rfl
theorem br_112_8 {f : Nat → A_R} : a_fo (a_rf (b_h m j w) 112 8) f = f 119 := z_id rfl
theorem br_112_9 {f : Nat → A_R} : a_fo (a_rf (b_h m j w) 112 9) f = f 120 := z_id rfl
theorem br_112_10 {f : Nat → A_R} : a_fo (a_rf (b_h m j w) 112 10) f = f 121 := z_id rfl
theorem br_112_11 {f : Nat → A_R} : a_fo (a_rf (b_h m j w) 112 11) f = f 122 := z_id rfl
theorem br_112_12 {f : Nat → A_R} : a_fo (a_rf (b_h m j w) 112 12) f = f 123 := z_id rfl
theorem bc_113 : a_kc (b_h m j w) 113 100 r = r := z_id rfl
theorem bl_113 : a_ln (b_h m j w) 113 = 6 := z_id rfl
theorem bx_113 (h : i < 6) : a_ix (b_h m j w) 113 (nI i) r = r := z_ix (h := b_h m j w) (a := 113) h (Nat.le_of_ble_eq_true rfl)
theorem bc_114 : a_kc (b_h m j w) 114 100 r = r := z_id rfl
theorem bl_114 : a_ln (b_h m j w) 114 = 6 := z_id rfl
theorem bx_114 (h : i < 6) : a_ix (b_h m j w) 114 (nI i) r = r := z_ix (h := b_h m j w) (a := 114) h (Nat.le_of_ble_eq_true rfl)
theorem bc_115 : a_kc (b_h m j w) 115 100 r = r := z_id rfl
theorem bl_115 : a_ln (b_h m j w) 115 = 6 := z_id rfl
theorem bx_115 (h : i < 6) : a_ix (b_h m j w) 115 (nI i) r = r := z_ix (h := b_h m j w) (a := 115) h (Nat.le_of_ble_eq_true rfl)
theorem bc_116 : a_kc (b_h m j w) 116 100 r = r := z_id rfl
theorem bl_116 : a_ln (b_h m j w) 116 = 48 := z_id rfl
theorem bx_116 (h : i < 48) : a_ix (b_h m j w) 116 (nI i) r = r := z_ix (h := b_h m j w) (a := 116) h (Nat.le_of_ble_eq_true rfl)
theorem bc_117 : a_kc (b_h m j w) 117 100 r = r := z_id rfl
theorem bl_117 : a_ln (b_h m j w) 117 = 10 := z_id rfl
theorem bx_117 (h : i < 10) : a_ix (b_h m j w) 117 (nI i) r = r := z_ix (h := b_h m j w) (a := 117) h (Nat.le_of_ble_eq_true rfl)
theorem bc_118 : a_kc (b_h m j w) 118 100 r = r := z_id rfl
theorem bl_118 : a_ln (b_h m j w) 118 = 10 := z_id rfl
theorem bx_118 (h : i < 10) : a_ix (b_h m j w) 118 (nI i) r = r := z_ix (h := b_h m j w) (a := 118) h (Nat.le_of_ble_eq_true rfl)
theorem bc_119 : a_kc (b_h m j w) 119 100 r = r := z_id rfl
theorem bl_119 : a_ln (b_h m j w) 119 = 10 := z_id rfl
theorem bx_119 (h : i < 10) : a_ix (b_h m j w) 119 (nI i) r = r := z_ix (h := b_h m j w) (a := 119) h (Nat.le_of_ble_eq_true rfl)
theorem bc_120 : a_kc (b_h m j w) 120 100 r = r := z_id rfl
theorem bl_120 : a_ln (b_h m j w) 120 = 10 := z_id rfl
theorem bx_120 (h : i < 10) : a_ix (b_h m j w) 120 (nI i) r = r := z_ix (h := b_h m j w) (a := 120) h (Nat.le_of_ble_eq_true rfl)
theorem bc_121 : a_kc (b_h m j w) 121 100 r = r := z_id rfl
theorem bl_121 : a_ln (b_h m j w) 121 = 10 := z_id rfl
theorem bx_121 (h : i < 10) : a_ix (b_h m j w) 121 (nI i) r = r := z_ix (h := b_h m j w) (a := 121) h (Nat.le_of_ble_eq_true rfl)
theorem bc_122 : a_kc (b_h m j w) 122 100 r = r := z_id rfl
theorem bl_122 : a_ln (b_h m j w) 122 = 10 := z_id rfl
theorem bx_122 (h : i < 10) : a_ix (b_h m j w) 122 (nI i) r = r := z_ix (h := b_h m j w) (a := 122) h (Nat.le_of_ble_eq_true rfl)
theorem bc_123 : a_kc (b_h m j w) 123 100 r = r := z_id rfl
theorem bl_123 : a_ln (b_h m j w) 123 = 60 := z_id rfl
theorem bx_123 (h : i < 60) : a_ix (b_h m j w) 123 (nI i) r = r := z_ix (h := b_h m j w) (a := 123) h (Nat.le_of_ble_eq_true rfl)
theorem bc_124 : a_kc (b_h m j w) 124 0 r = r := z_id rfl
theorem br_124_0 {f : Nat → A_R} : a_fo (a_rf (b_h m j w) 124 0) f = f 4 := z_id rfl
theorem br_124_2 {f : Nat → A_R} : a_fo (a_rf (b_h m j w) 124 2) f = f 125 := z_id rfl
theorem br_124_3 {f : Nat → A_R} : a_fo (a_rf (b_h m j w) 124 3) f = f 126 := z_id rfl
theorem br_124_4 {f : Nat → A_R} : a_fo (a_rf (b_h m j w) 124 4) f = f 127 := z_id rfl
theorem br_124_5 {f : Nat → A_R} : a_fo (a_rf (b_h m j w) 124 5) f = f 128 := z_id rfl
theorem br_124_6 {f : Nat → A_R} : a_fo (a_rf (b_h m j w) 124 6) f = f 129 := z_id rfl
theorem br_124_7 {f : Nat → A_R} : a_fo (a_rf (b_h m j w) 124 7) f = f 130 := z_id rfl
theorem br_124_8 {f : Nat → A_R} : a_fo (a_rf (b_h m j w) 124 8) f = f 131 := z_id rfl
theorem br_124_9 {f : Nat → A_R} : a_fo (a_rf (b_h m j w) 124 9) f = f 132 := z_id rfl
theorem br_124_10 {f : Nat → A_R} : a_fo (a_rf (b_h m j w) 124 10) f = f 133 := z_id rfl
theorem br_124_11 {f : Nat → A_R} : a_fo (a_rf (b_h m j w) 124 11) f = f 134 := z_id rfl
theorem br_124_12 {f : Nat → A_R} : a_fo (a_rf (b_h m j w) 124 12) f = f 135 := z_id rfl
theorem bc_125 : a_kc (b_h m j w) 125 100 r = r := z_id rfl
theorem bl_125 : a_ln (b_h m j w) 125 = 6 := z_id rfl
theorem bx_125 (h : i < 6) : a_ix (b_h m j w) 125 (nI i) r = r := z_ix (h := b_h m j w) (a := 125) h (Nat.le_of_ble_eq_true rfl)
theorem bc_126 : a_kc (b_h m j w) 126 100 r = r := z_id rfl
theorem bl_126 : a_ln (b_h m j w) 126 = 6 := z_id rfl
theorem bx_126 (h : i < 6) : a_ix (b_h m j w) 126 (nI i) r = r := z_ix (h := b_h m j w) (a := 126) h (Nat.le_of_ble_eq_true rfl)
theorem bc_127 : a_kc (b_h m j w) 127 100 r = r := z_id rfl
theorem bl_127 : a_ln (b_h m j w) 127 = 6 := z_id rfl
theorem bx_127 (h : i < 6) : a_ix (b_h m j w) 127 (nI i) r = r := z_ix (h := b_h m j w) (a := 127) h (Nat.le_of_ble_eq_true rfl)
theorem bc_128 : a_kc (b_h m j w) 128 100 r = r := z_id rfl
theorem bl_128 : a_ln (b_h m j w) 128 = 48 := z_id rfl
theorem bx_128 (h : i < 48) : a_ix (b_h m j w) 128 (nI i) r = r := z_ix (h := b_h m j w) (a := 128) h (Nat.le_of_ble_eq_true rfl)
theorem bc_129 : a_kc (b_h m j w) 129 100 r = r := z_id rfl
theorem bl_129 : a_ln (b_h m j w) 129 = 10 := z_id rfl
theorem bx_129 (h : i < 10) : a_ix (b_h m j w) 129 (nI i) r = r := z_ix (h := b_h m j w) (a := 129) h (Nat.le_of_ble_eq_true rfl)
theorem bc_130 : a_kc (b_h m j w) 130 100 r = r := z_id rfl
theorem bl_130 : a_ln (b_h m j w) 130 = 10 := z_id rfl
theorem bx_130 (h : i < 10) : a_ix (b_h m j w) 130 (nI i) r = r := z_ix (h := b_h m j w) (a := 130) h (Nat.le_of_ble_eq_true rfl)
theorem bc_131 : a_kc (b_h m j w) 131 100 r = r := z_id rfl
theorem bl_131 : a_ln (b_h m j w) 131 = 10 := z_id rfl
theorem bx_131 (h : i < 10) : a_ix (b_h m j w) 131 (nI i) r = r := z_ix (h := b_h m j w) (a := 131) h (Nat.le_of_ble_eq_true rfl)
theorem bc_132 : a_kc (b_h m j w) 132 100 r = r := z_id rfl
theorem bl_132 : a_ln (b_h m j w) 132 = 10 := z_id rfl
theorem bx_132 (h : i < 10) : a_ix (b_h m j w) 132 (nI i) r = r := z_ix (h := b_h m j w) (a := 132) h (Nat.le_of_ble_eq_true rfl)
theorem bc_133 : a_kc (b_h m j w) 133 100 r = r := z_id rfl
theorem bl_133 : a_ln (b_h m j w) 133 = 10 := z_id rfl
theorem bx_133 (h : i < 10) : a_ix (b_h m j w) 133 (nI i) r = r := z_ix (h := b_h m j w) (a := 133) h (Nat.le_of_ble_eq_true rfl)
theorem bc_134 : a_kc (b_h m j w) 134 100 r = r := z_id rfl
theorem bl_134 : a_ln (b_h m j w) 134 = 10 := z_id rfl
theorem bx_134 (h : i < 10) : a_ix (b_h m j w) 134 (nI i) r = r := z_ix (h := b_h m j w) (a := 134) h (Nat.le_of_ble_eq_true rfl)
theorem bc_135 : a_kc (b_h m j w) 135 100 r = r := z_id rfl
theorem bl_135 : a_ln (b_h m j w) 135 = 60 := z_id rfl
theorem bx_135 (h : i < 60) : a_ix (b_h m j w) 135 (nI i) r = r := z_ix (h := b_h m j w) (a := 135) h (Nat.le_of_ble_eq_true rfl)
theorem bc_136 : a_kc (b_h m j w) 136 0 r = r := z_id rfl
theorem br_136_0 {f : Nat → A_R} : a_fo (a_rf (b_h m j w) 136 0) f = f 4 := z_id rfl
theorem br_136_2 {f : Nat → A_R} : a_fo (a_rf (b_h m j w) 136 2) f = f 137 := z_id rfl
theorem br_136_3 {f : Nat → A_R} : a_fo (a_rf (b_h m j w) 136 3) f = f 138 := z_id rfl
theorem br_136_4 {f : Nat → A_R} : a_fo (a_rf (b_h m j w) 136 4) f = f 139 := z_id rfl
theorem br_136_5 {f : Nat → A_R} : a_fo (a_rf (b_h m j w) 136 5) f = f 140 := z_id rfl
theorem br_136_6 {f : Nat → A_R} : a_fo (a_rf (b_h m j w) 136 6) f = f 141 := z_id rfl
theorem br_136_7 {f : Nat → A_R} : a_fo (a_rf (b_h m j w) 136 7) f = f 142 := z_id rfl
theorem br_136_8 {f : Nat → A_R} : a_fo (a_rf (b_h m j w) 136 8) f = f 143 := z_id rfl
theorem br_136_9 {f : Nat → A_R} : a_fo (a_rf (b_h m j w) 136 9) f = f 144 := z_id rfl
theorem br_136_10 {f : Nat → A_R} : a_fo (a_rf (b_h m j w) 136 10) f = f 145 := z_id rfl
theorem br_136_11 {f : Nat → A_R} : a_fo (a_rf (b_h m j w) 136 11) f = f 146 := z_id rfl
theorem br_136_12 {f : Nat → A_R} : a_fo (a_rf (b_h m j w) 136 12) f = f 147 := z_id rfl
theorem bc_137 : a_kc (b_h m j w) 137 100 r = r := z_id rfl
theorem bl_137 : a_ln (b_h m j w) 137 = 6 := z_id rfl
theorem bx_137 (h : i < 6) : a_ix (b_h m j w) 137 (nI i) r = r := z_ix (h := b_h m j w) (a := 137) h (Nat.le_of_ble_eq_true rfl)
theorem bc_138 : a_kc (b_h m j w) 138 100 r = r := z_id rfl
theorem bl_138 : a_ln (b_h m j w) 138 = 6 := z_id rfl
theorem bx_138 (h : i < 6) : a_ix (b_h m j w) 138 (nI i) r = r := z_ix (h := b_h m j w) (a := 138) h (Nat.le_of_ble_eq_true rfl)
theorem bc_139 : a_kc (b_h m j w) 139 100 r = r := z_id rfl
theorem bl_139 : a_ln (b_h m j w) 139 = 6 := z_id rfl
theorem bx_139 (h : i < 6) : a_ix (b_h m j w) 139 (nI i) r = r := z_ix (h := b_h m j w) (a := 139) h (Nat.le_of_ble_eq_true rfl)
theorem bc_140 : a_kc (b_h m j w) 140 100 r = r := z_id rfl
theorem bl_140 : a_ln (b_h m j w) 140 = 48 := z_id rfl
theorem bx_140 (h : i < 48) : a_ix (b_h m j w) 140 (nI i) r = r := z_ix (h := b_h m j w) (a := 140) h (Nat.le_of_ble_eq_true rfl)
theorem bc_141 : a_kc (b_h m j w) 141 100 r = r := z_id rfl
theorem bl_141 : a_ln (b_h m j w) 141 = 10 := z_id rfl
theorem bx_141 (h : i < 10) : a_ix (b_h m j w) 141 (nI i) r = r := z_ix (h := b_h m j w) (a := 141) h (Nat.le_of_ble_eq_true rfl)
theorem bc_142 : a_kc (b_h m j w) 142 100 r = r := z_id rfl
theorem bl_142 : a_ln (b_h m j w) 142 = 10 := z_id rfl
theorem bx_142 (h : i < 10) : a_ix (b_h m j w) 142 (nI i) r = r := z_ix (h := b_h m j w) (a := 142) h (Nat.le_of_ble_eq_true rfl)
theorem bc_143 : a_kc (b_h m j w) 143 100 r = r := z_id rfl
theorem bl_143 : a_ln (b_h m j w) 143 = 10 := z_id rfl
theorem bx_143 (h : i < 10) : a_ix (b_h m j w) 143 (nI i) r = r := z_ix (h := b_h m j w) (a := 143) h (Nat.le_of_ble_eq_true rfl)
theorem bc_144 : a_kc (b_h m j w) 144 100 r = r := z_id rfl
theorem bl_144 : a_ln (b_h m j w) 144 = 10 := z_id rfl
theorem bx_144 (h : i < 10) : a_ix (b_h m j w) 144 (nI i) r = r := z_ix (h := b_h m j w) (a := 144) h (Nat.le_of_ble_eq_true rfl)
theorem bc_145 : a_kc (b_h m j w) 145 100 r = r := z_id rfl
theorem bl_145 : a_ln (b_h m j w) 145 = 10 := z_id rfl
theorem bx_145 (h : i < 10) : a_ix (b_h m j w) 145 (nI i) r = r := z_ix (h := b_h m j w) (a := 145) h (Nat.le_of_ble_eq_true rfl)
theorem bc_146 : a_kc (b_h m j w) 146 100 r = r := z_id rfl
theorem bl_146 : a_ln (b_h m j w) 146 = 10 := z_id rfl
theorem bx_146 (h : i < 10) : a_ix (b_h m j w) 146 (nI i) r = r := z_ix (h := b_h m j w) (a := 146) h (Nat.le_of_ble_eq_true rfl)
theorem bc_147 : a_kc (b_h m j w) 147 100 r = r := z_id rfl
theorem bl_147 : a_ln (b_h m j w) 147 = 60 := z_id rfl
theorem bx_147 (h : i < 60) : a_ix (b_h m j w) 147 (nI i) r = r := z_ix (h := b_h m j w) (a := 147) h (Nat.le_of_ble_eq_true rfl)
theorem bc_148 : a_kc (b_h m j w) 148 9 r = r := z_id rfl
theorem br_148_2 {f : Nat → A_R} : a_fo (a_rf (b_h m j w) 148 2) f = f 149 := z_id rfl
theorem br_148_3 {f : Nat → A_R} : a_fo (a_rf (b_h m j w) 148 3) f = f 150 := z_id rfl
theorem br_148_4 {f : Nat → A_R} : a_fo (a_rf (b_h m j w) 148 4) f = f 151 := z_id rfl
theorem bc_149 : a_kc (b_h m j w) 149 100 r = r := z_id rfl
theorem bl_149 : a_ln (b_h m j w) 149 = 40 := z_id rfl
theorem bx_149 (h : i < 40) : a_ix (b_h m j w) 149 (nI i) r = r := z_ix (h := b_h m j w) (a := 149) h (Nat.le_of_ble_eq_true rfl)
theorem bc_150 : a_kc (b_h m j w) 150 100 r = r := z_id rfl
theorem bl_150 : a_ln (b_h m j w) 150 = 40 := z_id rfl
theorem bx_150 (h : i < 40) : a_ix (b_h m j w) 150 (nI i) r = r := z_ix (h := b_h m j w) (a := 150) h (Nat.le_of_ble_eq_true rfl)
theorem bc_151 : a_kc (b_h m j w) 151 100 r = r := z_id rfl
theorem bl_151 : a_ln (b_h m j w) 151 = 40 := z_id rfl
theorem bx_151 (h : i < 40) : a_ix (b_h m j w) 151 (nI i) r = r := z_ix (h := b_h m j w) (a := 151) h (Nat.le_of_ble_eq_true rfl)
theorem bc_152 : a_kc (b_h m j w) 152 9 r = r := z_id rfl
theorem br_152_2 {f : Nat → A_R} : a_fo (a_rf (b_h m j w) 152 2) f = f 153 := z_id rfl
theorem br_152_3 {f : Nat → A_R} : a_fo (a_rf (b_h m j w) 152 3) f = f 154 := z_id rfl
theorem br_152_4 {f : Nat → A_R} : a_fo (a_rf (b_h m j w) 152 4) f = f 155 := z_id rfl
theorem bc_153 : a_kc (b_h m j w) 153 100 r = r := z_id rfl
theorem bl_153 : a_ln (b_h m j w) 153 = 40 := z_id rfl
theorem bx_153 (h : i < 40) : a_ix (b_h m j w) 153 (nI i) r = r := z_ix (h := b_h m j w) (a := 153) h (Nat.le_of_ble_eq_true rfl)
theorem bc_154 : a_kc (b_h m j w) 154 100 r = r := z_id rfl
theorem bl_154 : a_ln (b_h m j w) 154 = 40 := z_id rfl
theorem bx_154 (h : i < 40) : a_ix (b_h m j w) 154 (nI i) r = r := z_ix (h := b_h m j w) (a := 154) h (Nat.le_of_ble_eq_true rfl)
theorem bc_155 : a_kc (b_h m j w) 155 100 r = r := z_id rfl
theorem bl_155 : a_ln (b_h m j w) 155 = 40 := z_id rfl
theorem bx_155 (h : i < 40) : a_ix (b_h m j w) 155 (nI i) r = r := z_ix (h := b_h m j w) (a := 155) h (Nat.le_of_ble_eq_true rfl)
theorem bc_156 : a_kc (b_h m j w) 156 4 r = r := z_id rfl
theorem br_156_1 {f : Nat → A_R} : a_fo (a_rf (b_h m j w) 156 1) f = f 157 := z_id rfl
theorem br_156_2 {f : Nat → A_R} : a_fo (a_rf (b_h m j w) 156 2) f = f 158 := z_id rfl
theorem br_156_3 {f : Nat → A_R} : a_fo (a_rf (b_h m j w) 156 3) f = f 159 := z_id rfl
theorem br_156_4 {f : Nat → A_R} : a_fo (a_rf (b_h m j w) 156 4) f = f 160 := z_id rfl
theorem br_156_5 {f : Nat → A_R} : a_fo (a_rf (b_h m j w) 156 5) f = f 161 := z_id rfl
theorem bc_157 : a_kc (b_h m j w) 157 100 r = r := z_id rfl
theorem bl_157 : a_ln (b_h m j w) 157 = 40 := z_id rfl
theorem bx_157 (h : i < 40) : a_ix (b_h m j w) 157 (nI i) r = r := z_ix (h := b_h m j w) (a := 157) h (Nat.le_of_ble_eq_true rfl)
theorem bc_158 : a_kc (b_h m j w) 158 100 r = r := z_id rfl
theorem bl_158 : a_ln (b_h m j w) 158 = 40 := z_id rfl
theorem bx_158 (h : i < 40) : a_ix (b_h m j w) 158 (nI i) r = r := z_ix (h := b_h m j w) (a := 158) h (Nat.le_of_ble_eq_true rfl)
theorem bc_159 : a_kc (b_h m j w) 159 100 r = r := z_id rfl
theorem bl_159 : a_ln (b_h m j w) 159 = 40 := z_id rfl
theorem bx_159 (h : i < 40) : a_ix (b_h m j w) 159 (nI i) r = r := z_ix (h := b_h m j w) (a := 159) h (Nat.le_of_ble_eq_true rfl)
theorem bc_160 : a_kc (b_h m j w) 160 100 r = r := z_id rfl
theorem bl_160 : a_ln (b_h m j w) 160 = 40 := z_id rfl
theorem bx_160 (h : i < 40) : a_ix (b_h m j w) 160 (nI i) r = r := z_ix (h := b_h m j w) (a := 160) h (Nat.le_of_ble_eq_true rfl)
theorem bc_161 : a_kc (b_h m j w) 161 100 r = r := z_id rfl
theorem bl_161 : a_ln (b_h m j w) 161 = 40 := z_id rfl
theorem bx_161 (h : i < 40) : a_ix (b_h m j w) 161 (nI i) r = r := z_ix (h := b_h m j w) (a := 161) h (Nat.le_of_ble_eq_true rfl)
theorem bc_162 : a_kc (b_h m j w) 162 6 r = r := z_id rfl
theorem br_162_0 {f : Nat → A_R} : a_fo (a_rf (b_h m j w) 162 0) f = f 4 := z_id rfl
theorem br_162_1 {f : Nat → A_R} : a_fo (a_rf (b_h m j w) 162 1) f = f 26 := z_id rfl
theorem br_162_2 {f : Nat → A_R} : a_fo (a_rf (b_h m j w) 162 2) f = f 163 := z_id rfl
theorem br_162_4 {f : Nat → A_R} : a_fo (a_rf (b_h m j w) 162 4) f = f 164 := z_id rfl
theorem br_162_5 {f : Nat → A_R} : a_fo (a_rf (b_h m j w) 162 5) f = f 165 := z_id rfl
theorem br_162_6 {f : Nat → A_R} : a_fo (a_rf (b_h m j w) 162 6) f = f 166 := z_id rfl
theorem bc_163 : a_kc (b_h m j w) 163 100 r = r := z_id rfl
theorem bl_163 : a_ln (b_h m j w) 163 = 10 := z_id rfl
theorem bx_163 (h : i < 10) : a_ix (b_h m j w) 163 (nI i) r = r := z_ix (h := b_h m j w) (a := 163) h (Nat.le_of_ble_eq_true rfl)
theorem bc_164 : a_kc (b_h m j w) 164 100 r = r := z_id rfl
theorem bl_164 : a_ln (b_h m j w) 164 = 6 := z_id rfl
theorem bx_164 (h : i < 6) : a_ix (b_h m j w) 164 (nI i) r = r := z_ix (h := b_h m j w) (a := 164) h (Nat.le_of_ble_eq_true rfl)
theorem bc_165 : a_kc (b_h m j w) 165 100 r = r := z_id rfl
theorem bl_165 : a_ln (b_h m j w) 165 = 6 := z_id rfl
theorem bx_165 (h : i < 6) : a_ix (b_h m j w) 165 (nI i) r = r := z_ix (h := b_h m j w) (a := 165) h (Nat.le_of_ble_eq_true rfl)
theorem bc_166 : a_kc (b_h m j w) 166 100 r = r := z_id rfl
theorem bl_166 : a_ln (b_h m j w) 166 = 6 := z_id rfl
theorem bx_166 (h : i < 6) : a_ix (b_h m j w) 166 (nI i) r = r := z_ix (h := b_h m j w) (a := 166) h (Nat.le_of_ble_eq_true rfl)
theorem bc_167 : a_kc (b_h m j w) 167 5 r = r := z_id rfl
theorem br_167_0 {f : Nat → A_R} : a_fo (a_rf (b_h m j w) 167 0) f = f 4 := z_id rfl
theorem br_167_1 {f : Nat → A_R} : a_fo (a_rf (b_h m j w) 167 1) f = f 26 := z_id rfl
theorem br_167_2 {f : Nat → A_R} : a_fo (a_rf (b_h m j w) 167 2) f = f 168 := z_id rfl
theorem br_167_4 {f : Nat → A_R} : a_fo (a_rf (b_h m j w) 167 4) f = f 169 := z_id rfl
theorem br_167_5 {f : Nat → A_R} : a_fo (a_rf (b_h m j w) 167 5) f = f 170 := z_id rfl
theorem br_167_6 {f : Nat → A_R} : a_fo (a_rf (b_h m j w) 167 6) f = f 171 := z_id rfl
theorem bc_168 : a_kc (b_h m j w) 168 100 r = r := z_id rfl
theorem bl_168 : a_ln (b_h m j w) 168 = 8 := z_id rfl
theorem bx_168 (h : i < 8) : a_ix (b_h m j w) 168 (nI i) r = r := z_ix (h := b_h m j w) (a := 168) h (Nat.le_of_ble_eq_true rfl)
theorem bc_169 : a_kc (b_h m j w) 169 100 r = r := z_id rfl
theorem bl_169 : a_ln (b_h m j w) 169 = 8 := z_id rfl
theorem bx_169 (h : i < 8) : a_ix (b_h m j w) 169 (nI i) r = r := z_ix (h := b_h m j w) (a := 169) h (Nat.le_of_ble_eq_true rfl)
theorem bc_170 : a_kc (b_h m j w) 170 100 r = r := z_id rfl
theorem bl_170 : a_ln (b_h m j w) 170 = 1024 := z_id rfl
theorem bx_170 (h : i < 1024) : a_ix (b_h m j w) 170 (nI i) r = r := z_ix (h := b_h m j w) (a := 170) h (Nat.le_of_ble_eq_true rfl)
theorem bc_171 : a_kc (b_h m j w) 171 100 r = r := z_id rfl
theorem bl_171 : a_ln (b_h m j w) 171 = 8 := z_id rfl
theorem bx_171 (h : i < 8) : a_ix (b_h m j w) 171 (nI i) r = r := z_ix (h := b_h m j w) (a := 171) h (Nat.le_of_ble_eq_true rfl)
theorem bc_172 : a_kc (b_h m j w) 172 8 r = r := z_id rfl
theorem br_172_0 {f : Nat → A_R} : a_fo (a_rf (b_h m j w) 172 0) f = f 4 := z_id rfl
theorem br_172_1 {f : Nat → A_R} : a_fo (a_rf (b_h m j w) 172 1) f = f 26 := z_id rfl
theorem br_172_2 {f : Nat → A_R} : a_fo (a_rf (b_h m j w) 172 2) f = f 173 := z_id rfl
theorem br_172_3 {f : Nat → A_R} : a_fo (a_rf (b_h m j w) 172 3) f = f 174 := z_id rfl
theorem br_172_4 {f : Nat → A_R} : a_fo (a_rf (b_h m j w) 172 4) f = f 175 := z_id rfl
theorem bc_173 : a_kc (b_h m j w) 173 100 r = r := z_id rfl
theorem bl_173 : a_ln (b_h m j w) 173 = 6 := z_id rfl
theorem bx_173 (h : i < 6) : a_ix (b_h m j w) 173 (nI i) r = r := z_ix (h := b_h m j w) (a := 173) h (Nat.le_of_ble_eq_true rfl)
theorem bc_174 : a_kc (b_h m j w) 174 100 r = r := z_id rfl
theorem bl_174 : a_ln (b_h m j w) 174 = 6 := z_id rfl
theorem bx_174 (h : i < 6) : a_ix (b_h m j w) 174 (nI i) r = r := z_ix (h := b_h m j w) (a := 174) h (Nat.le_of_ble_eq_true rfl)
theorem bc_175 : a_kc (b_h m j w) 175 100 r = r := z_id rfl
theorem bl_175 : a_ln (b_h m j w) 175 = 6 := z_id rfl
theorem bx_175 (h : i < 6) : a_ix (b_h m j w) 175 (nI i) r = r := z_ix (h := b_h m j w) (a := 175) h (Nat.le_of_ble_eq_true rfl)
theorem bc_176 : a_kc (b_h m j w) 176 1 r = r := z_id rfl
theorem bc_177 : a_kc (b_h m j w) 177 105 r = r := z_id rfl
theorem bl_177 : a_ln (b_h m j w) 177 = 2 := z_id rfl
theorem bx_177 (h : i < 2) : a_ix (b_h m j w) 177 (nI i) r = r := z_ix (h := b_h m j w) (a := 177) h (Nat.le_of_ble_eq_true rfl)
theorem br_177_0 {f : Nat → A_R} : a_fo (a_rf (b_h m j w) 177 0) f = f 178 := z_id rfl
theorem br_177_1 {f : Nat → A_R} : a_fo (a_rf (b_h m j w) 177 1) f = f 206 := z_id rfl
theorem bc_178 : a_kc (b_h m j w) 178 3 r = r := z_id rfl
theorem br_178_0 {f : Nat → A_R} : a_fo (a_rf (b_h m j w) 178 0) f = f 179 := z_id rfl
theorem br_178_1 {f : Nat → A_R} : a_fo (a_rf (b_h m j w) 178 1) f = f 190 := z_id rfl
theorem br_178_2 {f : Nat → A_R} : a_fo (a_rf (b_h m j w) 178 2) f = f 202 := z_id rfl
theorem bc_179 : a_kc (b_h m j w) 179 2 r = r := z_id rfl
theorem br_179_7 {f : Nat → A_R} : a_fo (a_rf (b_h m j w) 179 7) f = f 180 := z_id rfl
theorem br_179_8 {f : Nat → A_R} : a_fo (a_rf (b_h m j w) 179 8) f = f 181 := z_id rfl
theorem br_179_9 {f : Nat → A_R} : a_fo (a_rf (b_h m j w) 179 9) f = f 182 := z_id rfl
theorem br_179_10 {f : Nat → A_R} : a_fo (a_rf (b_h m j w) 179 10) f = f 183 := z_id rfl
theorem br_179_11 {f : Nat → A_R} : a_fo (a_rf (b_h m j w) 179 11) f = f 184 := z_id rfl
theorem br_179_12 {f : Nat → A_R} : a_fo (a_rf (b_h m j w) 179 12) f = f 185 := z_id rfl
theorem br_179_13 {f : Nat → A_R} : a_fo (a_rf (b_h m j w) 179 13) f = f 186 := z_id rfl
theorem br_179_14 {f : Nat → A_R} : a_fo (a_rf (b_h m j w) 179 14) f = f 187 := z_id rfl
theorem br_179_15 {f : Nat → A_R} : a_fo (a_rf (b_h m j w) 179 15) f = f 188 := z_id rfl
theorem br_179_16 {f : Nat → A_R} : a_fo (a_rf (b_h m j w) 179 16) f = f 189 := z_id rfl
theorem bc_180 : a_kc (b_h m j w) 180 101 r = r := z_id rfl
theorem bl_180 : a_ln (b_h m j w) 180 = 30 := z_id rfl
theorem bx_180 (h : i < 30) : a_ix (b_h m j w) 180 (nI i) r = r := z_ix (h := b_h m j w) (a := 180) h (Nat.le_of_ble_eq_true rfl)
theorem bc_181 : a_kc (b_h m j w) 181 100 r = r := z_id rfl
theorem bl_181 : a_ln (b_h m j w) 181 = 30 := z_id rfl
theorem bx_181 (h : i < 30) : a_ix (b_h m j w) 181 (nI i) r = r := z_ix (h := b_h m j w) (a := 181) h (Nat.le_of_ble_eq_true rfl)
theorem bc_182 : a_kc (b_h m j w) 182 100 r = r := z_id rfl
theorem bl_182 : a_ln (b_h m j w) 182 = 30 := z_id rfl
theorem bx_182 (h : i < 30) : a_ix (b_h m j w) 182 (nI i) r = r := z_ix (h := b_h m j w) (a := 182) h (Nat.le_of_ble_eq_true rfl)
theorem bc_183 : a_kc (b_h m j w) 183 100 r = r := z_id rfl
theorem bl_183 : a_ln (b_h m j w) 183 = 6 := z_id rfl
theorem bx_183 (h : i < 6) : a_ix (b_h m j w) 183 (nI i) r = r := z_ix (h := b_h m j w) (a := 183) h (Nat.le_of_ble_eq_true rfl)
theorem bc_184 : a_kc (b_h m j w) 184 100 r = r := z_id rfl
theorem bl_184 : a_ln (b_h m j w) 184 = 8 := z_id rfl
theorem bx_184 (h : i < 8) : a_ix (b_h m j w) 184 (nI i) r = r := z_ix (h := b_h m j w) (a := 184) h (Nat.le_of_ble_eq_true rfl)
theorem bc_185 : a_kc (b_h m j w) 185 100 r = r := z_id rfl
theorem bl_185 : a_ln (b_h m j w) 185 = 48 := z_id rfl
theorem bx_185 (h : i < 48) : a_ix (b_h m j w) 185 (nI i) r = r := z_ix (h := b_h m j w) (a := 185) h (Nat.le_of_ble_eq_true rfl)
theorem bc_186 : a_kc (b_h m j w) 186 100 r = r := z_id rfl
theorem bl_186 : a_ln (b_h m j w) 186 = 10 := z_id rfl
theorem bx_186 (h : i < 10) : a_ix (b_h m j w) 186 (nI i) r = r := z_ix (h := b_h m j w) (a := 186) h (Nat.le_of_ble_eq_true rfl)
theorem bc_187 : a_kc (b_h m j w) 187 100 r = r := z_id rfl
theorem bl_187 : a_ln (b_h m j w) 187 = 10 := z_id rfl
theorem bx_187 (h : i < 10) : a_ix (b_h m j w) 187 (nI i) r = r := z_ix (h := b_h m j w) (a := 187) h (Nat.le_of_ble_eq_true rfl)
theorem bc_188 : a_kc (b_h m j w) 188 100 r = r := z_id rfl
theorem bl_188 : a_ln (b_h m j w) 188 = 60 := z_id rfl
theorem bx_188 (h : i < 60) : a_ix (b_h m j w) 188 (nI i) r = r := z_ix (h := b_h m j w) (a := 188) h (Nat.le_of_ble_eq_true rfl)
theorem bc_189 : a_kc (b_h m j w) 189 100 r = r := z_id rfl
theorem bl_189 : a_ln (b_h m j w) 189 = 10 := z_id rfl
theorem bx_189 (h : i < 10) : a_ix (b_h m j w) 189 (nI i) r = r := z_ix (h := b_h m j w) (a := 189) h (Nat.le_of_ble_eq_true rfl)
theorem bc_190 : a_kc (b_h m j w) 190 0 r = r := z_id rfl
theorem br_190_0 {f : Nat → A_R} : a_fo (a_rf (b_h m j w) 190 0) f = f 179 := z_id rfl
theorem br_190_2 {f : Nat → A_R} : a_fo (a_rf (b_h m j w) 190 2) f = f 191 := z_id rfl
theorem br_190_3 {f : Nat → A_R} : a_fo (a_rf (b_h m j w) 190 3) f = f 192 := z_id rfl
theorem br_190_4 {f : Nat → A_R} : a_fo (a_rf (b_h m j w) 190 4) f = f 193 := z_id rfl
theorem br_190_5 {f : Nat → A_R} : a_fo (a_rf (b_h m j w) 190 5) f = f 194 := z_id rfl
theorem br_190_6 {f : Nat → A_R} : a_fo (a_rf (b_h m j w) 190 6) f = f 195 := z_id rfl
theorem br_190_7 {f : Nat → A_R} : a_fo (a_rf (b_h m j w) 190 7) f = f 196 := z_id rfl
theorem br_190_8 {f : Nat → A_R} : a_fo (a_rf (b_h m j w) 190 8) f = f 197 := z_id rfl
theorem br_190_9 {f : Nat → A_R} : a_fo (a_rf (b_h m j w) 190 9) f = f 198 := z_id rfl
theorem br_190_10 {f : Nat → A_R} : a_fo (a_rf (b_h m j w) 190 10) f = f 199 := z_id rfl
theorem br_190_11 {f : Nat → A_R} : a_fo (a_rf (b_h m j w) 190 11) f = f 200 := z_id rfl
theorem br_190_12 {f : Nat → A_R} : a_fo (a_rf (b_h m j w) 190 12) f = f 201 := z_id rfl
theorem bc_191 : a_kc (b_h m j w) 191 100 r = r := z_id rfl
theorem bl_191 : a_ln (b_h m j w) 191 = 6 := z_id rfl
theorem bx_191 (h : i < 6) : a_ix (b_h m j w) 191 (nI i) r = r := z_ix (h := b_h m j w) (a := 191) h (Nat.le_of_ble_eq_true rfl)
theorem bc_192 : a_kc (b_h m j w) 192 100 r = r := z_id rfl
theorem bl_192 : a_ln (b_h m j w) 192 = 6 := z_id rfl
theorem bx_192 (h : i < 6) : a_ix (b_h m j w) 192 (nI i) r = r := z_ix (h := b_h m j w) (a := 192) h (Nat.le_of_ble_eq_true rfl)
theorem bc_193 : a_kc (b_h m j w) 193 100 r = r := z_id rfl
theorem bl_193 : a_ln (b_h m j w) 193 = 6 := z_id rfl
theorem bx_193 (h : i < 6) : a_ix (b_h m j w) 193 (nI i) r = r := z_ix (h := b_h m j w) (a := 193) h (Nat.le_of_ble_eq_true rfl)
theorem bc_194 : a_kc (b_h m j w) 194 100 r = r := z_id rfl
theorem bl_194 : a_ln (b_h m j w) 194 = 48 := z_id rfl
theorem bx_194 (h : i < 48) : a_ix (b_h m j w) 194 (nI i) r = r := z_ix (h := b_h m j w) (a := 194) h (Nat.le_of_ble_eq_true rfl)
theorem bc_195 : a_kc (b_h m j w) 195 100 r = r := z_id rfl
theorem bl_195 : a_ln (b_h m j w) 195 = 10 := z_id rfl
theorem bx_195 (h : i < 10) : a_ix (b_h m j w) 195 (nI i) r = r := z_ix (h := b_h m j w) (a := 195) h (Nat.le_of_ble_eq_true rfl)
theorem bc_196 : a_kc (b_h m j w) 196 100 r = r := z_id rfl
theorem bl_196 : a_ln (b_h m j w) 196 = 10 := z_id rfl
theorem bx_196 (h : i < 10) : a_ix (b_h m j w) 196 (nI i) r = r := z_ix (h := b_h m j w) (a := 196) h (Nat.le_of_ble_eq_true rfl)
theorem bc_197 : a_kc (b_h m j w) 197 100 r = r := z_id rfl
theorem bl_197 : a_ln (b_h m j w) 197 = 10 := z_id rfl
theorem bx_197 (h : i < 10) : a_ix (b_h m j w) 197 (nI i) r = r := z_ix (h := b_h m j w) (a := 197) h (Nat.le_of_ble_eq_true rfl)
theorem bc_198 : a_kc (b_h m j w) 198 100 r = r := z_id rfl
theorem bl_198 : a_ln (b_h m j w) 198 = 10 := z_id rfl
theorem bx_198 (h : i < 10) : a_ix (b_h m j w) 198 (nI i) r = r := z_ix (h := b_h m j w) (a := 198) h (Nat.le_of_ble_eq_true rfl)
theorem bc_199 : a_kc (b_h m j w) 199 100 r = r := z_id rfl
theorem bl_199 : a_ln (b_h m j w) 199 = 10 := z_id rfl
theorem bx_199 (h : i < 10) : a_ix (b_h m j w) 199 (nI i) r = r := z_ix (h := b_h m j w) (a := 199) h (Nat.le_of_ble_eq_true rfl)
theorem bc_200 : a_kc (b_h m j w) 200 100 r = r := z_id rfl
theorem bl_200 : a_ln (b_h m j w) 200 = 10 := z_id rfl
theorem bx_200 (h : i < 10) : a_ix (b_h m j w) 200 (nI i) r = r := z_ix (h := b_h m j w) (a := 200) h (Nat.le_of_ble_eq_true rfl)
theorem bc_201 : a_kc (b_h m j w) 201 100 r = r := z_id rfl
theorem bl_201 : a_ln (b_h m j w) 201 = 60 := z_id rfl
theorem bx_201 (h : i < 60) : a_ix (b_h m j w) 201 (nI i) r = r := z_ix (h := b_h m j w) (a := 201) h (Nat.le_of_ble_eq_true rfl)
theorem bc_202 : a_kc (b_h m j w) 202 9 r = r := z_id rfl
theorem br_202_2 {f : Nat → A_R} : a_fo (a_rf (b_h m j w) 202 2) f = f 203 := z_id rfl
theorem br_202_3 {f : Nat → A_R} : a_fo (a_rf (b_h m j w) 202 3) f = f 204 := z_id rfl
theorem br_202_4 {f : Nat → A_R} : a_fo (a_rf (b_h m j w) 202 4) f = f 205 := z_id rfl
theorem bc_203 : a_kc (b_h m j w) 203 100 r = r := z_id rfl
theorem bl_203 : a_ln (b_h m j w) 203 = 40 := z_id rfl
theorem bx_203 (h : i < 40) : a_ix (b_h m j w) 203 (nI i) r = r := z_ix (h := b_h m j w) (a := 203) h (Nat.le_of_ble_eq_true rfl)
theorem bc_204 : a_kc (b_h m j w) 204 100 r = r := z_id rfl
theorem bl_204 : a_ln (b_h m j w) 204 = 40 := z_id rfl
theorem bx_204 (h : i < 40) : a_ix (b_h m j w) 204 (nI i) r = r := z_ix (h := b_h m j w) (a := 204) h (Nat.le_of_ble_eq_true rfl)
theorem bc_205 : a_kc (b_h m j w) 205 100 r = r := z_id rfl
theorem bl_205 : a_ln (b_h m j w) 205 = 40 := z_id rfl
theorem bx_205 (h : i < 40) : a_ix (b_h m j w) 205 (nI i) r = r := z_ix (h := b_h m j w) (a := 205) h (Nat.le_of_ble_eq_true rfl)
theorem bc_206 : a_kc (b_h m j w) 206 3 r = r := z_id rfl
theorem br_206_0 {f : Nat → A_R} : a_fo (a_rf (b_h m j w) 206 0) f = f 207 := z_id rfl
theorem br_206_1 {f : Nat → A_R} : a_fo (a_rf (b_h m j w) 206 1) f = f 218 := z_id rfl
theorem br_206_2 {f : Nat → A_R} : a_fo (a_rf (b_h m j w) 206 2) f = f 230 := z_id rfl
theorem bc_207 : a_kc (b_h m j w) 207 2 r = r := z_id rfl
theorem br_207_7 {f : Nat → A_R} : a_fo (a_rf (b_h m j w) 207 7) f = f 208 := z_id rfl
theorem br_207_8 {f : Nat → A_R} : a_fo (a_rf (b_h m j w) 207 8) f = f 209 := z_id rfl
theorem br_207_9 {f : Nat → A_R} : a_fo (a_rf (b_h m j w) 207 9) f = f 210 := z_id rfl
theorem br_207_10 {f : Nat → A_R} : a_fo (a_rf (b_h m j w) 207 10) f = f 211 := z_id rfl
theorem br_207_11 {f : Nat → A_R} : a_fo (a_rf (b_h m j w) 207 11) f = f 212 := z_id rfl
theorem br_207_12 {f : Nat → A_R} : a_fo (a_rf (b_h m j w) 207 12) f = f 213 := z_id rfl
theorem br_207_13 {f : Nat → A_R} : a_fo (a_rf (b_h m j w) 207 13) f = f 214 := z_id rfl
theorem br_207_14 {f : Nat → A_R} : a_fo (a_rf (b_h m j w) 207 14) f = f 215 := z_id rfl
theorem br_207_15 {f : Nat → A_R} : a_fo (a_rf (b_h m j w) 207 15) f = f 216 := z_id rfl
theorem br_207_16 {f : Nat → A_R} : a_fo (a_rf (b_h m j w) 207 16) f = f 217 := z_id rfl
theorem bc_208 : a_kc (b_h m j w) 208 101 r = r := z_id rfl
theorem bl_208 : a_ln (b_h m j w) 208 = 30 := z_id rfl
theorem bx_208 (h : i < 30) : a_ix (b_h m j w) 208 (nI i) r = r := z_ix (h := b_h m j w) (a := 208) h (Nat.le_of_ble_eq_true rfl)
theorem bc_209 : a_kc (b_h m j w) 209 100 r = r := z_id rfl
theorem bl_209 : a_ln (b_h m j w) 209 = 30 := z_id rfl
theorem bx_209 (h : i < 30) : a_ix (b_h m j w) 209 (nI i) r = r := z_ix (h := b_h m j w) (a := 209) h (Nat.le_of_ble_eq_true rfl)
theorem bc_210 : a_kc (b_h m j w) 210 100 r = r := z_id rfl
theorem bl_210 : a_ln (b_h m j w) 210 = 30 := z_id rfl
theorem bx_210 (h : i < 30) : a_ix (b_h m j w) 210 (nI i) r = r := z_ix (h := b_h m j w) (a := 210) h (Nat.le_of_ble_eq_true rfl)
theorem bc_211 : a_kc (b_h m j w) 211 100 r = r := z_id rfl
theorem bl_211 : a_ln (b_h m j w) 211 = 6 := z_id rfl
theorem bx_211 (h : i < 6) : a_ix (b_h m j w) 211 (nI i) r = r := z_ix (h := b_h m j w) (a := 211) h (Nat.le_of_ble_eq_true rfl)
theorem bc_212 : a_kc (b_h m j w) 212 100 r = r := z_id rfl
theorem bl_212 : a_ln (b_h m j w) 212 = 8 := z_id rfl
theorem bx_212 (h : i < 8) : a_ix (b_h m j w) 212 (nI i) r = r := z_ix (h := b_h m j w) (a := 212) h (Nat.le_of_ble_eq_true rfl)
theorem bc_213 : a_kc (b_h m j w) 213 100 r = r := z_id rfl
theorem bl_213 : a_ln (b_h m j w) 213 = 48 := z_id rfl
theorem bx_213 (h : i < 48) : a_ix (b_h m j w) 213 (nI i) r = r := z_ix (h := b_h m j w) (a := 213) h (Nat.le_of_ble_eq_true rfl)
theorem bc_214 : a_kc (b_h m j w) 214 100 r = r := z_id rfl
theorem bl_214 : a_ln (b_h m j w) 214 = 10 := z_id rfl
theorem bx_214 (h : i < 10) : a_ix (b_h m j w) 214 (nI i) r = r := z_ix (h := b_h m j w) (a := 214) h (Nat.le_of_ble_eq_true rfl)
theorem bc_215 : a_kc (b_h m j w) 215 100 r = r := z_id rfl
theorem bl_215 : a_ln (b_h m j w) 215 = 10 := z_id rfl
theorem bx_215 (h : i < 10) : a_ix (b_h m j w) 215 (nI i) r = r := z_ix (h := b_h m j w) (a := 215) h (Nat.le_of_ble_eq_true rfl)
theorem bc_216 : a_kc (b_h m j w) 216 100 r = r := z_id rfl
theorem bl_216 : a_ln (b_h m j w) 216 = 60 := z_id rfl
theorem bx_216 (h : i < 60) : a_ix (b_h m j w) 216 (nI i) r = r := z_ix (h := b_h m j w) (a := 216) h (Nat.le_of_ble_eq_true rfl)
theorem bc_217 : a_kc (b_h m j w) 217 100 r = r := z_id rfl
theorem bl_217 : a_ln (b_h m j w) 217 = 10 := z_id rfl
theorem bx_217 (h : i < 10) : a_ix (b_h m j w) 217 (nI i) r = r := z_ix (h := b_h m j w) (a := 217) h (Nat.le_of_ble_eq_true rfl)
theorem bc_218 : a_kc (b_h m j w) 218 0 r = r := z_id rfl
theorem br_218_0 {f : Nat → A_R} : a_fo (a_rf (b_h m j w) 218 0) f = f 207 := z_id rfl
theorem br_218_2 {f : Nat → A_R} : a_fo (a_rf (b_h m j w) 218 2) f = f 219 := z_id rfl
theorem br_218_3 {f : Nat → A_R} : a_fo (a_rf (b_h m j w) 218 3) f = f 220 := z_id rfl
theorem br_218_4 {f : Nat → A_R} : a_fo (a_rf (b_h m j w) 218 4) f = f 221 := z_id rfl
theorem br_218_5 {f : Nat → A_R} : a_fo (a_rf (b_h m j w) 218 5) f = f 222 := z_id rfl
theorem br_218_6 {f : Nat → A_R} : a_fo (a_rf (b_h m j w) 218 6) f = f 223 := z_id rfl
theorem br_218_7 {f : Nat → A_R} : a_fo (a_rf (b_h m j w) 218 7) f = f 224 := z_id rfl
theorem br_218_8 {f : Nat → A_R} : a_fo (a_rf (b_h m j w) 218 8) f = f 225 := z_id rfl
theorem br_218_9 {f : Nat → A_R} : a_fo (a_rf (b_h m j w) 218 9) f = f 226 := z_id rfl
theorem br_218_10 {f : Nat → A_R} : a_fo (a_rf (b_h m j w) 218 10) f = f 227 := z_id rfl
theorem br_218_11 {f : Nat → A_R} : a_fo (a_rf (b_h m j w) 218 11) f = f 228 := z_id rfl
theorem br_218_12 {f : Nat → A_R} : a_fo (a_rf (b_h m j w) 218 12) f = f 229 := z_id rfl
theorem bc_219 : a_kc (b_h m j w) 219 100 r = r := z_id rfl
theorem bl_219 : a_ln (b_h m j w) 219 = 6 := z_id rfl
theorem bx_219 (h : i < 6) : a_ix (b_h m j w) 219 (nI i) r = r := z_ix (h := b_h m j w) (a := 219) h (Nat.le_of_ble_eq_true rfl)
theorem bc_220 : a_kc (b_h m j w) 220 100 r = r := z_id rfl
theorem bl_220 : a_ln (b_h m j w) 220 = 6 := z_id rfl
theorem bx_220 (h : i < 6) : a_ix (b_h m j w) 220 (nI i) r = r := z_ix (h := b_h m j w) (a := 220) h (Nat.le_of_ble_eq_true rfl)
theorem bc_221 : a_kc (b_h m j w) 221 100 r = r := z_id rfl
theorem bl_221 : a_ln (b_h m j w) 221 = 6 := z_id rfl
theorem bx_221 (h : i < 6) : a_ix (b_h m j w) 221 (nI i) r = r := z_ix (h := b_h m j w) (a := 221) h (Nat.le_of_ble_eq_true rfl)
theorem bc_222 : a_kc (b_h m j w) 222 100 r = r := z_id rfl
theorem bl_222 : a_ln (b_h m j w) 222 = 48 := z_id rfl
theorem bx_222 (h : i < 48) : a_ix (b_h m j w) 222 (nI i) r = r := z_ix (h := b_h m j w) (a := 222) h (Nat.le_of_ble_eq_true rfl)
theorem bc_223 : a_kc (b_h m j w) 223 100 r = r := z_id rfl
theorem bl_223 : a_ln (b_h m j w) 223 = 10 := z_id rfl
theorem bx_223 (h : i < 10) : a_ix (b_h m j w) 223 (nI i) r = r := z_ix (h := b_h m j w) (a := 223) h (Nat.le_of_ble_eq_true rfl)
theorem bc_224 : a_kc (b_h m j w) 224 100 r = r := z_id rfl
theorem bl_224 : a_ln (b_h m j w) 224 = 10 := z_id rfl
theorem bx_224 (h : i < 10) : a_ix (b_h m j w) 224 (nI i) r = r := z_ix (h := b_h m j w) (a := 224) h (Nat.le_of_ble_eq_true rfl)
theorem bc_225 : a_kc (b_h m j w) 225 100 r = r := z_id rfl
theorem bl_225 : a_ln (b_h m j w) 225 = 10 := z_id rfl
theorem bx_225 (h : i < 10) : a_ix (b_h m j w) 225 (nI i) r = r := z_ix (h := b_h m j w) (a := 225) h (Nat.le_of_ble_eq_true rfl)
theorem bc_226 : a_kc (b_h m j w) 226 100 r = r := z_id rfl
theorem bl_226 : a_ln (b_h m j w) 226 = 10 := z_id rfl
theorem bx_226 (h : i < 10) : a_ix (b_h m j w) 226 (nI i) r = r := z_ix (h := b_h m j w) (a := 226) h (Nat.le_of_ble_eq_true rfl)
theorem bc_227 : a_kc (b_h m j w) 227 100 r = r := z_id rfl
theorem bl_227 : a_ln (b_h m j w) 227 = 10 := z_id rfl
theorem bx_227 (h : i < 10) : a_ix (b_h m j w) 227 (nI i) r = r := z_ix (h := b_h m j w) (a := 227) h (Nat.le_of_ble_eq_true rfl)
theorem bc_228 : a_kc (b_h m j w) 228 100 r = r := z_id rfl
theorem bl_228 : a_ln (b_h m j w) 228 = 10 := z_id rfl
theorem bx_228 (h : i < 10) : a_ix (b_h m j w) 228 (nI i) r = r := z_ix (h := b_h m j w) (a := 228) h (Nat.le_of_ble_eq_true rfl)
theorem bc_229 : a_kc (b_h m j w) 229 100 r = r := z_id rfl
theorem bl_229 : a_ln (b_h m j w) 229 = 60 := z_id rfl
theorem bx_229 (h : i < 60) : a_ix (b_h m j w) 229 (nI i) r = r := z_ix (h := b_h m j w) (a := 229) h (Nat.le_of_ble_eq_true rfl)
theorem bc_230 : a_kc (b_h m j w) 230 9 r = r := z_id rfl
theorem br_230_2 {f : Nat → A_R} : a_fo (a_rf (b_h m j w) 230 2) f = f 231 := z_id rfl
theorem br_230_3 {f : Nat → A_R} : a_fo (a_rf (b_h m j w) 230 3) f = f 232 := z_id rfl
theorem br_230_4 {f : Nat → A_R} : a_fo (a_rf (b_h m j w) 230 4) f = f 233 := z_id rfl
theorem bc_231 : a_kc (b_h m j w) 231 100 r = r := z_id rfl
theorem bl_231 : a_ln (b_h m j w) 231 = 40 := z_id rfl
theorem bx_231 (h : i < 40) : a_ix (b_h m j w) 231 (nI i) r = r := z_ix (h := b_h m j w) (a := 231) h (Nat.le_of_ble_eq_true rfl)
theorem bc_232 : a_kc (b_h m j w) 232 100 r = r := z_id rfl
theorem bl_232 : a_ln (b_h m j w) 232 = 40 := z_id rfl
theorem bx_232 (h : i < 40) : a_ix (b_h m j w) 232 (nI i) r = r := z_ix (h := b_h m j w) (a := 232) h (Nat.le_of_ble_eq_true rfl)
theorem bc_233 : a_kc (b_h m j w) 233 100 r = r := z_id rfl
theorem bl_233 : a_ln (b_h m j w) 233 = 40 := z_id rfl
theorem bx_233 (h : i < 40) : a_ix (b_h m j w) 233 (nI i) r = r := z_ix (h := b_h m j w) (a := 233) h (Nat.le_of_ble_eq_true rfl)
theorem bc_234 : a_kc (b_h m j w) 234 12 r = r := z_id rfl
theorem br_234_1 {f : Nat → A_R} : a_fo (a_rf (b_h m j w) 234 1) f = f 235 := z_id rfl
theorem br_234_6 {f : Nat → A_R} : a_fo (a_rf (b_h m j w) 234 6) f = f 236 := z_id rfl
theorem br_234_7 {f : Nat → A_R} : a_fo (a_rf (b_h m j w) 234 7) f = f 237 := z_id rfl
theorem br_234_8 {f : Nat → A_R} : a_fo (a_rf (b_h m j w) 234 8) f = f 238 := z_id rfl
theorem br_234_9 {f : Nat → A_R} : a_fo (a_rf (b_h m j w) 234 9) f = f 239 := z_id rfl
theorem br_234_10 {f : Nat → A_R} : a_fo (a_rf (b_h m j w) 234 10) f = f 240 := z_id rfl
theorem br_234_21 {f : Nat → A_R} : a_fo (a_rf (b_h m j w) 234 21) f = f 241 := z_id rfl
theorem br_234_22 {f : Nat → A_R} : a_fo (a_rf (b_h m j w) 234 22) f = f 242 := z_id rfl
theorem br_234_24 {f : Nat → A_R} : a_fo (a_rf (b_h m j w) 234 24) f = f 243 := z_id rfl
theorem br_234_25 {f : Nat → A_R} : a_fo (a_rf (b_h m j w) 234 25) f = f 244 := z_id rfl
theorem br_234_27 {f : Nat → A_R} : a_fo (a_rf (b_h m j w) 234 27) f = f 245 := z_id rfl
theorem br_234_28 {f : Nat → A_R} : a_fo (a_rf (b_h m j w) 234 28) f = f 246 := z_id rfl
theorem br_234_29 {f : Nat → A_R} : a_fo (a_rf (b_h m j w) 234 29) f = f 247 := z_id rfl
theorem br_234_37 {f : Nat → A_R} : a_fo (a_rf (b_h m j w) 234 37) f = f 248 := z_id rfl
theorem br_234_38 {f : Nat → A_R} : a_fo (a_rf (b_h m j w) 234 38) f = f 249 := z_id rfl
theorem br_234_39 {f : Nat → A_R} : a_fo (a_rf (b_h m j w) 234 39) f = f 250 := z_id rfl
theorem br_234_42 {f : Nat → A_R} : a_fo (a_rf (b_h m j w) 234 42) f = f 251 := z_id rfl
theorem br_234_44 {f : Nat → A_R} : a_fo (a_rf (b_h m j w) 234 44) f = f 252 := z_id rfl
theorem br_234_50 {f : Nat → A_R} : a_fo (a_rf (b_h m j w) 234 50) f = f 253 := z_id rfl
theorem br_234_51 {f : Nat → A_R} : a_fo (a_rf (b_h m j w) 234 51) f = f 254 := z_id rfl
theorem br_234_52 {f : Nat → A_R} : a_fo (a_rf (b_h m j w) 234 52) f = f 255 := z_id rfl
theorem br_234_53 {f : Nat → A_R} : a_fo (a_rf (b_h m j w) 234 53) f = f 256 := z_id rfl
theorem bc_235 : a_kc (b_h m j w) 235 103 r = r := z_id rfl
theorem bl_235 : a_ln (b_h m j w) 235 = 940 := z_id rfl
theorem bx_235 (h : i < 940) : a_ix (b_h m j w) 235 (nI i) r = r := z_ix (h := b_h m j w) (a := 235) h (Nat.le_of_ble_eq_true rfl)
theorem bk_235 : a_kd (b_h m j w) 235 = 103 := z_id rfl
theorem bc_236 : a_kc (b_h m j w) 236 100 r = r := z_id rfl
theorem bl_236 : a_ln (b_h m j w) 236 = 533 := z_id rfl
theorem bx_236 (h : i < 533) : a_ix (b_h m j w) 236 (nI i) r = r := z_ix (h := b_h m j w) (a := 236) h (Nat.le_of_ble_eq_true rfl)
theorem bc_237 : a_kc (b_h m j w) 237 100 r = r := z_id rfl
theorem bl_237 : a_ln (b_h m j w) 237 = 157 := z_id rfl
theorem bx_237 (h : i < 157) : a_ix (b_h m j w) 237 (nI i) r = r := z_ix (h := b_h m j w) (a := 237) h (Nat.le_of_ble_eq_true rfl)
theorem bc_238 : a_kc (b_h m j w) 238 100 r = r := z_id rfl
theorem bl_238 : a_ln (b_h m j w) 238 = 135 := z_id rfl
theorem bx_238 (h : i < 135) : a_ix (b_h m j w) 238 (nI i) r = r := z_ix (h := b_h m j w) (a := 238) h (Nat.le_of_ble_eq_true rfl)
theorem bc_239 : a_kc (b_h m j w) 239 101 r = r := z_id rfl
theorem bl_239 : a_ln (b_h m j w) 239 = 60 := z_id rfl
theorem bx_239 (h : i < 60) : a_ix (b_h m j w) 239 (nI i) r = r := z_ix (h := b_h m j w) (a := 239) h (Nat.le_of_ble_eq_true rfl)
theorem bc_240 : a_kc (b_h m j w) 240 101 r = r := z_id rfl
theorem bl_240 : a_ln (b_h m j w) 240 = 19 := z_id rfl
theorem bx_240 (h : i < 19) : a_ix (b_h m j w) 240 (nI i) r = r := z_ix (h := b_h m j w) (a := 240) h (Nat.le_of_ble_eq_true rfl)
theorem bc_241 : a_kc (b_h m j w) 241 100 r = r := z_id rfl
theorem bl_241 : a_ln (b_h m j w) 241 = 1560 := z_id rfl
theorem bx_241 (h : i < 1560) : a_ix (b_h m j w) 241 (nI i) r = r := z_ix (h := b_h m j w) (a := 241) h (Nat.le_of_ble_eq_true rfl)
theorem bc_242 : a_kc (b_h m j w) 242 100 r = r := z_id rfl
theorem bl_242 : a_ln (b_h m j w) 242 = 195 := z_id rfl
theorem bx_242 (h : i < 195) : a_ix (b_h m j w) 242 (nI i) r = r := z_ix (h := b_h m j w) (a := 242) h (Nat.le_of_ble_eq_true rfl)
theorem bc_243 : a_kc (b_h m j w) 243 102 r = r := z_id rfl
theorem bl_243 : a_ln (b_h m j w) 243 = 1024 := z_id rfl
theorem bx_243 (h : i < 1024) : a_ix (b_h m j w) 243 (nI i) r = r := z_ix (h := b_h m j w) (a := 243) h (Nat.le_of_ble_eq_true rfl)
theorem bk_243 : a_kd (b_h m j w) 243 = 102 := z_id rfl
theorem bc_244 : a_kc (b_h m j w) 244 100 r = r := z_id rfl
theorem bl_244 : a_ln (b_h m j w) 244 = 10 := z_id rfl
theorem bx_244 (h : i < 10) : a_ix (b_h m j w) 244 (nI i) r = r := z_ix (h := b_h m j w) (a := 244) h (Nat.le_of_ble_eq_true rfl)
theorem bc_245 : a_kc (b_h m j w) 245 102 r = r := z_id rfl
theorem bl_245 : a_ln (b_h m j w) 245 = 1024 := z_id rfl
theorem bx_245 (h : i < 1024) : a_ix (b_h m j w) 245 (nI i) r = r := z_ix (h := b_h m j w) (a := 245) h (Nat.le_of_ble_eq_true rfl)
theorem bk_245 : a_kd (b_h m j w) 245 = 102 := z_id rfl
theorem bc_246 : a_kc (b_h m j w) 246 100 r = r := z_id rfl
theorem bl_246 : a_ln (b_h m j w) 246 = 9216 := z_id rfl
theorem bx_246 (h : i < 9216) : a_ix (b_h m j w) 246 (nI i) r = r := z_ix (h := b_h m j w) (a := 246) h (Nat.le_of_ble_eq_true rfl)
theorem bc_247 : a_kc (b_h m j w) 247 100 r = r := z_id rfl
theorem bl_247 : a_ln (b_h m j w) 247 = 8 := z_id rfl
theorem bx_247 (h : i < 8) : a_ix (b_h m j w) 247 (nI i) r = r := z_ix (h := b_h m j w) (a := 247) h (Nat.le_of_ble_eq_true rfl)
theorem bc_248 : a_kc (b_h m j w) 248 100 r = r := z_id rfl
theorem bl_248 : a_ln (b_h m j w) 248 = 6 := z_id rfl
theorem bx_248 (h : i < 6) : a_ix (b_h m j w) 248 (nI i) r = r := z_ix (h := b_h m j w) (a := 248) h (Nat.le_of_ble_eq_true rfl)
theorem bc_249 : a_kc (b_h m j w) 249 100 r = r := z_id rfl
theorem bl_249 : a_ln (b_h m j w) 249 = 6 := z_id rfl
theorem bx_249 (h : i < 6) : a_ix (b_h m j w) 249 (nI i) r = r := z_ix (h := b_h m j w) (a := 249) h (Nat.le_of_ble_eq_true rfl)
theorem bc_250 : a_kc (b_h m j w) 250 100 r = r := z_id rfl
theorem bl_250 : a_ln (b_h m j w) 250 = 6 := z_id rfl
theorem bx_250 (h : i < 6) : a_ix (b_h m j w) 250 (nI i) r = r := z_ix (h := b_h m j w) (a := 250) h (Nat.le_of_ble_eq_true rfl)
theorem bc_251 : a_kc (b_h m j w) 251 100 r = r := z_id rfl
theorem bl_251 : a_ln (b_h m j w) 251 = 4 := z_id rfl
theorem bx_251 (h : i < 4) : a_ix (b_h m j w) 251 (nI i) r = r := z_ix (h := b_h m j w) (a := 251) h (Nat.le_of_ble_eq_true rfl)
theorem bc_252 : a_kc (b_h m j w) 252 100 r = r := z_id rfl
theorem bl_252 : a_ln (b_h m j w) 252 = 45 := z_id rfl
theorem bx_252 (h : i < 45) : a_ix (b_h m j w) 252 (nI i) r = r := z_ix (h := b_h m j w) (a := 252) h (Nat.le_of_ble_eq_true rfl)
theorem bc_253 : a_kc (b_h m j w) 253 102 r = r := z_id rfl
theorem bl_253 : a_ln (b_h m j w) 253 = 45 := z_id rfl
theorem bx_253 (h : i < 45) : a_ix (b_h m j w) 253 (nI i) r = r := z_ix (h := b_h m j w) (a := 253) h (Nat.le_of_ble_eq_true rfl)
theorem bk_253 : a_kd (b_h m j w) 253 = 102 := z_id rfl
theorem bc_254 : a_kc (b_h m j w) 254 100 r = r := z_id rfl
theorem bl_254 : a_ln (b_h m j w) 254 = 1066 := z_id rfl
theorem bx_254 (h : i < 1066) : a_ix (b_h m j w) 254 (nI i) r = r := z_ix (h := b_h m j w) (a := 254) h (Nat.le_of_ble_eq_true rfl)
theorem bc_255 : a_kc (b_h m j w) 255 101 r = r := z_id rfl
theorem bl_255 : a_ln (b_h m j w) 255 = 60 := z_id rfl
theorem bx_255 (h : i < 60) : a_ix (b_h m j w) 255 (nI i) r = r := z_ix (h := b_h m j w) (a := 255) h (Nat.le_of_ble_eq_true rfl)
theorem bc_256 : a_kc (b_h m j w) 256 102 r = r := z_id rfl
theorem bl_256 : a_ln (b_h m j w) 256 = 2 := z_id rfl
theorem bx_256 (h : i < 2) : a_ix (b_h m j w) 256 (nI i) r = r := z_ix (h := b_h m j w) (a := 256) h (Nat.le_of_ble_eq_true rfl)
theorem bk_256 : a_kd (b_h m j w) 256 = 102 := z_id rfl
theorem bc_257 : a_kc (b_h m j w) 257 101 r = r := z_id rfl
theorem bl_257 : a_ln (b_h m j w) 257 = 1 := z_id rfl
theorem bx_257 (h : i < 1) : a_ix (b_h m j w) 257 (nI i) r = r := z_ix (h := b_h m j w) (a := 257) h (Nat.le_of_ble_eq_true rfl)
end MEM
