/-! THE TAPE: feeding, cutting -/
theorem b_ni (x : Int32) : x.toInt = if b_n x < 2147483648 then (b_n x : Int) else (b_n x : Int) - 4294967296 := by
  have h := b_nlt x
  have e : x.toInt = x.toBitVec.toInt := rfl
  rw [e, BitVec.toInt_eq_toNat_cond]
  show _ = if x.toBitVec.toNat < 2147483648 then (x.toBitVec.toNat : Int) else (x.toBitVec.toNat : Int) - 4294967296
  have hp : (2 ^ 32 : Nat) = 4294967296 := by decide
  rw [hp]
  split <;> split <;> omega
theorem b_nnI (x : Nat) : b_n (nI x) = x % 4294967296 := by
  show (Int32.ofNat x).toBitVec.toNat = _
  rw [Int32.toBitVec_ofNat', BitVec.toNat_ofNat]
theorem b_byte (z : Int32) : ((b_n z.toInt8.toInt32 % 256 : Nat) : Int) = z.toInt % 256 := by
  have h1 : z.toInt8.toInt32.toInt = z.toInt.bmod 256 := by
    rw [Int8.toInt_toInt32, Int32.toInt_toInt8]
  have h2 := b_ni z.toInt8.toInt32
  rw [h1] at h2
  have h3 : (z.toInt.bmod 256) % 256 = z.toInt % 256 := by rw [Int.bmod_def]; split <;> omega
  split at h2 <;> omega
/-- a byte of a number -/
def w_by (x k : Nat) : Nat := x % 4294967296 / 2 ^ k % 256
theorem w_by_lt (x k : Nat) : w_by x k < 256 := Nat.mod_lt _ (by decide)
/-- as the reference keeps it -/
def w_sb (x k : Nat) : Nat := b_n ((nI x >>> (nI k &&& 31)).toInt8.toInt32).toInt8.toInt32
theorem w_sb_mod (x k : Nat) (hk : k = 24 ∨ k = 16 ∨ k = 8 ∨ k = 0) : w_sb x k % 256 = w_by x k := by
  have e1 : ((nI x >>> (nI k &&& 31)).toInt8.toInt32).toInt8.toInt32 = (nI x >>> (nI k &&& 31)).toInt8.toInt32 := by simp
  unfold w_sb w_by
  rw [e1]
  have h1 := b_byte (nI x >>> (nI k &&& 31))
  rw [pk_shr (nI x) (nI k &&& 31) k (z_sh k (by omega)), Int.shiftRight_eq_div_pow] at h1
  have h2 := b_ni (nI x)
  rw [b_nnI] at h2
  have h3 : x % 4294967296 < 4294967296 := Nat.mod_lt _ (by decide)
  generalize x % 4294967296 = y at h2 h3 ⊢
  generalize b_n (nI x >>> (nI k &&& 31)).toInt8.toInt32 % 256 = b at h1 ⊢
  generalize (nI x).toInt = q at h1 h2
  rcases hk with rfl | rfl | rfl | rfl
  · have p1 : ((2 ^ 24 : Nat) : Int) = 16777216 := by decide
    have p2 : (2 ^ 24 : Nat) = 16777216 := by decide
    rw [p1] at h1
    rw [p2]
    split at h2 <;> omega
  · have p1 : ((2 ^ 16 : Nat) : Int) = 65536 := by decide
    have p2 : (2 ^ 16 : Nat) = 65536 := by decide
    rw [p1] at h1
    rw [p2]
    split at h2 <;> omega
  · have p1 : ((2 ^ 8 : Nat) : Int) = 256 := by decide
    have p2 : (2 ^ 8 : Nat) = 256 := by decide
    rw [p1] at h1
    rw [p2]
    split at h2 <;> omega
  · have p1 : ((2 ^ 0 : Nat) : Int) = 1 := by decide
    have p2 : (2 ^ 0 : Nat) = 1 := by decide
    rw [p1] at h1
    rw [p2]
    split at h2 <;> omega
theorem w_sh4 : ∀ k, k < 32 → (((nI k).toUInt32 &&& Int32.toUInt32 31).toBitVec % 32).toNat = k := by decide +kernel
theorem b_ushr (x k : Nat) (hk : k < 32) : ((nI x).toUInt32 >>> ((nI k).toUInt32 &&& Int32.toUInt32 31)).toInt32 = nI (x % 4294967296 / 2 ^ k) := by
  have h1 := pk_ushr (nI x) (nI k) k (w_sh4 k hk)
  have h2 : (nI x).toBitVec.toNat = x % 4294967296 := b_nnI x
  rw [h2] at h1
  have h3 := b_nI ((nI x).toUInt32 >>> ((nI k).toUInt32 &&& Int32.toUInt32 31)).toInt32
  rw [← h3]
  congr 1
theorem b_255 (y : Nat) : nI y &&& nI 255 = nI (y % 256) := by
  rw [b_and]
  congr 1
  exact Nat.and_two_pow_sub_one_eq_mod y 8
section FE
variable {X : Nat × (Nat → Int32)} {tx : List Int32} {D : Nat} {m j : Nat → Nat → Nat} {w : (Nat × Nat) × Bool}
def w_byk (x i : Nat) : Nat := w_by x (24 - 8 * i)
def w_sbk (x i : Nat) : Nat := w_sb x (24 - 8 * i)
/-- four bytes more, in the class, in the reference -/
def w_addC (m : Nat → Nat → Nat) (x n : Nat) : Nat → Nat → Nat := b_r (b_r m 1 (b_s (m 1) 2 (m 1 2 + n))) 2 (b_rg (m 2) (m 1 2) n (w_byk x))
def w_addM (m : Nat → Nat → Nat) (x n : Nat) : Nat → Nat → Nat := b_r (b_r m 234 (b_s (m 234) 2 (m 234 2 + n))) 235 (b_rg (m 235) (m 234 2) n (w_sbk x))
theorem s_Ta_add (hs : m 1 2 + 4 ≤ 940) (hD : 1 ≤ D) {x : Nat} : a_ex X tx a_T D 1 [.ref 1, .int (nI x)] (b_h m j w) = some ((b_h (w_addC m x 4) j w), none) := by
  obtain ⟨d, rfl⟩ : ∃ d, D = d + 1 := ⟨D - 1, by omega⟩
  rw [e_Ta_add, q_Ta_add_0]
  rw [← l_Ta_add_2]
  have st : ∀ i, i < 4 → ∀ f, a_go X tx (a_ex X tx a_T d) k_Ta_add_0 (f + 1) 2 [.ref 1, .int (nI x), .int (nI (24 - 8 * i))] (b_h (w_addC m x i) j w) = a_go X tx (a_ex X tx a_T d) k_Ta_add_0 f 2 [.ref 1, .int (nI x), .int (nI (24 - 8 * i + 4294967288))] (b_h (w_addC m x (i + 1)) j w) := by
    intro i hi f
    rw [l_Ta_add_2, q_Ta_add_2]
    have e1 : w_addC m x i 1 2 = m 1 2 + i := by unfold w_addC; rw [b_rn (by decide), b_rs, b_ss]
    have e2 : nI (x % 4294967296 / 2 ^ (24 - 8 * i) % 256) = nI (w_byk x i) := rfl
    have e3 : b_r (b_r (w_addC m x i) 2 (b_s (w_addC m x i 2) (m 1 2 + i) (w_byk x i))) 1 (b_s (w_addC m x i 1) 2 (m 1 2 + i + 1)) = w_addC m x (i + 1) := by
      unfold w_addC
      simp (disch := omega) only [b_rs, b_rn, b_r2, b_s2, b_rx (c2 := 1) (c := 2) (by decide), b_rg1]
      rfl
    simp (disch := omega) only [e1, b_ushr, b_255, e2, ↓bc_1, ↓br_1_0, ↓bc_2, ↓bx_2, bl_2, ↓b_t0, ↓b_t1, ↓b_t2, ↓b_t3, ↓b_t4, ↓b_t5, ↓b_t6, Nat.zero_add, Nat.le_refl, b_rs, b_rn, b_r2, b_ss, b_sn, b_bt, b_bf, b_b0, b_b1, b_bw, b_shl, b_or, b_iv, b_jv, b_sI, b_sJ, ↓z_hl, z_b0, z_b1, z_b2, b_and1c, b_and1z, if_true, if_false, nI_add, pk_mul, b_cl, b_lt, b_le, b_eq, b_eq0, b_le0, b_0lt, b_0le, b_lt0]
    rw [if_neg (by omega), e3]
  have e0 : b_h m j w = b_h (w_addC m x 0) j w := by
    unfold w_addC
    rw [b_rg0, b_ri (m := b_r m 1 _) (c := 2) (b_rn (by decide)), b_ri]
    exact (b_sid rfl).symm
  rw [e0]
  obtain ⟨f, hf⟩ : ∃ f, a_f1 = f + 5 := ⟨999994, rfl⟩
  rw [hf]
  have w1 : nI (24 - 8 * 0 + 4294967288) = nI (24 - 8 * 1) := by decide +kernel
  have w2 : nI (24 - 8 * 1 + 4294967288) = nI (24 - 8 * 2) := by decide +kernel
  have w3 : nI (24 - 8 * 2 + 4294967288) = nI (24 - 8 * 3) := by decide +kernel
  have w4 : (nI (24 - 8 * 3 + 4294967288) < 0) = True := eq_true (by decide +kernel)
  have q0 := st 0 (by decide) (f + 5)
  have q1 := st 1 (by decide) (f + 4)
  have q2 := st 2 (by decide) (f + 3)
  have q3 := st 3 (by decide) (f + 2)
  rw [w1] at q0
  rw [w2] at q1
  rw [w3] at q2
  have q4 : a_go X tx (a_ex X tx a_T d) k_Ta_add_0 (f + 2) 2 [.ref 1, .int (nI x), .int (nI (24 - 8 * 3 + 4294967288))] (b_h (w_addC m x 4) j w) = some (b_h (w_addC m x 4) j w, none) := by
    rw [l_Ta_add_2, q_Ta_add_2]
    simp only [w4, if_true]
  exact q0.trans (q1.trans (q2.trans (q3.trans q4)))
theorem b_bzz {i : Nat} {y : Int32} {g : A_H → A_R} (hi : i < 940) : a_bz (b_h m j w) 235 (nI i) y g = g (b_h (b_r m 235 (b_s (m 235) i (b_n y.toInt8.toInt32))) j w) := by
  unfold a_bz
  have e1 : a_kd (b_h m j w) 235 = 103 := bk_235
  rw [e1, if_neg (by decide), if_pos rfl, bx_235 hi, z_hl, b_cl (by omega)]
  have e2 := b_nI y.toInt8.toInt32
  rw [show a_sI (b_h m j w) 235 i y.toInt8.toInt32 = a_sI (b_h m j w) 235 i (nI (b_n y.toInt8.toInt32)) by rw [e2], b_sI]
theorem s_Mo_four (hs : m 234 2 + 4 ≤ 940) (hD : 1 ≤ D) {x : Nat} : a_ex X tx a_T D 198 [.ref 234, .int (nI x)] (b_h m j w) = some ((b_h (w_addM m x 4) j w), none) := by
  obtain ⟨d, rfl⟩ : ∃ d, D = d + 1 := ⟨D - 1, by omega⟩
  rw [e_Mo_four, q_Mo_four_0]
  rw [← l_Mo_four_2]
  have st : ∀ i, i < 4 → ∀ f, a_go X tx (a_ex X tx a_T d) k_Mo_four_0 (f + 1) 2 [.ref 234, .int (nI x), .int (nI (24 - 8 * i))] (b_h (w_addM m x i) j w) = a_go X tx (a_ex X tx a_T d) k_Mo_four_0 f 2 [.ref 234, .int (nI x), .int (nI (24 - 8 * i + 4294967288))] (b_h (w_addM m x (i + 1)) j w) := by
    intro i hi f
    rw [l_Mo_four_2, q_Mo_four_2]
    have e1 : w_addM m x i 234 2 = m 234 2 + i := by unfold w_addM; rw [b_rn (by decide), b_rs, b_ss]
    have e3 : b_r (b_r (w_addM m x i) 235 (b_s (w_addM m x i 235) (m 234 2 + i) (w_sbk x i))) 234 (b_s (w_addM m x i 234) 2 (m 234 2 + i + 1)) = w_addM m x (i + 1) := by
      unfold w_addM
      simp (disch := omega) only [b_rs, b_rn, b_r2, b_s2, b_rx (c2 := 234) (c := 235) (by decide), b_rg1]
      rfl
    have e2 : b_n (((nI x >>> (nI (24 - 8 * i) &&& 31)).toInt8.toInt32).toInt8.toInt32) = w_sbk x i := rfl
    simp (disch := omega) only [e1, b_bzz, e2, ↓bc_234, ↓br_234_1, ↓bc_235, ↓bx_235, bl_235, bk_235, ↓b_t0, ↓b_t1, ↓b_t2, ↓b_t3, ↓b_t4, ↓b_t5, ↓b_t6, Nat.zero_add, Nat.le_refl, b_rs, b_rn, b_r2, b_ss, b_sn, b_bt, b_bf, b_b0, b_b1, b_bw, b_shl, b_or, b_iv, b_jv, b_sI, b_sJ, ↓z_hl, z_b0, z_b1, z_b2, b_and1c, b_and1z, if_true, if_false, nI_add, pk_mul, b_cl, b_lt, b_le, b_eq, b_eq0, b_le0, b_0lt, b_0le, b_lt0]
    rw [e3]
  have e0 : b_h m j w = b_h (w_addM m x 0) j w := by
    unfold w_addM
    rw [b_rg0, b_ri (m := b_r m 234 _) (c := 235) (b_rn (by decide)), b_ri]
    exact (b_sid rfl).symm
  rw [e0]
  obtain ⟨f, hf⟩ : ∃ f, a_f1 = f + 5 := ⟨999994, rfl⟩
  rw [hf]
  have w1 : nI (24 - 8 * 0 + 4294967288) = nI (24 - 8 * 1) := by decide +kernel
  have w2 : nI (24 - 8 * 1 + 4294967288) = nI (24 - 8 * 2) := by decide +kernel
  have w3 : nI (24 - 8 * 2 + 4294967288) = nI (24 - 8 * 3) := by decide +kernel
  have w4 : (nI (24 - 8 * 3 + 4294967288) < 0) = True := eq_true (by decide +kernel)
  have q0 := st 0 (by decide) (f + 5)
  have q1 := st 1 (by decide) (f + 4)
  have q2 := st 2 (by decide) (f + 3)
  have q3 := st 3 (by decide) (f + 2)
  rw [w1] at q0
  rw [w2] at q1
  rw [w3] at q2
  have q4 : a_go X tx (a_ex X tx a_T d) k_Mo_four_0 (f + 2) 2 [.ref 234, .int (nI x), .int (nI (24 - 8 * 3 + 4294967288))] (b_h (w_addM m x 4) j w) = some (b_h (w_addM m x 4) j w, none) := by
    rw [l_Mo_four_2, q_Mo_four_2]
    simp only [w4, if_true]
  exact q0.trans (q1.trans (q2.trans (q3.trans q4)))
theorem w_addC_n {x n : Nat} : w_addC m x n 1 2 = m 1 2 + n := by unfold w_addC; rw [b_rn (by decide), b_rs, b_ss]
theorem w_addM_n {x n : Nat} : w_addM m x n 234 2 = m 234 2 + n := by unfold w_addM; rw [b_rn (by decide), b_rs, b_ss]
theorem w_addC_o {x n c : Nat} (h1 : c ≠ 1) (h2 : c ≠ 2) : w_addC m x n c = m c := by unfold w_addC; rw [b_rn h2, b_rn h1]
theorem w_addM_o {x n c : Nat} (h1 : c ≠ 234) (h2 : c ≠ 235) : w_addM m x n c = m c := by unfold w_addM; rw [b_rn h2, b_rn h1]
theorem w_addM_s {x n k : Nat} (h : k ≠ 2) : w_addM m x n 234 k = m 234 k := by unfold w_addM; rw [b_rn (by decide), b_rs, b_sn h]
theorem r_T_add {n : Nat} {b b2 : Nat → Nat} {x : Nat} (h : r_T n n b b2) (hn : n + 4 ≤ 940) : r_T (n + 4) (n + 4) (b_rg b n 4 (w_byk x)) (b_rg b2 n 4 (w_sbk x)) := by
  obtain ⟨h1, h2, h3⟩ := h
  refine ⟨rfl, hn, fun i hi => ?_⟩
  by_cases c : i < n
  · rw [b_rgo (by omega), b_rgo (by omega)]; exact h3 i c
  · rw [b_rgi (by omega) (by omega), b_rgi (by omega) (by omega)]
    exact ⟨w_by_lt _ _, w_sb_mod _ _ (by omega)⟩
/-- the tapes of one memory -/
def r_TT (m : Nat → Nat → Nat) : Prop := r_T (m 1 2) (m 234 2) (m 2) (m 235)
theorem r_TT_add {m1 m2 : Nat → Nat → Nat} {x : Nat} (h : r_T (m1 1 2) (m2 234 2) (m1 2) (m2 235)) (hn : m1 1 2 + 4 ≤ 940) : r_T (w_addC m1 x 4 1 2) (w_addM m2 x 4 234 2) (w_addC m1 x 4 2) (w_addM m2 x 4 235) := by
  have h1 := h.1
  rw [w_addC_n, w_addM_n, h1]
  rw [h1] at h
  have e1 : w_addC m1 x 4 2 = b_rg (m1 2) (m1 1 2) 4 (w_byk x) := by unfold w_addC; rw [b_rs]
  have e2 : w_addM m2 x 4 235 = b_rg (m2 235) (m1 1 2) 4 (w_sbk x) := by unfold w_addM; rw [b_rs, h1]
  rw [e1, e2]
  exact r_T_add h hn
theorem s_EM_feed (hs : m 1 2 + 20 ≤ 940) (hD : 2 ≤ D) {a b c d2 e : Nat} : a_ex X tx a_T D 152 [.ref 0, .int (nI a), .int (nI b), .int (nI c), .int (nI d2), .int (nI e)] (b_h m j w) = some ((b_h (w_addC (w_addC (w_addC (w_addC (w_addC m a 4) b 4) c 4) d2 4) e 4) j w), some (.int (nI (m 1 2 + 20)))) := by
  obtain ⟨d, rfl⟩ : ∃ d, D = d + 1 := ⟨D - 1, by omega⟩
  rw [e_EM_feed, q_EM_feed_0]
  have s1 := s_Ta_add (X := X) (tx := tx) (D := d) (m := m) (j := j) (w := w) (by omega) (by omega) (x := a)
  have s2 := s_Ta_add (X := X) (tx := tx) (D := d) (m := w_addC m a 4) (j := j) (w := w) (by rw [w_addC_n]; omega) (by omega) (x := b)
  have s3 := s_Ta_add (X := X) (tx := tx) (D := d) (m := w_addC (w_addC m a 4) b 4) (j := j) (w := w) (by rw [w_addC_n, w_addC_n]; omega) (by omega) (x := c)
  have s4 := s_Ta_add (X := X) (tx := tx) (D := d) (m := w_addC (w_addC (w_addC m a 4) b 4) c 4) (j := j) (w := w) (by rw [w_addC_n, w_addC_n, w_addC_n]; omega) (by omega) (x := d2)
  have s5 := s_Ta_add (X := X) (tx := tx) (D := d) (m := w_addC (w_addC (w_addC (w_addC m a 4) b 4) c 4) d2 4) (j := j) (w := w) (by rw [w_addC_n, w_addC_n, w_addC_n, w_addC_n]; omega) (by omega) (x := e)
  simp (disch := omega) only [s1, s2, s3, s4, s5, w_addC_n, ↓bc_0, ↓br_0_0, ↓bc_1, ↓b_t0, ↓b_t1, ↓b_t2, ↓b_t3, ↓b_t4, ↓b_t5, ↓b_t6, Nat.zero_add, Nat.le_refl, b_rs, b_rn, b_r2, b_ss, b_sn, b_bt, b_bf, b_b0, b_b1, b_bw, b_shl, b_or, b_iv, b_jv, b_sI, b_sJ, ↓z_hl, z_b0, z_b1, z_b2, b_and1c, b_and1z, if_true, if_false, nI_add, pk_mul, b_cl, b_lt, b_le, b_eq, b_eq0, b_le0, b_0lt, b_0le, b_lt0]
  rw [if_pos hs]
theorem s_EM_feedN (hs : ¬ m 1 2 + 20 ≤ 940) (hn : m 1 2 ≤ 940) (hD : 2 ≤ D) {a b c d2 e : Nat} : a_ex X tx a_T D 152 [.ref 0, .int (nI a), .int (nI b), .int (nI c), .int (nI d2), .int (nI e)] (b_h m j w) = some ((b_h m j w), some (.int (nI (4294967295)))) := by
  obtain ⟨d, rfl⟩ : ∃ d, D = d + 1 := ⟨D - 1, by omega⟩
  rw [e_EM_feed, q_EM_feed_0]
  simp (disch := omega) only [↓bc_0, ↓br_0_0, ↓bc_1, ↓b_t0, ↓b_t1, ↓b_t2, ↓b_t3, ↓b_t4, ↓b_t5, ↓b_t6, Nat.zero_add, Nat.le_refl, b_rs, b_rn, b_r2, b_ss, b_sn, b_bt, b_bf, b_b0, b_b1, b_bw, b_shl, b_or, b_iv, b_jv, b_sI, b_sJ, ↓z_hl, z_b0, z_b1, z_b2, b_and1c, b_and1z, if_true, if_false, nI_add, pk_mul, b_cl, b_lt, b_le, b_eq, b_eq0, b_le0, b_0lt, b_0le, b_lt0]
  rw [if_neg hs]
theorem s_Mo_feed (hs : m 234 2 + 20 ≤ 940) (hD : 2 ≤ D) {a b c d2 e : Nat} : a_ex X tx a_T D 197 [.ref 234, .int (nI a), .int (nI b), .int (nI c), .int (nI d2), .int (nI e)] (b_h m j w) = some ((b_h (w_addM (w_addM (w_addM (w_addM (w_addM (b_r m 234 (b_s (m 234) 0 0)) a 4) b 4) c 4) d2 4) e 4) j w), some (.int (nI (m 234 2 + 20)))) := by
  obtain ⟨d, rfl⟩ : ∃ d, D = d + 1 := ⟨D - 1, by omega⟩
  rw [e_Mo_feed, q_Mo_feed_0]
  have e0 : (b_r m 234 (b_s (m 234) 0 0)) 234 2 = m 234 2 := by rw [b_rs, b_sn (by decide)]
  generalize hm : b_r m 234 (b_s (m 234) 0 0) = m0 at e0
  have s1 := s_Mo_four (X := X) (tx := tx) (D := d) (m := m0) (j := j) (w := w) (by omega) (by omega) (x := a)
  have s2 := s_Mo_four (X := X) (tx := tx) (D := d) (m := w_addM m0 a 4) (j := j) (w := w) (by rw [w_addM_n]; omega) (by omega) (x := b)
  have s3 := s_Mo_four (X := X) (tx := tx) (D := d) (m := w_addM (w_addM m0 a 4) b 4) (j := j) (w := w) (by rw [w_addM_n, w_addM_n]; omega) (by omega) (x := c)
  have s4 := s_Mo_four (X := X) (tx := tx) (D := d) (m := w_addM (w_addM (w_addM m0 a 4) b 4) c 4) (j := j) (w := w) (by rw [w_addM_n, w_addM_n, w_addM_n]; omega) (by omega) (x := d2)
  have s5 := s_Mo_four (X := X) (tx := tx) (D := d) (m := w_addM (w_addM (w_addM (w_addM m0 a 4) b 4) c 4) d2 4) (j := j) (w := w) (by rw [w_addM_n, w_addM_n, w_addM_n, w_addM_n]; omega) (by omega) (x := e)
  simp (disch := omega) only [hm, s1, s2, s3, s4, s5, w_addM_n, e0, ↓bc_234, ↓b_t0, ↓b_t1, ↓b_t2, ↓b_t3, ↓b_t4, ↓b_t5, ↓b_t6, Nat.zero_add, Nat.le_refl, b_rs, b_rn, b_r2, b_ss, b_sn, b_bt, b_bf, b_b0, b_b1, b_bw, b_shl, b_or, b_iv, b_jv, b_sI, b_sJ, ↓z_hl, z_b0, z_b1, z_b2, b_and1c, b_and1z, if_true, if_false, nI_add, pk_mul, b_cl, b_lt, b_le, b_eq, b_eq0, b_le0, b_0lt, b_0le, b_lt0]
  rw [if_pos hs]
theorem s_Mo_feedN (hs : ¬ m 234 2 + 20 ≤ 940) (hn : m 234 2 ≤ 940) (hD : 2 ≤ D) {a b c d2 e : Nat} : a_ex X tx a_T D 197 [.ref 234, .int (nI a), .int (nI b), .int (nI c), .int (nI d2), .int (nI e)] (b_h m j w) = some ((b_h (b_r m 234 (b_s (m 234) 0 0)) j w), some (.int (nI (4294967295)))) := by
  obtain ⟨d, rfl⟩ : ∃ d, D = d + 1 := ⟨D - 1, by omega⟩
  rw [e_Mo_feed, q_Mo_feed_0]
  simp (disch := omega) only [↓bc_234, ↓b_t0, ↓b_t1, ↓b_t2, ↓b_t3, ↓b_t4, ↓b_t5, ↓b_t6, Nat.zero_add, Nat.le_refl, b_rs, b_rn, b_r2, b_ss, b_sn, b_bt, b_bf, b_b0, b_b1, b_bw, b_shl, b_or, b_iv, b_jv, b_sI, b_sJ, ↓z_hl, z_b0, z_b1, z_b2, b_and1c, b_and1z, if_true, if_false, nI_add, pk_mul, b_cl, b_lt, b_le, b_eq, b_eq0, b_le0, b_0lt, b_0le, b_lt0]
  rw [if_neg hs]
/-- what calls that read the tape leave as it is -/
def w_same2 (m m2 : Nat → Nat → Nat) : Prop :=
  (∀ c, (4 ≤ c ∧ c ≤ 14) ∨ (26 ≤ c ∧ c ≤ 37) ∨ (50 ≤ c ∧ c ≤ 151) ∨ c = 163 ∨ c = 171 ∨ (178 ≤ c ∧ c ≤ 233) ∨ c = 236 ∨ c = 241 ∨ c = 244 ∨ c = 247 ∨ c = 251 ∨ c = 254 ∨ c = 256 → m2 c = m c) ∧
  (∀ k, k = 15 ∨ k = 16 → m2 0 k = m 0 k) ∧ (∀ k, 6 ≤ k → m2 156 k = m 156 k) ∧ m2 162 3 = m 162 3 ∧ m2 167 7 = m 167 7 ∧
  (∀ k, k = 23 ∨ k = 26 ∨ (30 ≤ k ∧ k ≤ 36) ∨ k = 43 → m2 234 k = m 234 k)
theorem w_same2_rf {m : Nat → Nat → Nat} : w_same2 m m := ⟨fun _ _ => rfl, fun _ _ => rfl, fun _ _ => rfl, rfl, rfl, fun _ _ => rfl⟩
theorem w_same2_tr {m m2 m3 : Nat → Nat → Nat} (h : w_same2 m m2) (g : w_same2 m2 m3) : w_same2 m m3 :=
  ⟨fun c hc => (g.1 c hc).trans (h.1 c hc), fun k hk => (g.2.1 k hk).trans (h.2.1 k hk), fun k hk => (g.2.2.1 k hk).trans (h.2.2.1 k hk), g.2.2.2.1.trans h.2.2.2.1, g.2.2.2.2.1.trans h.2.2.2.2.1, fun k hk => (g.2.2.2.2.2 k hk).trans (h.2.2.2.2.2 k hk)⟩
theorem r_R_txt {m m2 j : Nat → Nat → Nat} (h : r_R m j) (hw : w_same2 m m2) (h1 : r_TT m2) (h2 : m2 0 14 = m2 234 15) : r_R m2 j := by
  obtain ⟨w1, w2, w4, w5, w6, w7⟩ := hw
  have hS := r_R_st h
  have e236 := w1 236 (by omega)
  unfold r_R
  rw [e236]
  refine ⟨hS, r_R_dy h, c_F_ext (fun c p1 p2 => w1 c (by omega)) (fun _ _ => rfl) hS (r_R_fa h), c_A_ext (fun c p1 p2 => w1 c (by omega)) (r_R_af h), h1, h2, ?_, ?_, ?_, ?_, ?_, ?_, ?_, ?_, ?_, r_R_wd h, ?_⟩
  · rw [w1 6 (by omega), w1 7 (by omega), w1 4 (by omega)]; exact r_R_nm h
  · rw [w1 241 (by omega), w7 23 (by omega)]; exact r_P_ext (fun c p1 p2 => w1 c (by omega)) (fun _ _ => rfl) (r_R_pa h)
  · rw [w1 148 (by omega), w1 149 (by omega), w1 150 (by omega), w1 151 (by omega)]; exact r_R_cl h
  · obtain ⟨g1, g2, g3⟩ := r_R_to h
    rw [w4 6 (by omega), w7 43 (by omega)]
    exact ⟨g1, g2, fun hn k hk => by rw [w4 (7 + k) (by omega), w1 251 (by omega)]; exact g3 hn k hk⟩
  · rw [w5, w7 26 (by omega), w1 163 (by omega), w1 244 (by omega)]; exact r_R_ro h
  · rw [w7 30 (by omega), w1 171 (by omega), w1 247 (by omega)]; exact r_R_sr h
  · rw [w7 32 (by omega), w7 31 (by omega), w6]; exact r_R_tr h
  · rw [w7 34 (by omega), w7 33 (by omega), w2 15 (by omega)]; exact r_R_sk h
  · rw [w7 36 (by omega), w7 35 (by omega), w2 16 (by omega)]; exact r_R_rd h
  · intro k hk
    obtain ⟨g1, g2, g3⟩ := r_R_im h k hk
    rw [w1 (178 + 28 * k) (by omega), w1 256 (by omega)]
    refine ⟨g1, g2, fun hn => ?_⟩
    have e1 : w_imS m2 k = w_imS m k := by unfold w_imS; rw [w1 254 (by omega)]
    rw [e1]
    exact r_I_ext (fun c p1 p2 => w1 c (by omega)) rfl (g3 hn)
theorem w_addC_same {x : Nat} : w_same2 m (w_addC m x 4) :=
  ⟨fun c hc => w_addC_o (by omega) (by omega), fun k _ => by rw [w_addC_o (by omega) (by omega)], fun k _ => by rw [w_addC_o (by omega) (by omega)], by rw [w_addC_o (by omega) (by omega)], by rw [w_addC_o (by omega) (by omega)], fun k _ => by rw [w_addC_o (by omega) (by omega)]⟩
theorem w_addM_same {x : Nat} : w_same2 m (w_addM m x 4) :=
  ⟨fun c hc => w_addM_o (by omega) (by omega), fun k _ => by rw [w_addM_o (by omega) (by omega)], fun k _ => by rw [w_addM_o (by omega) (by omega)], by rw [w_addM_o (by omega) (by omega)], by rw [w_addM_o (by omega) (by omega)], fun k hk => w_addM_s (by omega)⟩
theorem t_feed (h : r_R m j) (hD : 10 ≤ D) {a b c d e : Nat} : w_step X tx D 152 197 [.int (nI a), .int (nI b), .int (nI c), .int (nI d), .int (nI e)] m j w := by
  have hT := r_R_tp h
  have h1 := hT.1
  have h2 := hT.2.1
  by_cases c1 : m 1 2 + 20 ≤ 940
  · have e234 : ∀ q : Nat → Nat → Nat, ∀ x, w_addC q x 4 234 = q 234 := fun q x => w_addC_o (by decide) (by decide)
    have e235 : ∀ q : Nat → Nat → Nat, ∀ x, w_addC q x 4 235 = q 235 := fun q x => w_addC_o (by decide) (by decide)
    have g1 : ∀ q : Nat → Nat → Nat, ∀ x, w_addM q x 4 1 = q 1 := fun q x => w_addM_o (by decide) (by decide)
    have g2 : ∀ q : Nat → Nat → Nat, ∀ x, w_addM q x 4 2 = q 2 := fun q x => w_addM_o (by decide) (by decide)
    have k0 : ∀ q : Nat → Nat → Nat, ∀ x, w_addM q x 4 0 = q 0 := fun q x => w_addM_o (by decide) (by decide)
    have k1 : ∀ q : Nat → Nat → Nat, ∀ x, w_addC q x 4 0 = q 0 := fun q x => w_addC_o (by decide) (by decide)
    have k15 : ∀ q : Nat → Nat → Nat, ∀ x, w_addM q x 4 234 15 = q 234 15 := fun q x => w_addM_s (by decide)
    have s1 := s_Mo_feed (X := X) (tx := tx) (D := D) (m := w_addC (w_addC (w_addC (w_addC (w_addC m a 4) b 4) c 4) d 4) e 4) (j := j) (w := w) (by rw [e234, e234, e234, e234, e234]; omega) (by omega) (a := a) (b := b) (c := c) (d2 := d) (e := e)
    rw [show (w_addC (w_addC (w_addC (w_addC (w_addC m a 4) b 4) c 4) d 4) e 4) 234 2 = m 1 2 by rw [e234, e234, e234, e234, e234, h1]] at s1
    refine ⟨_, j, _, j, _, s_EM_feed c1 (by omega), s1, ?_⟩
    · have q5 : w_same2 m (w_addC (w_addC (w_addC (w_addC (w_addC m a 4) b 4) c 4) d 4) e 4) := w_same2_tr (w_same2_tr (w_same2_tr (w_same2_tr w_addC_same w_addC_same) w_addC_same) w_addC_same) w_addC_same
      have q6 : ∀ q : Nat → Nat → Nat, w_same2 q (b_r q 234 (b_s (q 234) 0 0)) := fun q => ⟨fun c hc => b_rn (by omega), fun k _ => by rw [b_rn (by omega)], fun k _ => by rw [b_rn (by omega)], by rw [b_rn (by omega)], by rw [b_rn (by omega)], fun k hk => by rw [b_rs, b_sn (by omega)]⟩
      have q7 : ∀ q : Nat → Nat → Nat, w_same2 q (w_addM (w_addM (w_addM (w_addM (w_addM q a 4) b 4) c 4) d 4) e 4) := fun q => w_same2_tr (w_same2_tr (w_same2_tr (w_same2_tr w_addM_same w_addM_same) w_addM_same) w_addM_same) w_addM_same
      refine r_R_txt h (w_same2_tr q5 (w_same2_tr (q6 _) (q7 _))) ?_ ?_
      · unfold r_TT
        rw [g1, g1, g1, g1, g1, b_rn (by decide), g2, g2, g2, g2, g2, b_rn (by decide)]
        refine r_TT_add (r_TT_add (r_TT_add (r_TT_add (r_TT_add ?_ ?_) ?_) ?_) ?_) ?_
        · rw [b_rs, b_sn (by decide), e234, e234, e234, e234, e234, b_rn (by decide), e235, e235, e235, e235, e235]
          exact hT
        · exact Nat.le_trans (by omega) c1
        · rw [w_addC_n]; omega
        · rw [w_addC_n, w_addC_n]; omega
        · rw [w_addC_n, w_addC_n, w_addC_n]; omega
        · rw [w_addC_n, w_addC_n, w_addC_n, w_addC_n]; omega
      · rw [k0, k0, k0, k0, k0, b_rn (by decide), k1, k1, k1, k1, k1, k15, k15, k15, k15, k15, b_rs, b_sn (by decide), e234, e234, e234, e234, e234]
        exact r_R_ft h
  · exact ⟨m, j, _, j, _, s_EM_feedN c1 h2 (by omega), s_Mo_feedN (by omega) (by omega) (by omega), r_R_thr h⟩
theorem s_EM_end (hn : m 1 2 ≤ 940) (hD : 1 ≤ D) {n : Nat} (hx : n < 4294967296) : a_ex X tx a_T D 153 [.ref 0, .int (nI n)] (b_h m j w) = some ((b_h (if n ≤ m 1 2 then b_r m 1 (b_s (m 1) 2 n) else m) j w), some (.int (nI (b_b (decide (n ≤ m 1 2)))))) := by
  obtain ⟨d, rfl⟩ : ∃ d, D = d + 1 := ⟨D - 1, by omega⟩
  rw [e_EM_end, q_EM_end_0]
  by_cases c : n < 2147483648
  · by_cases c1 : n ≤ m 1 2
    · simp (disch := omega) only [↓bc_0, ↓br_0_0, ↓bc_1, ↓b_t0, ↓b_t1, ↓b_t2, ↓b_t3, ↓b_t4, ↓b_t5, ↓b_t6, Nat.zero_add, Nat.le_refl, b_rs, b_rn, b_r2, b_ss, b_sn, b_bt, b_bf, b_b0, b_b1, b_bw, b_shl, b_or, b_iv, b_jv, b_sI, b_sJ, ↓z_hl, z_b0, z_b1, z_b2, b_and1c, b_and1z, if_true, if_false, nI_add, pk_mul, b_cl, b_lt, b_le, b_eq, b_eq0, b_le0, b_0lt, b_0le, b_lt0]
      rw [if_pos c1, if_pos c1, decide_eq_true c1]; rfl
    · simp (disch := omega) only [↓bc_0, ↓br_0_0, ↓bc_1, ↓b_t0, ↓b_t1, ↓b_t2, ↓b_t3, ↓b_t4, ↓b_t5, ↓b_t6, Nat.zero_add, Nat.le_refl, b_rs, b_rn, b_r2, b_ss, b_sn, b_bt, b_bf, b_b0, b_b1, b_bw, b_shl, b_or, b_iv, b_jv, b_sI, b_sJ, ↓z_hl, z_b0, z_b1, z_b2, b_and1c, b_and1z, if_true, if_false, nI_add, pk_mul, b_cl, b_lt, b_le, b_eq, b_eq0, b_le0, b_0lt, b_0le, b_lt0]
      rw [if_neg c1, if_neg c1, decide_eq_false c1]; rfl
  · have e1 : (nI n < 0) = True := b_lt0n (by omega) hx
    simp (disch := omega) only [e1, ↓bc_0, ↓br_0_0, ↓bc_1, ↓b_t0, ↓b_t1, ↓b_t2, ↓b_t3, ↓b_t4, ↓b_t5, ↓b_t6, Nat.zero_add, Nat.le_refl, b_rs, b_rn, b_r2, b_ss, b_sn, b_bt, b_bf, b_b0, b_b1, b_bw, b_shl, b_or, b_iv, b_jv, b_sI, b_sJ, ↓z_hl, z_b0, z_b1, z_b2, b_and1c, b_and1z, if_true, if_false, nI_add, pk_mul, b_cl, b_lt, b_le, b_eq, b_eq0, b_le0, b_0lt, b_0le, b_lt0]
    rw [if_neg (by omega), decide_eq_false (by omega)]; rfl
theorem s_Mo_end (hn : m 234 2 ≤ 940) (hD : 1 ≤ D) {n : Nat} (hx : n < 4294967296) : a_ex X tx a_T D 199 [.ref 234, .int (nI n)] (b_h m j w) = some ((b_h (b_r m 234 (if n ≤ m 234 2 then b_s (b_s (m 234) 0 0) 2 n else b_s (m 234) 0 0)) j w), some (.int (nI (b_b (decide (n ≤ m 234 2)))))) := by
  obtain ⟨d, rfl⟩ : ∃ d, D = d + 1 := ⟨D - 1, by omega⟩
  rw [e_Mo_end, q_Mo_end_0]
  by_cases c : n < 2147483648
  · by_cases c1 : n ≤ m 234 2
    · simp (disch := omega) only [↓bc_234, ↓b_t0, ↓b_t1, ↓b_t2, ↓b_t3, ↓b_t4, ↓b_t5, ↓b_t6, Nat.zero_add, Nat.le_refl, b_rs, b_rn, b_r2, b_ss, b_sn, b_bt, b_bf, b_b0, b_b1, b_bw, b_shl, b_or, b_iv, b_jv, b_sI, b_sJ, ↓z_hl, z_b0, z_b1, z_b2, b_and1c, b_and1z, if_true, if_false, nI_add, pk_mul, b_cl, b_lt, b_le, b_eq, b_eq0, b_le0, b_0lt, b_0le, b_lt0]
      rw [if_pos c1, if_pos c1, decide_eq_true c1]; rfl
    · simp (disch := omega) only [↓bc_234, ↓b_t0, ↓b_t1, ↓b_t2, ↓b_t3, ↓b_t4, ↓b_t5, ↓b_t6, Nat.zero_add, Nat.le_refl, b_rs, b_rn, b_r2, b_ss, b_sn, b_bt, b_bf, b_b0, b_b1, b_bw, b_shl, b_or, b_iv, b_jv, b_sI, b_sJ, ↓z_hl, z_b0, z_b1, z_b2, b_and1c, b_and1z, if_true, if_false, nI_add, pk_mul, b_cl, b_lt, b_le, b_eq, b_eq0, b_le0, b_0lt, b_0le, b_lt0]
      rw [if_neg c1, if_neg c1, decide_eq_false c1]; rfl
  · have e1 : (nI n < 0) = True := b_lt0n (by omega) hx
    simp (disch := omega) only [e1, ↓bc_234, ↓b_t0, ↓b_t1, ↓b_t2, ↓b_t3, ↓b_t4, ↓b_t5, ↓b_t6, Nat.zero_add, Nat.le_refl, b_rs, b_rn, b_r2, b_ss, b_sn, b_bt, b_bf, b_b0, b_b1, b_bw, b_shl, b_or, b_iv, b_jv, b_sI, b_sJ, ↓z_hl, z_b0, z_b1, z_b2, b_and1c, b_and1z, if_true, if_false, nI_add, pk_mul, b_cl, b_lt, b_le, b_eq, b_eq0, b_le0, b_0lt, b_0le, b_lt0]
    rw [if_neg (by omega), decide_eq_false (by omega)]; rfl
theorem t_end (h : r_R m j) (hD : 10 ≤ D) {n : Nat} (hx : n < 4294967296) : w_step X tx D 153 199 [.int (nI n)] m j w := by
  have hT := r_R_tp h
  have h1 := hT.1
  have h2 := hT.2.1
  by_cases c : n ≤ m 1 2
  · refine ⟨b_r m 1 (b_s (m 1) 2 n), j, _, j, _, (by rw [s_EM_end h2 (by omega) hx, if_pos c]), (by rw [s_Mo_end (by rw [b_rn (by decide)]; omega) (by omega) hx, b_rn (c := 1) (c2 := 234) (by decide), h1]), ?_⟩
    rw [if_pos c]
    refine r_R_txt h ⟨fun c hc => by rw [b_rn (by omega), b_rn (by omega)], fun k _ => by rw [b_rn (by omega), b_rn (by omega)], fun k _ => by rw [b_rn (by omega), b_rn (by omega)], by rw [b_rn (by omega), b_rn (by omega)], by rw [b_rn (by omega), b_rn (by omega)], fun k hk => by rw [b_rs, b_sn (by omega), b_sn (by omega)]⟩ ?_ ?_
    · unfold r_TT
      rw [b_rn (by decide), b_rs, b_ss, b_rs, b_ss, b_rn (by decide), b_rn (by decide), b_rn (by decide), b_rn (by decide)]
      exact ⟨rfl, by omega, fun i hi => hT.2.2 i (by omega)⟩
    · rw [b_rn (by decide), b_rn (by decide), b_rs, b_sn (by decide), b_sn (by decide)]
      exact r_R_ft h
  · refine ⟨m, j, _, j, _, (by rw [s_EM_end h2 (by omega) hx, if_neg c]), (by rw [s_Mo_end (by omega) (by omega) hx, h1, if_neg c]), r_R_thr h⟩
end FE
