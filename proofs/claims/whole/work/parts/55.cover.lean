/-! MATCHES: as few endings as can go with all -/
def w_nd (s : Nat → Nat) (set t : Nat) : Bool := set.testBit t && decide (0 < w_open s t)
def w_pc (x : Nat) : Nat := z_sum (fun i => b_b (x.testBit i)) 10
theorem w_pc_le (x : Nat) : w_pc x ≤ 10 := by
  have := z_sum_le (g := fun i => b_b (x.testBit i)) (b := 1) 10 (fun i _ => by have := b_b_lt (x.testBit i); omega)
  unfold w_pc
  omega
theorem w_pc_and : ∀ x, x < 1024 → x ≠ 0 → w_pc (x &&& (x - 1)) + 1 = w_pc x := by decide +kernel
theorem w_and_lt {x : Nat} (h : x ≠ 0) : x &&& (x - 1) < x := Nat.lt_of_le_of_lt Nat.and_le_right (by omega)
theorem b_ushr1 (x : Nat) : ((nI x).toUInt32 >>> ((nI 1).toUInt32 &&& Int32.toUInt32 31)).toInt32 = nI (x % 4294967296 / 2) := by
  have e : ((nI 1).toUInt32 &&& Int32.toUInt32 31) = 1 := by decide +kernel
  rw [e]
  unfold nI
  apply Int32.toBitVec_inj.mp
  apply BitVec.eq_of_toNat_eq
  rw [Int32.toBitVec_ofNat']
  simp [Nat.shiftRight_eq_div_pow]
  omega
theorem b_ushr2 (x : Nat) : ((nI x).toUInt32 >>> ((nI 2).toUInt32 &&& Int32.toUInt32 31)).toInt32 = nI (x % 4294967296 / 4) := by
  have e : ((nI 2).toUInt32 &&& Int32.toUInt32 31) = 2 := by decide +kernel
  rw [e]
  unfold nI
  apply Int32.toBitVec_inj.mp
  apply BitVec.eq_of_toNat_eq
  rw [Int32.toBitVec_ofNat']
  simp [Nat.shiftRight_eq_div_pow]
  omega
theorem b_ushr4 (x : Nat) : ((nI x).toUInt32 >>> ((nI 4).toUInt32 &&& Int32.toUInt32 31)).toInt32 = nI (x % 4294967296 / 16) := by
  have e : ((nI 4).toUInt32 &&& Int32.toUInt32 31) = 4 := by decide +kernel
  rw [e]
  unfold nI
  apply Int32.toBitVec_inj.mp
  apply BitVec.eq_of_toNat_eq
  rw [Int32.toBitVec_ofNat']
  simp [Nat.shiftRight_eq_div_pow]
  omega
theorem b_ushr16 (x : Nat) : ((nI x).toUInt32 >>> ((nI 16).toUInt32 &&& Int32.toUInt32 31)).toInt32 = nI (x % 4294967296 / 65536) := by
  have e : ((nI 16).toUInt32 &&& Int32.toUInt32 31) = 16 := by decide +kernel
  rw [e]
  unfold nI
  apply Int32.toBitVec_inj.mp
  apply BitVec.eq_of_toNat_eq
  rw [Int32.toBitVec_ofNat']
  simp [Nat.shiftRight_eq_div_pow]
  omega
def w_b1 (x : Nat) : Nat := x - (x % 4294967296 / 2 &&& 1431655765)
def w_b2 (x : Nat) : Nat := (x &&& 858993459) + (x % 4294967296 / 4 &&& 858993459)
def w_b3 (x : Nat) : Nat := x + x % 4294967296 / 16 &&& 252645135
def w_b4 (x : Nat) : Nat := x + x % 4294967296 / 256
def w_b5 (x : Nat) : Nat := x + x % 4294967296 / 65536 &&& 63
theorem w_pcN : ∀ x, x < 1024 → w_b5 (w_b4 (w_b3 (w_b2 (w_b1 x)))) = w_pc x := by decide +kernel
section CV
variable {X : Nat × (Nat → Int32)} {tx : List Int32} {D : Nat} {m j : Nat → Nat → Nat} {w : (Nat × Nat) × Bool} {s : Nat → Nat}
theorem s_Ji_bitCount (hD : 1 ≤ D) {x : Nat} (hx : x < 1024) : a_ex X tx a_T D 314 [.int (nI x)] (b_h m j w) = some ((b_h m j w), some (.int (nI (w_pc x)))) := by
  obtain ⟨d, rfl⟩ : ∃ d, D = d + 1 := ⟨D - 1, by omega⟩
  rw [e_Ji_bitCount, q_Ji_bitCount_0]
  have hs : nI x - nI (x % 4294967296 / 2 &&& 1431655765) = nI (x - (x % 4294967296 / 2 &&& 1431655765)) := b_sub (Nat.le_trans Nat.and_le_left (by omega))
  simp only [b_ushr1, b_ushr2, b_ushr4, b_ushr8, b_ushr16, b_and, hs, nI_add]
  clear hs
  exact congrArg (fun v => some (b_h m j w, some (Value.int (nI v)))) (w_pcN x hx)
theorem s_Mo_bits (hD : 1 ≤ D) {x : Nat} (hx : x < 1024) : a_ex X tx a_T D 204 [.int (nI x)] (b_h m j w) = some ((b_h m j w), some (.int (nI (w_pc x)))) := by
  obtain ⟨d, rfl⟩ : ∃ d, D = d + 1 := ⟨D - 1, by omega⟩
  rw [e_Mo_bits, q_Mo_bits_0]
  rw [← l_Mo_bits_4]
  refine z_run (Q := fun r => r = some (b_h m j w, some (.int (nI (w_pc x))))) (fun k L h => ∃ c y, y ≤ k ∧ y < 1024 ∧ c + w_pc y = w_pc x ∧ L = [.int (nI x), .int (nI c), .int (nI y)] ∧ h = b_h m j w) 0 ?_ x _ _ ⟨0, x, by omega, hx, by omega, rfl, rfl⟩ _ (z_fu (by omega))
  rintro k L h ⟨c, y, h1, h2, h3, rfl, rfl⟩ f _
  rw [l_Mo_bits_4, q_Mo_bits_4]
  by_cases hy : y = 0
  · left
    subst hy
    have h4 : w_pc 0 = 0 := by decide
    simp (disch := omega) only [↓b_t0, ↓b_t1, ↓b_t2, ↓b_t3, ↓b_t4, ↓b_t5, ↓b_t6, Nat.zero_add, Nat.le_refl, b_rs, b_rn, b_r2, b_ss, b_sn, b_bt, b_bf, b_b0, b_b1, b_bw, b_shl, b_or, b_iv, b_jv, b_sI, b_sJ, ↓z_hl, z_b0, z_b1, z_b2, b_and1c, b_and1z, if_true, if_false, nI_add, pk_mul, b_cl, b_lt, b_le, b_eq, b_eq0, b_le0, b_0lt, b_0le, b_lt0]
    rw [show c = w_pc x by omega]
  · right
    have h4 := w_pc_and y h2 hy
    have h5 := w_and_lt hy
    refine ⟨k - 1, [.int (nI x), .int (nI (c + 1)), .int (nI (y &&& (y - 1)))], _, by omega, ⟨c + 1, y &&& (y - 1), by omega, by omega, by omega, rfl, rfl⟩, ?_⟩
    simp (disch := omega) only [b_sub, b_and, ↓b_t0, ↓b_t1, ↓b_t2, ↓b_t3, ↓b_t4, ↓b_t5, ↓b_t6, Nat.zero_add, Nat.le_refl, b_rs, b_rn, b_r2, b_ss, b_sn, b_bt, b_bf, b_b0, b_b1, b_bw, b_shl, b_or, b_iv, b_jv, b_sI, b_sJ, ↓z_hl, z_b0, z_b1, z_b2, b_and1c, b_and1z, if_true, if_false, nI_add, pk_mul, b_cl, b_lt, b_le, b_eq, b_eq0, b_le0, b_0lt, b_0le, b_lt0]
    rw [if_neg hy]
theorem s_Mo_needs (hS : i_S (m 236)) (hI : i_D (m 236)) (hD : 2 ≤ D) {set t : Nat} (hs : set < 256) (ht : t < 8) : a_ex X tx a_T D 268 [.ref 234, .int (nI set), .int (nI t)] (b_h m j w) = some ((b_h m j w), some (.int (nI (b_b (w_nd (m 236) set t))))) := by
  obtain ⟨d, rfl⟩ : ∃ d, D = d + 1 := ⟨D - 1, by omega⟩
  rw [e_Mo_needs, q_Mo_needs_0]
  have ho := w_open_le hI ht
  simp (disch := omega) only [s_Mo_bitOf, s_Mo_openOf, ↓bc_234, ↓b_t0, ↓b_t1, ↓b_t2, ↓b_t3, ↓b_t4, ↓b_t5, ↓b_t6, Nat.zero_add, Nat.le_refl, b_rs, b_rn, b_r2, b_ss, b_sn, b_bt, b_bf, b_b0, b_b1, b_bw, b_shl, b_or, b_iv, b_jv, b_sI, b_sJ, ↓z_hl, z_b0, z_b1, z_b2, b_and1c, b_and1z, if_true, if_false, nI_add, pk_mul, b_cl, b_lt, b_le, b_eq, b_eq0, b_le0, b_0lt, b_0le, b_lt0]
  unfold w_nd
  by_cases c : set.testBit t = false
  · rw [if_pos c, c]; rfl
  · rw [if_neg c, eq_true_of_ne_false c]
    by_cases c2 : w_open (m 236) t = 0
    · rw [if_pos c2, decide_eq_false (by omega)]; rfl
    · rw [if_neg c2, decide_eq_true (by omega)]; rfl
def w_goesT (s : Nat → Nat) (set x t n : Nat) : Bool := !(w_nd s set t) || z_any (fun e => x.testBit e && w_fit s e t) n
def w_goes (s : Nat → Nat) (set x : Nat) : Bool := z_all (fun t => w_goesT s set x t (s 3)) (s 2)
theorem s_Mo_goesWith (hS : i_S (m 236)) (hI : i_D (m 236)) (hD : 4 ≤ D) {set x : Nat} (hs : set < 256) (hx : x < 1024) : a_ex X tx a_T D 272 [.ref 234, .int (nI set), .int (nI x)] (b_h m j w) = some ((b_h m j w), some (.int (nI (b_b (w_goes (m 236) set x))))) := by
  obtain ⟨d, rfl⟩ : ∃ d, D = d + 1 := ⟨D - 1, by omega⟩
  rw [e_Mo_goesWith, q_Mo_goesWith_0]
  have hT := i_S_T hS
  have hE := i_S_E hS
  rw [← l_Mo_goesWith_2]
  refine z_runT (Q := fun r => r = some (b_h m j w, some (.int (nI (b_b (w_goes (m 236) set x)))))) (fun k c L h => h = b_h m j w ∧ ((∃ n u v, c = 2 ∧ k + 12 * n = 100 ∧ n ≤ m 236 2 ∧ z_all (fun t => w_goesT (m 236) set x t (m 236 3)) n = true ∧ L = [.ref 234, .int (nI set), .int (nI x), .int (nI n), u, v]) ∨ (∃ n e, c = 19 ∧ k + 12 * n + e + 1 = 100 ∧ n < m 236 2 ∧ e ≤ m 236 3 ∧ z_all (fun t => w_goesT (m 236) set x t (m 236 3)) n = true ∧ L = [.ref 234, .int (nI set), .int (nI x), .int (nI n), .int (nI (b_b (w_goesT (m 236) set x n e))), .int (nI e)]))) 0 ?_ 100 2 _ _ ⟨rfl, Or.inl ⟨0, _, _, rfl, by omega, by omega, rfl, rfl⟩⟩ _ (z_fu (by omega))
  rintro k c L h ⟨rfl, ⟨n, u, v, rfl, hk, hn, ha, rfl⟩ | ⟨n, e, rfl, hk, hn, he, ha, rfl⟩⟩ f _
  · rw [l_Mo_goesWith_2, q_Mo_goesWith_2]
    by_cases c : n = m 236 2
    · left
      have e1 : w_goes (m 236) set x = true := by unfold w_goes; rw [← c]; exact ha
      simp (disch := omega) only [↓bc_234, ↓br_234_6, ↓bc_236, ↓bx_236, bl_236, ↓b_t0, ↓b_t1, ↓b_t2, ↓b_t3, ↓b_t4, ↓b_t5, ↓b_t6, Nat.zero_add, Nat.le_refl, b_rs, b_rn, b_r2, b_ss, b_sn, b_bt, b_bf, b_b0, b_b1, b_bw, b_shl, b_or, b_iv, b_jv, b_sI, b_sJ, ↓z_hl, z_b0, z_b1, z_b2, b_and1c, b_and1z, if_true, if_false, nI_add, pk_mul, b_cl, b_lt, b_le, b_eq, b_eq0, b_le0, b_0lt, b_0le, b_lt0]
      rw [if_pos (by omega), e1]; rfl
    · right
      refine ⟨k - 1, 19, [.ref 234, .int (nI set), .int (nI x), .int (nI n), .int (nI (b_b (w_goesT (m 236) set x n 0))), .int (nI 0)], _, by omega, ⟨rfl, Or.inr ⟨n, 0, rfl, by omega, by omega, by omega, ha, rfl⟩⟩, Or.inr ?_⟩
      have e2 : w_goesT (m 236) set x n 0 = !(w_nd (m 236) set n) := by unfold w_goesT; show (!(w_nd (m 236) set n) || false) = _; rw [Bool.or_false]
      rw [e2]
      simp (disch := omega) only [s_Mo_needs hS hI, ↓bc_234, ↓br_234_6, ↓bc_236, ↓bx_236, bl_236, ↓b_t0, ↓b_t1, ↓b_t2, ↓b_t3, ↓b_t4, ↓b_t5, ↓b_t6, Nat.zero_add, Nat.le_refl, b_rs, b_rn, b_r2, b_ss, b_sn, b_bt, b_bf, b_b0, b_b1, b_bw, b_shl, b_or, b_iv, b_jv, b_sI, b_sJ, ↓z_hl, z_b0, z_b1, z_b2, b_and1c, b_and1z, if_true, if_false, nI_add, pk_mul, b_cl, b_lt, b_le, b_eq, b_eq0, b_le0, b_0lt, b_0le, b_lt0]
      rw [if_neg (by omega), l_Mo_goesWith_19]
      cases w_nd (m 236) set n <;> rfl
  · rw [l_Mo_goesWith_19, q_Mo_goesWith_19]
    by_cases c : e = m 236 3
    · subst c
      by_cases g : w_goesT (m 236) set x n (m 236 3) = true
      · right
        refine ⟨100 - 12 * (n + 1), 2, [.ref 234, .int (nI set), .int (nI x), .int (nI (n + 1)), _, _], _, by omega, ⟨rfl, Or.inl ⟨n + 1, .int (nI (b_b (w_goesT (m 236) set x n (m 236 3)))), .int (nI (m 236 3)), rfl, by omega, by omega, ?_, rfl⟩⟩, Or.inl ?_⟩
        · show (z_all (fun t => w_goesT (m 236) set x t (m 236 3)) n && w_goesT (m 236) set x n (m 236 3)) = true
          rw [ha, g]; rfl
        · rw [g]
          simp (disch := omega) only [Nat.one_ne_zero, ↓bc_234, ↓br_234_6, ↓bc_236, ↓bx_236, bl_236, ↓b_t0, ↓b_t1, ↓b_t2, ↓b_t3, ↓b_t4, ↓b_t5, ↓b_t6, Nat.zero_add, Nat.le_refl, b_rs, b_rn, b_r2, b_ss, b_sn, b_bt, b_bf, b_b0, b_b1, b_bw, b_shl, b_or, b_iv, b_jv, b_sI, b_sJ, ↓z_hl, z_b0, z_b1, z_b2, b_and1c, b_and1z, if_true, if_false, nI_add, pk_mul, b_cl, b_lt, b_le, b_eq, b_eq0, b_le0, b_0lt, b_0le, b_lt0]
      · left
        have g2 := Bool.eq_false_iff.mpr g
        have e1 : w_goes (m 236) set x = false := by
          refine Bool.eq_false_iff.mpr fun q => g ?_
          exact (z_all_iff _ _).mp q n hn
        rw [g2, e1]
        simp (disch := omega) only [↓bc_234, ↓br_234_6, ↓bc_236, ↓bx_236, bl_236, ↓b_t0, ↓b_t1, ↓b_t2, ↓b_t3, ↓b_t4, ↓b_t5, ↓b_t6, Nat.zero_add, Nat.le_refl, b_rs, b_rn, b_r2, b_ss, b_sn, b_bt, b_bf, b_b0, b_b1, b_bw, b_shl, b_or, b_iv, b_jv, b_sI, b_sJ, ↓z_hl, z_b0, z_b1, z_b2, b_and1c, b_and1z, if_true, if_false, nI_add, pk_mul, b_cl, b_lt, b_le, b_eq, b_eq0, b_le0, b_0lt, b_0le, b_lt0]
        rfl
    · right
      have e2 : w_goesT (m 236) set x n (e + 1) = (w_goesT (m 236) set x n e || (x.testBit e && w_fit (m 236) e n)) := by
        unfold w_goesT
        rw [show z_any (fun e => x.testBit e && w_fit (m 236) e n) (e + 1) = (z_any (fun e => x.testBit e && w_fit (m 236) e n) e || (x.testBit e && w_fit (m 236) e n)) from rfl, Bool.or_assoc]
      refine ⟨k - 1, 19, [.ref 234, .int (nI set), .int (nI x), .int (nI n), .int (nI (b_b (w_goesT (m 236) set x n (e + 1)))), .int (nI (e + 1))], _, by omega, ⟨rfl, Or.inr ⟨n, e + 1, rfl, by omega, by omega, by omega, ha, rfl⟩⟩, Or.inl ?_⟩
      rw [e2]
      cases g : w_goesT (m 236) set x n e with
      | true =>
        simp (disch := omega) only [Nat.one_ne_zero, ↓bc_234, ↓br_234_6, ↓bc_236, ↓bx_236, bl_236, ↓b_t0, ↓b_t1, ↓b_t2, ↓b_t3, ↓b_t4, ↓b_t5, ↓b_t6, Nat.zero_add, Nat.le_refl, b_rs, b_rn, b_r2, b_ss, b_sn, b_bt, b_bf, b_b0, b_b1, b_bw, b_shl, b_or, b_iv, b_jv, b_sI, b_sJ, ↓z_hl, z_b0, z_b1, z_b2, b_and1c, b_and1z, if_true, if_false, nI_add, pk_mul, b_cl, b_lt, b_le, b_eq, b_eq0, b_le0, b_0lt, b_0le, b_lt0]
        rw [if_neg (by omega)]; rfl
      | false =>
        simp (disch := omega) only [s_Mo_bitOf, s_Mo_doesFit hS hI, ↓bc_234, ↓br_234_6, ↓bc_236, ↓bx_236, bl_236, ↓b_t0, ↓b_t1, ↓b_t2, ↓b_t3, ↓b_t4, ↓b_t5, ↓b_t6, Nat.zero_add, Nat.le_refl, b_rs, b_rn, b_r2, b_ss, b_sn, b_bt, b_bf, b_b0, b_b1, b_bw, b_shl, b_or, b_iv, b_jv, b_sI, b_sJ, ↓z_hl, z_b0, z_b1, z_b2, b_and1c, b_and1z, if_true, if_false, nI_add, pk_mul, b_cl, b_lt, b_le, b_eq, b_eq0, b_le0, b_0lt, b_0le, b_lt0]
        rw [if_neg (by omega)]
        cases x.testBit e
        · rfl
        · cases w_fit (m 236) e n <;> rfl
/-- the least of those that are fewest -/
def w_scan (Q : Nat → Bool) : Nat → Nat
  | 0 => 4294967295
  | n + 1 => if Q n = true ∧ (w_scan Q n = 4294967295 ∨ w_pc n < w_pc (w_scan Q n)) then n else w_scan Q n
theorem w_scan_lt (Q : Nat → Bool) : ∀ n, w_scan Q n = 4294967295 ∨ w_scan Q n < n
  | 0 => Or.inl rfl
  | n + 1 => by
    unfold w_scan
    split
    · exact Or.inr (by omega)
    · rcases w_scan_lt Q n with h | h
      · exact Or.inl h
      · exact Or.inr (by omega)
end CV
