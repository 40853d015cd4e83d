/-! LEDGERS: judged, the reference's side -/
theorem b_rgrg {f g h : Nat → Nat} {a n : Nat} : b_rg (b_rg f a n g) a n h = b_rg f a n h := by
  funext i
  unfold b_rg
  by_cases c : a ≤ i ∧ i < a + n
  · rw [if_pos c, if_pos c]
  · rw [if_neg c, if_neg c, if_neg c]
theorem w_keepU_o {u s g : Nat → Nat} {k : Nat} : b_rg (w_keepU u s k) (195 * (if k = 8 then 7 else k)) 195 (fun i => g i) = w_keepU u (fun i => g (i - 157)) k := by
  unfold w_keepU
  rw [b_rgrg]
  show _ = b_rg _ _ 195 (fun i => g (157 + i - 157))
  have h : (fun i => g (157 + i - 157)) = fun i => g i := funext fun i => by rw [Nat.add_sub_cancel_left]
  rw [h]
/-- behind the judgement -/
def y_13 (m m3 : Nat → Nat → Nat) (i1 : Nat) : Prop := (∀ c, c ≠ 234 → c ≠ 236 → c ≠ 241 → c ≠ 251 → m3 c = m c) ∧ (∀ k, k ≠ 23 → k ≠ 43 → m3 234 k = m 234 k) ∧ m3 234 43 = 1 ∧ m3 251 = b_s (b_s (m 251) 2 (m 236 157)) 3 (w_ended (m 236)) ∧ (if i1 = 1 ∧ m 251 1 ≠ 0 then m3 236 = m 236 ∧ m3 234 23 = w_keepN (m 234 23) ∧ m3 241 = w_keepU (m 241) (fun i => m 242 (i - 157)) (m 234 23) else m3 234 23 = m 234 23 ∧ m3 241 = m 241 ∧ m3 236 = if i1 = 0 then b_rg (m 236) 157 195 (fun i => m 242 i) else m 236)
section EM
variable {X : Nat × (Nat → Int32)} {tx : List Int32} {D d : Nat} {m j : Nat → Nat → Nat} {w : (Nat × Nat) × Bool} {L : Nat → Nat × Nat × Nat}
theorem s_Mo_led142 {f i1 v : Nat} (hi : i1 = 1) (hf : 250 ≤ f) (hk : 1 ≤ m 234 23) (hk8 : m 234 23 ≤ 8) : a_rn X tx (a_ex X tx a_T d) (a_go X tx (a_ex X tx a_T d) k_Mo_ledger_0 f) k_Mo_ledger_142 0 [.ref 234, .int (nI i1), .int (nI v), .int (nI 0)] [] (b_h m j w) = some (b_h (b_r m 241 (b_rg (m 241) (195 * (m 234 23 - 1)) 195 fun i => m 242 i)) j w, some (.int (nI v))) := by
  subst hi
  rw [← l_Mo_ledger_142]
  refine z_lp (fun n => [.ref 234, .int (nI 1), .int (nI v), .int (nI n)]) (fun n => b_h (b_r m 241 (b_rg (m 241) (195 * (m 234 23 - 1)) n fun i => m 242 i)) j w) 195 0 rfl (by rw [b_rg0, b_rid rfl]) ?_ ?_ _ (by omega)
  · intro n hn f _
    rw [l_Mo_ledger_142, q_Mo_ledger_142]
    simp (disch := omega) only [b_sub, ↓bc_234, ↓br_234_42, ↓bc_251, ↓bx_251, bl_251, ↓br_234_8, ↓bc_238, ↓bx_238, bl_238, ↓br_234_6, ↓bc_236, ↓bx_236, bl_236, ↓br_234_21, ↓bc_241, ↓bx_241, bl_241, ↓br_234_22, ↓bc_242, ↓bx_242, bl_242, ↓b_t0, ↓b_t1, ↓b_t2, ↓b_t3, ↓b_t4, ↓b_t5, ↓b_t6, Nat.zero_add, Nat.le_refl, b_rs, b_rn, b_r2, b_ss, b_sn, b_bt, b_bf, b_b0, b_b1, b_bw, b_shl, b_or, b_iv, b_jv, b_sI, b_sJ, ↓z_hl, z_b0, z_b1, z_b2, b_and1c, b_and1z, if_true, if_false, nI_add, pk_mul, b_cl, b_lt, b_le, b_eq, b_eq0, b_le0, b_0lt, b_0le, b_lt0]
    rw [if_neg (by omega), b_rg1' rfl rfl]
  · intro f _
    rw [l_Mo_ledger_142, q_Mo_ledger_142]
    rw [if_pos (by decide +kernel), if_neg (by decide +kernel)]
theorem s_Mo_led113 {f i1 v i3 : Nat} (hS : i_S (m 236)) (hI : i_D (m 236)) (hi : i1 < 2) (hk8 : m 234 23 ≤ 8) (ha : m 251 1 < 100) (hf : 250 ≤ f) (hd : 3 ≤ d) : ∃ m3, a_rn X tx (a_ex X tx a_T d) (a_go X tx (a_ex X tx a_T d) k_Mo_ledger_0 f) k_Mo_ledger_113 0 [.ref 234, .int (nI i1), .int (nI v), .int (nI i3)] [] (b_h m j w) = some (b_h m3 j w, some (.int (nI v))) ∧ y_13 m m3 i1 := by
  generalize hmA : b_r m 251 (b_s (m 251) 2 (m 236 157)) = mA
  have vA : ∀ c, c ≠ 251 → mA c = m c := fun c hc => by rw [← hmA, b_rn hc]
  have A251 : mA 251 = b_s (m 251) 2 (m 236 157) := by rw [← hmA, b_rs]
  have A236 : mA 236 = m 236 := vA 236 (by decide)
  have s1 := s_Mo_endedSet (X := X) (tx := tx) (D := d) (m := mA) (j := j) (w := w) (by rw [A236]; exact hS) (by rw [A236]; exact hI) (by omega)
  rw [A236] at s1
  generalize hmB : b_r (b_r mA 251 (b_s (b_s (m 251) 2 (m 236 157)) 3 (w_ended (m 236)))) 234 (b_s (m 234) 43 1) = mB
  have vB : ∀ c, c ≠ 234 → c ≠ 251 → mB c = m c := fun c c1 c2 => by rw [← hmB, b_rn c1, b_rn c2, vA c c2]
  have B251 : mB 251 = b_s (b_s (m 251) 2 (m 236 157)) 3 (w_ended (m 236)) := by rw [← hmB, b_rn (by decide), b_rs]
  have B234 : mB 234 = b_s (m 234) 43 1 := by rw [← hmB, b_rs]
  have A234 : mA 234 = m 234 := vA 234 (by decide)
  have hmB' : b_r (b_r mA 251 (b_s (b_s (m 251) 2 (m 236 157)) 3 (w_ended (m 236)))) 234 (b_s (mA 234) 43 1) = mB := by rw [A234]; exact hmB
  have B1 : mB 251 1 = m 251 1 := by rw [B251, b_sn (by decide), b_sn (by decide)]
  rw [q_Mo_ledger_113]
  by_cases c1 : i1 = 1
  · subst c1
    by_cases c2 : m 251 1 = 0
    · refine ⟨mB, ?_, fun c h1 h2 h3 h4 => vB c h1 h4, fun k h1 h2 => by rw [B234, b_sn h2], by rw [B234, b_ss], B251, ?_⟩
      · simp (disch := omega) only [hmA, s1, A251, hmB', B1, Nat.one_ne_zero, ↓bc_234, ↓br_234_42, ↓bc_251, ↓bx_251, bl_251, ↓br_234_8, ↓bc_238, ↓bx_238, bl_238, ↓br_234_6, ↓bc_236, ↓bx_236, bl_236, ↓br_234_21, ↓bc_241, ↓bx_241, bl_241, ↓br_234_22, ↓bc_242, ↓bx_242, bl_242, ↓b_t0, ↓b_t1, ↓b_t2, ↓b_t3, ↓b_t4, ↓b_t5, ↓b_t6, Nat.zero_add, Nat.le_refl, b_rs, b_rn, b_r2, b_ss, b_sn, b_bt, b_bf, b_b0, b_b1, b_bw, b_shl, b_or, b_iv, b_jv, b_sI, b_sJ, ↓z_hl, z_b0, z_b1, z_b2, b_and1c, b_and1z, if_true, if_false, nI_add, pk_mul, b_cl, b_lt, b_le, b_eq, b_eq0, b_le0, b_0lt, b_0le, b_lt0]
        rw [if_pos c2]
      · rw [if_neg (fun x => x.2 c2), if_neg (by decide)]
        exact ⟨by rw [B234, b_sn (by decide)], vB 241 (by decide) (by decide), vB 236 (by decide) (by decide)⟩
    · have B23 : mB 234 23 = m 234 23 := by rw [B234, b_sn (by decide)]
      have s2 := s_Mo_keep (X := X) (tx := tx) (D := d) (m := mB) (j := j) (w := w) (by rw [B23]; exact hk8) (by omega)
      rw [B23, vB 241 (by decide) (by decide), vB 236 (by decide) (by decide)] at s2
      generalize hmC : b_r (b_r mB 234 (b_s (mB 234) 23 (w_keepN (m 234 23)))) 241 (w_keepU (m 241) (m 236) (m 234 23)) = mC at s2
      have vC : ∀ c, c ≠ 234 → c ≠ 241 → mC c = mB c := fun c h1 h2 => by rw [← hmC, b_rn h2, b_rn h1]
      have C234 : mC 234 = b_s (mB 234) 23 (w_keepN (m 234 23)) := by rw [← hmC, b_rn (by decide), b_rs]
      have C241 : mC 241 = w_keepU (m 241) (m 236) (m 234 23) := by rw [← hmC, b_rs]
      have C23 : mC 234 23 = w_keepN (m 234 23) := by rw [C234, b_ss]
      have hkN : w_keepN (m 234 23) = (if m 234 23 = 8 then 7 else m 234 23) + 1 := rfl
      have hk2 : 1 ≤ mC 234 23 ∧ mC 234 23 ≤ 8 := by
        rw [C23, hkN]
        split <;> omega
      have s3 := s_Mo_led142 (X := X) (tx := tx) (d := d) (m := mC) (j := j) (w := w) (f := f) (v := v) rfl hf hk2.1 hk2.2
      refine ⟨b_r mC 241 (b_rg (mC 241) (195 * (mC 234 23 - 1)) 195 fun i => mC 242 i), ?_, fun c h1 h2 h3 h4 => by rw [b_rn h3, vC c h1 h3, vB c h1 h4], fun k h1 h2 => by rw [b_rn (by decide), C234, b_sn h1, B234, b_sn h2], by rw [b_rn (by decide), C234, b_sn (by decide), B234, b_ss], by rw [b_rn (by decide), vC 251 (by decide) (by decide), B251], ?_⟩
      · simp (disch := omega) only [hmA, s1, A251, hmB', B1, s2, Nat.one_ne_zero, ↓bc_234, ↓br_234_42, ↓bc_251, ↓bx_251, bl_251, ↓br_234_8, ↓bc_238, ↓bx_238, bl_238, ↓br_234_6, ↓bc_236, ↓bx_236, bl_236, ↓br_234_21, ↓bc_241, ↓bx_241, bl_241, ↓br_234_22, ↓bc_242, ↓bx_242, bl_242, ↓b_t0, ↓b_t1, ↓b_t2, ↓b_t3, ↓b_t4, ↓b_t5, ↓b_t6, Nat.zero_add, Nat.le_refl, b_rs, b_rn, b_r2, b_ss, b_sn, b_bt, b_bf, b_b0, b_b1, b_bw, b_shl, b_or, b_iv, b_jv, b_sI, b_sJ, ↓z_hl, z_b0, z_b1, z_b2, b_and1c, b_and1z, if_true, if_false, nI_add, pk_mul, b_cl, b_lt, b_le, b_eq, b_eq0, b_le0, b_0lt, b_0le, b_lt0]
        rw [if_neg c2]
        exact s3
      · rw [if_pos ⟨rfl, c2⟩]
        refine ⟨by rw [b_rn (by decide), vC 236 (by decide) (by decide), vB 236 (by decide) (by decide)], by rw [b_rn (by decide)]; exact C23, ?_⟩
        rw [b_rs, C241, C23, hkN, Nat.add_sub_cancel, vC 242 (by decide) (by decide), vB 242 (by decide) (by decide)]
        exact w_keepU_o
  · have c0 : i1 = 0 := by omega
    subst c0
    have s2 := s_Mo_back (X := X) (tx := tx) (D := d) (m := mB) (j := j) (w := w) (by omega)
    rw [vB 236 (by decide) (by decide), vB 242 (by decide) (by decide)] at s2
    refine ⟨b_r mB 236 (b_rg (m 236) 157 195 fun i => m 242 i), ?_, fun c h1 h2 h3 h4 => by rw [b_rn h2]; exact vB c h1 h4, fun k h1 h2 => by rw [b_rn (by decide), B234, b_sn h2], by rw [b_rn (by decide), B234, b_ss], by rw [b_rn (by decide)]; exact B251, ?_⟩
    · simp (disch := omega) only [hmA, s1, A251, hmB', s2, Nat.zero_ne_one, ↓bc_234, ↓br_234_42, ↓bc_251, ↓bx_251, bl_251, ↓br_234_8, ↓bc_238, ↓bx_238, bl_238, ↓br_234_6, ↓bc_236, ↓bx_236, bl_236, ↓br_234_21, ↓bc_241, ↓bx_241, bl_241, ↓br_234_22, ↓bc_242, ↓bx_242, bl_242, ↓b_t0, ↓b_t1, ↓b_t2, ↓b_t3, ↓b_t4, ↓b_t5, ↓b_t6, Nat.zero_add, Nat.le_refl, b_rs, b_rn, b_r2, b_ss, b_sn, b_bt, b_bf, b_b0, b_b1, b_bw, b_shl, b_or, b_iv, b_jv, b_sI, b_sJ, ↓z_hl, z_b0, z_b1, z_b2, b_and1c, b_and1z, if_true, if_false, nI_add, pk_mul, b_cl, b_lt, b_le, b_eq, b_eq0, b_le0, b_0lt, b_0le, b_lt0]
    · rw [if_neg (fun x => absurd x.1 (by decide)), if_pos rfl]
      exact ⟨by rw [b_rn (by decide), B234, b_sn (by decide)], by rw [b_rn (by decide)]; exact vB 241 (by decide) (by decide), by rw [b_rs]⟩
end EM
