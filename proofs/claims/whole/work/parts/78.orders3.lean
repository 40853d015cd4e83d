/-! ORDERS: the class's leaves -/
theorem w_rm_eq {S e : Nat} : S &&& (2 ^ e ^^^ 4294967295) = w_rm S e := z_id rfl
theorem b_lfa2 {A C c : Nat} (hA : A < 1000000) (hC : C < 1000000) (hc : c < 1000000) : nI (w_lf A (C + c) + c) = nI (w_lf A C) := by rw [← nI_add]; exact b_lfa hA hC hc
section OC
variable {X : Nat × (Nat → Int32)} {tx : List Int32} {D : Nat} {m j : Nat → Nat → Nat} {w : (Nat × Nat) × Bool} {s : Nat → Nat}
theorem s_Or_closedBy (hF : c_F m 4 s) (hS : i_S s) (hD : 2 ≤ D) {S k : Nat} (hs : S < 1024) (hk : k < 6) : a_ex X tx a_T D 110 [.ref 162, .int (nI S), .int (nI k)] (b_h m j w) = some ((b_h m j w), some (.int (nI (w_cs s S k)))) := by
  obtain ⟨d, rfl⟩ : ∃ d, D = d + 1 := ⟨D - 1, by omega⟩
  rw [e_Or_closedBy, q_Or_closedBy_0]
  have hE := i_S_E hS
  have e4 := c_F4_E hF
  rw [← l_Or_closedBy_4]
  refine z_run (Q := fun r => r = some (b_h m j w, some (.int (nI (w_cs s S k))))) (fun q L h => ∃ e, q + e = s 3 ∧ L = [.ref 162, .int (nI S), .int (nI k), .int (nI (w_csn s S k e)), .int (nI e)] ∧ h = b_h m j w) 0 ?_ (s 3) _ _ ⟨0, by omega, rfl, rfl⟩ _ (z_fu (by omega))
  rintro q L h ⟨e, hq, rfl, rfl⟩ f _
  rw [l_Or_closedBy_4, q_Or_closedBy_4]
  by_cases c : e = s 3
  · left
    subst c
    simp (disch := omega) only [e4, ↓bc_162, ↓br_162_0, ↓bc_4, ↓b_t0, ↓b_t1, ↓b_t2, ↓b_t3, ↓b_t4, ↓b_t5, ↓b_t6, Nat.zero_add, Nat.le_refl, b_rs, b_rn, b_r2, b_ss, b_sn, b_bt, b_bf, b_b0, b_b1, b_bw, b_shl, b_or, b_iv, b_jv, b_sI, b_sJ, ↓z_hl, z_b0, z_b1, z_b2, b_and1c, b_and1z, if_true, if_false, nI_add, pk_mul, b_cl, b_lt, b_le, b_eq, b_eq0, b_le0, b_0lt, b_0le, b_lt0]
    rfl
  · right
    have s1 := s_Fa_closed (X := X) (tx := tx) (D := d) (m := m) (j := j) (w := w) hF (by omega) (e := e) (k := k) (by omega) hk
    have hl := w_csn_le hS (S := S) (k := k) (n := e) (by omega) hk
    have hc := i_S_cl hS e (by omega) k hk
    cases hb : S.testBit e with
    | false =>
      have e5 : w_csn s S k (e + 1) = w_csn s S k e := by rw [w_csn_1, hb, if_neg (by decide), Nat.add_zero]
      refine ⟨q - 1, [.ref 162, .int (nI S), .int (nI k), .int (nI (w_csn s S k e)), .int (nI (e + 1))], _, by omega, ⟨e + 1, by omega, by rw [e5], rfl⟩, ?_⟩
      simp (disch := omega) only [e4, s_EM_isIn, hb, ↓bc_162, ↓br_162_0, ↓bc_4, ↓b_t0, ↓b_t1, ↓b_t2, ↓b_t3, ↓b_t4, ↓b_t5, ↓b_t6, Nat.zero_add, Nat.le_refl, b_rs, b_rn, b_r2, b_ss, b_sn, b_bt, b_bf, b_b0, b_b1, b_bw, b_shl, b_or, b_iv, b_jv, b_sI, b_sJ, ↓z_hl, z_b0, z_b1, z_b2, b_and1c, b_and1z, if_true, if_false, nI_add, pk_mul, b_cl, b_lt, b_le, b_eq, b_eq0, b_le0, b_0lt, b_0le, b_lt0]
      rw [if_neg (by omega)]
    | true =>
      have e5 : w_csn s S k (e + 1) = w_csn s S k e + s (87 + 6 * e + k) := by rw [w_csn_1, hb, if_pos rfl]
      refine ⟨q - 1, [.ref 162, .int (nI S), .int (nI k), .int (nI (w_csn s S k e + s (87 + 6 * e + k))), .int (nI (e + 1))], _, by omega, ⟨e + 1, by omega, by rw [e5], rfl⟩, ?_⟩
      simp (disch := omega) only [e4, s_EM_isIn, hb, s1, Nat.one_ne_zero, ↓bc_162, ↓br_162_0, ↓bc_4, ↓b_t0, ↓b_t1, ↓b_t2, ↓b_t3, ↓b_t4, ↓b_t5, ↓b_t6, Nat.zero_add, Nat.le_refl, b_rs, b_rn, b_r2, b_ss, b_sn, b_bt, b_bf, b_b0, b_b1, b_bw, b_shl, b_or, b_iv, b_jv, b_sI, b_sJ, ↓z_hl, z_b0, z_b1, z_b2, b_and1c, b_and1z, if_true, if_false, nI_add, pk_mul, b_cl, b_lt, b_le, b_eq, b_eq0, b_le0, b_0lt, b_0le, b_lt0]
      rw [if_neg (by omega)]
theorem s_Or_coinOf (hF : c_F m 4 s) (hA : c_A m 26 s) (hS : i_S s) (hI : i_D s) (hD : 2 ≤ D) {S : Nat} (hs : S < 1024) : a_ex X tx a_T D 109 [.ref 162, .int (nI S)] (b_h m j w) = some ((b_h m j w), some (.int (nI (z_sum (fun e => if S.testBit e = true then s (251 + e) else 0) (s 3))))) := by
  obtain ⟨d, rfl⟩ : ∃ d, D = d + 1 := ⟨D - 1, by omega⟩
  rw [e_Or_coinOf, q_Or_coinOf_0]
  have hE := i_S_E hS
  have e4 := c_F4_E hF
  rw [← l_Or_coinOf_4]
  refine z_run (Q := fun r => r = some (b_h m j w, some (.int (nI (z_sum (fun e => if S.testBit e = true then s (251 + e) else 0) (s 3)))))) (fun q L h => ∃ e, q + e = s 3 ∧ L = [.ref 162, .int (nI S), .int (nI (z_sum (fun e => if S.testBit e = true then s (251 + e) else 0) e)), .int (nI e)] ∧ h = b_h m j w) 0 ?_ (s 3) _ _ ⟨0, by omega, rfl, rfl⟩ _ (z_fu (by omega))
  rintro q L h ⟨e, hq, rfl, rfl⟩ f _
  rw [l_Or_coinOf_4, q_Or_coinOf_4]
  by_cases c : e = s 3
  · left
    subst c
    simp (disch := omega) only [e4, ↓bc_162, ↓br_162_0, ↓bc_4, ↓br_162_1, ↓bc_26, ↓br_26_7, ↓bc_32, ↓bx_32, bl_32, ↓b_t0, ↓b_t1, ↓b_t2, ↓b_t3, ↓b_t4, ↓b_t5, ↓b_t6, Nat.zero_add, Nat.le_refl, b_rs, b_rn, b_r2, b_ss, b_sn, b_bt, b_bf, b_b0, b_b1, b_bw, b_shl, b_or, b_iv, b_jv, b_sI, b_sJ, ↓z_hl, z_b0, z_b1, z_b2, b_and1c, b_and1z, if_true, if_false, nI_add, pk_mul, b_cl, b_lt, b_le, b_eq, b_eq0, b_le0, b_0lt, b_0le, b_lt0]
  · right
    have hp := c_A_pr hA e (by omega)
    have hw : z_sum (fun e => if S.testBit e = true then s (251 + e) else 0) (e + 1) = z_sum (fun e => if S.testBit e = true then s (251 + e) else 0) e + (if S.testBit e = true then s (251 + e) else 0) := rfl
    cases hb : S.testBit e with
    | false =>
      rw [hb, if_neg (by decide)] at hw
      refine ⟨q - 1, [.ref 162, .int (nI S), .int (nI (z_sum (fun e => if S.testBit e = true then s (251 + e) else 0) e)), .int (nI (e + 1))], _, by omega, ⟨e + 1, by omega, by rw [hw]; rfl, rfl⟩, ?_⟩
      simp (disch := omega) only [e4, s_EM_isIn, hb, ↓bc_162, ↓br_162_0, ↓bc_4, ↓br_162_1, ↓bc_26, ↓br_26_7, ↓bc_32, ↓bx_32, bl_32, ↓b_t0, ↓b_t1, ↓b_t2, ↓b_t3, ↓b_t4, ↓b_t5, ↓b_t6, Nat.zero_add, Nat.le_refl, b_rs, b_rn, b_r2, b_ss, b_sn, b_bt, b_bf, b_b0, b_b1, b_bw, b_shl, b_or, b_iv, b_jv, b_sI, b_sJ, ↓z_hl, z_b0, z_b1, z_b2, b_and1c, b_and1z, if_true, if_false, nI_add, pk_mul, b_cl, b_lt, b_le, b_eq, b_eq0, b_le0, b_0lt, b_0le, b_lt0]
      rw [if_neg (by omega)]
    | true =>
      rw [hb, if_pos rfl] at hw
      refine ⟨q - 1, [.ref 162, .int (nI S), .int (nI (z_sum (fun e => if S.testBit e = true then s (251 + e) else 0) e + s (251 + e))), .int (nI (e + 1))], _, by omega, ⟨e + 1, by omega, by rw [hw], rfl⟩, ?_⟩
      simp (disch := omega) only [e4, s_EM_isIn, hb, hp, Nat.one_ne_zero, ↓bc_162, ↓br_162_0, ↓bc_4, ↓br_162_1, ↓bc_26, ↓br_26_7, ↓bc_32, ↓bx_32, bl_32, ↓b_t0, ↓b_t1, ↓b_t2, ↓b_t3, ↓b_t4, ↓b_t5, ↓b_t6, Nat.zero_add, Nat.le_refl, b_rs, b_rn, b_r2, b_ss, b_sn, b_bt, b_bf, b_b0, b_b1, b_bw, b_shl, b_or, b_iv, b_jv, b_sI, b_sJ, ↓z_hl, z_b0, z_b1, z_b2, b_and1c, b_and1z, if_true, if_false, nI_add, pk_mul, b_cl, b_lt, b_le, b_eq, b_eq0, b_le0, b_0lt, b_0le, b_lt0]
      rw [if_neg (by omega)]
theorem s_Or_addUp (hF : c_F m 4 s) (hS : i_S s) (hD : 3 ≤ D) {S : Nat} (hs : S < 1024) : ∃ m2, a_ex X tx a_T D 111 [.ref 162, .int (nI S)] (b_h m j w) = some (b_h m2 j w, none) ∧ z_fr 164 164 m m2 ∧ ∀ k, k < 6 → m2 164 k = w_cs s S k := by
  obtain ⟨d, rfl⟩ : ∃ d, D = d + 1 := ⟨D - 1, by omega⟩
  rw [e_Or_addUp, q_Or_addUp_0, ← l_Or_addUp_2]
  refine z_run (Q := fun r => ∃ m2, r = some (b_h m2 j w, none) ∧ z_fr 164 164 m m2 ∧ ∀ k, k < 6 → m2 164 k = w_cs s S k) (fun q L h => ∃ k m3, q + k = 6 ∧ L = [.ref 162, .int (nI S), .int (nI k)] ∧ h = b_h m3 j w ∧ z_fr 164 164 m m3 ∧ ∀ i, i < k → m3 164 i = w_cs s S i) 0 ?_ 6 _ _ ⟨0, m, by omega, rfl, rfl, z_fr_rf, fun i hi => absurd hi (Nat.not_lt_zero i)⟩ _ (z_fu (by omega))
  rintro q L h ⟨k, m3, hq, rfl, rfl, hm, hv⟩ f _
  rw [l_Or_addUp_2, q_Or_addUp_2]
  by_cases c : k = 6
  · left
    subst c
    refine ⟨m3, ?_, hm, hv⟩
    simp (disch := omega) only [↓bc_162, ↓br_162_4, ↓bc_164, ↓bx_164, bl_164, ↓b_t0, ↓b_t1, ↓b_t2, ↓b_t3, ↓b_t4, ↓b_t5, ↓b_t6, Nat.zero_add, Nat.le_refl, b_rs, b_rn, b_r2, b_ss, b_sn, b_bt, b_bf, b_b0, b_b1, b_bw, b_shl, b_or, b_iv, b_jv, b_sI, b_sJ, ↓z_hl, z_b0, z_b1, z_b2, b_and1c, b_and1z, if_true, if_false, nI_add, pk_mul, b_cl, b_lt, b_le, b_eq, b_eq0, b_le0, b_0lt, b_0le, b_lt0]
  · right
    have hF3 : c_F m3 4 s := c_F_ext (fun c p1 p2 => hm c (by omega)) (fun _ _ => rfl) hS hF
    have s1 := s_Or_closedBy (X := X) (tx := tx) (D := d) (m := m3) (j := j) (w := w) hF3 hS (by omega) hs (k := k) (by omega)
    refine ⟨q - 1, [.ref 162, .int (nI S), .int (nI (k + 1))], b_h (b_r m3 164 (b_s (m3 164) k (w_cs s S k))) j w, by omega, ⟨k + 1, _, by omega, rfl, rfl, z_fr_r hm (by omega), fun i hi => ?_⟩, ?_⟩
    · rw [b_rs]
      by_cases c2 : i = k
      · rw [c2, b_ss]
      · rw [b_sn c2]; exact hv i (by omega)
    · simp (disch := omega) only [s1, ↓bc_162, ↓br_162_4, ↓bc_164, ↓bx_164, bl_164, ↓b_t0, ↓b_t1, ↓b_t2, ↓b_t3, ↓b_t4, ↓b_t5, ↓b_t6, Nat.zero_add, Nat.le_refl, b_rs, b_rn, b_r2, b_ss, b_sn, b_bt, b_bf, b_b0, b_b1, b_bw, b_shl, b_or, b_iv, b_jv, b_sI, b_sJ, ↓z_hl, z_b0, z_b1, z_b2, b_and1c, b_and1z, if_true, if_false, nI_add, pk_mul, b_cl, b_lt, b_le, b_eq, b_eq0, b_le0, b_0lt, b_0le, b_lt0]
      rw [if_neg (by omega)]
theorem s_Or_closesAllLeft (hF : c_F m 4 s) (hS : i_S s) (hD : 3 ≤ D) {S : Nat} {A C : Nat → Nat} (hs : S < 1024) (h65 : ∀ k, k < 6 → m 165 k = w_lf (A k) (C k)) (hA : ∀ k, k < 6 → A k < 1000) (hC : ∀ k, k < 6 → C k < 1000) : a_ex X tx a_T D 112 [.ref 162, .int (nI S)] (b_h m j w) = some ((b_h m j w), some (.int (nI (b_b (z_all (fun k => decide (A k ≤ C k + w_cs s S k)) 6))))) := by
  obtain ⟨d, rfl⟩ : ∃ d, D = d + 1 := ⟨D - 1, by omega⟩
  rw [e_Or_closesAllLeft, q_Or_closesAllLeft_0]
  rw [← l_Or_closesAllLeft_2]
  refine z_run (Q := fun r => r = some (b_h m j w, some (.int (nI (b_b (z_all (fun k => decide (A k ≤ C k + w_cs s S k)) 6)))))) (fun q L h => ∃ k, q + k = 6 ∧ z_all (fun k => decide (A k ≤ C k + w_cs s S k)) k = true ∧ L = [.ref 162, .int (nI S), .int (nI k)] ∧ h = b_h m j w) 0 ?_ 6 _ _ ⟨0, by omega, rfl, rfl, rfl⟩ _ (z_fu (by omega))
  rintro q L h ⟨k, hq, ha, rfl, rfl⟩ f _
  rw [l_Or_closesAllLeft_2, q_Or_closesAllLeft_2]
  by_cases c : k = 6
  · left
    subst c
    rw [ha]
    simp (disch := omega) only [↓bc_162, ↓br_162_5, ↓bc_165, ↓bx_165, bl_165, ↓b_t0, ↓b_t1, ↓b_t2, ↓b_t3, ↓b_t4, ↓b_t5, ↓b_t6, Nat.zero_add, Nat.le_refl, b_rs, b_rn, b_r2, b_ss, b_sn, b_bt, b_bf, b_b0, b_b1, b_bw, b_shl, b_or, b_iv, b_jv, b_sI, b_sJ, ↓z_hl, z_b0, z_b1, z_b2, b_and1c, b_and1z, if_true, if_false, nI_add, pk_mul, b_cl, b_lt, b_le, b_eq, b_eq0, b_le0, b_0lt, b_0le, b_lt0]
  · have s1 := s_Or_closedBy (X := X) (tx := tx) (D := d) (m := m) (j := j) (w := w) hF hS (by omega) hs (k := k) (by omega)
    have h1 := h65 k (by omega)
    have h2 := hA k (by omega)
    have h3 := hC k (by omega)
    have h4 := w_cs_le hS (S := S) (k := k) (by omega)
    have hlt := w_lf_lt (A := A k) (C := C k) (by omega) (by omega)
    by_cases c2 : A k ≤ C k + w_cs s S k
    · right
      refine ⟨q - 1, [.ref 162, .int (nI S), .int (nI (k + 1))], _, by omega, ⟨k + 1, by omega, by show (z_all (fun k => decide (A k ≤ C k + w_cs s S k)) k && decide (A k ≤ C k + w_cs s S k)) = true; rw [ha, decide_eq_true c2]; rfl, rfl, rfl⟩, ?_⟩
      simp (disch := omega) only [s1, h1, b_lfle, ↓bc_162, ↓br_162_5, ↓bc_165, ↓bx_165, bl_165, ↓b_t0, ↓b_t1, ↓b_t2, ↓b_t3, ↓b_t4, ↓b_t5, ↓b_t6, Nat.zero_add, Nat.le_refl, b_rs, b_rn, b_r2, b_ss, b_sn, b_bt, b_bf, b_b0, b_b1, b_bw, b_shl, b_or, b_iv, b_jv, b_sI, b_sJ, ↓z_hl, z_b0, z_b1, z_b2, b_and1c, b_and1z, if_true, if_false, nI_add, pk_mul, b_cl, b_lt, b_le, b_eq, b_eq0, b_le0, b_0lt, b_0le, b_lt0]
      rw [if_neg (by omega), if_pos c2]
    · left
      have e1 : z_all (fun k => decide (A k ≤ C k + w_cs s S k)) 6 = false := Bool.eq_false_iff.mpr fun g => c2 (of_decide_eq_true ((z_all_iff _ _).mp g k (by omega)))
      rw [e1]
      simp (disch := omega) only [s1, h1, b_lfle, ↓bc_162, ↓br_162_5, ↓bc_165, ↓bx_165, bl_165, ↓b_t0, ↓b_t1, ↓b_t2, ↓b_t3, ↓b_t4, ↓b_t5, ↓b_t6, Nat.zero_add, Nat.le_refl, b_rs, b_rn, b_r2, b_ss, b_sn, b_bt, b_bf, b_b0, b_b1, b_bw, b_shl, b_or, b_iv, b_jv, b_sI, b_sJ, ↓z_hl, z_b0, z_b1, z_b2, b_and1c, b_and1z, if_true, if_false, nI_add, pk_mul, b_cl, b_lt, b_le, b_eq, b_eq0, b_le0, b_0lt, b_0le, b_lt0]
      rw [if_neg (by omega), if_neg c2]
theorem s_Or_fitsLast (hF : c_F m 4 s) (hS : i_S s) (hD : 2 ≤ D) {S P r e : Nat} (hs : S < 1024) (hdj : w_dj P S) (hr : ∀ k, k < 6 → s (r + k) ≤ 99) (h65 : ∀ k, k < 6 → m 165 k = w_lf (s (r + k)) (w_cs s P k)) (h64 : ∀ k, k < 6 → m 164 k = w_cs s S k) (he : e < s 3) (hb : S.testBit e = true) : a_ex X tx a_T D 115 [.ref 162, .int (nI e)] (b_h m j w) = some ((b_h m j w), some (.int (nI (b_b (w_fp (w_fbh s r) P e (w_rm S e)))))) := by
  obtain ⟨d, rfl⟩ : ∃ d, D = d + 1 := ⟨D - 1, by omega⟩
  rw [e_Or_fitsLast, q_Or_fitsLast_0]
  have hE := i_S_E hS
  have hdj2 : w_dj P (w_rm S e) := fun i hi h => by rw [w_rm_bt (by omega), hdj i hi h]; rfl
  have hcs : ∀ k, w_cs s (P ||| w_rm S e) k = w_cs s P k + w_cs s (w_rm S e) k := fun k => w_cs_or hE hdj2
  rw [← l_Or_fitsLast_4]
  refine z_run (Q := fun q => q = some (b_h m j w, some (.int (nI (b_b (w_fp (w_fbh s r) P e (w_rm S e))))))) (fun q L h => ∃ k x, q + k = 6 ∧ z_all (fun k => decide (s (87 + 6 * e + k) = 0 ∨ w_cs s (P ||| w_rm S e) k < s (r + k))) k = true ∧ L = [.ref 162, .int (nI e), .int (nI (b_b (z_any (fun k => decide (s (87 + 6 * e + k) ≠ 0)) k))), .int (nI k), x] ∧ h = b_h m j w) 0 ?_ 6 _ _ ⟨0, _, by omega, rfl, rfl, rfl⟩ _ (z_fu (by omega))
  rintro q L h ⟨k, x, hq, ha, rfl, rfl⟩ f _
  rw [l_Or_fitsLast_4, q_Or_fitsLast_4]
  by_cases c : k = 6
  · left
    subst c
    have e1 : w_fp (w_fbh s r) P e (w_rm S e) = z_any (fun k => decide (s (87 + 6 * e + k) ≠ 0)) 6 := by
      show (z_all (fun k => decide (s (87 + 6 * e + k) = 0 ∨ w_cs s (P ||| w_rm S e) k < s (r + k))) 6 && z_any (fun k => decide (s (87 + 6 * e + k) ≠ 0)) 6) = _
      rw [ha, Bool.true_and]
    rw [e1]
    simp (disch := omega) only [↓bc_162, ↓br_162_0, ↓bc_4, ↓br_162_4, ↓bc_164, ↓bx_164, bl_164, ↓br_162_5, ↓bc_165, ↓bx_165, bl_165, ↓b_t0, ↓b_t1, ↓b_t2, ↓b_t3, ↓b_t4, ↓b_t5, ↓b_t6, Nat.zero_add, Nat.le_refl, b_rs, b_rn, b_r2, b_ss, b_sn, b_bt, b_bf, b_b0, b_b1, b_bw, b_shl, b_or, b_iv, b_jv, b_sI, b_sJ, ↓z_hl, z_b0, z_b1, z_b2, b_and1c, b_and1z, if_true, if_false, nI_add, pk_mul, b_cl, b_lt, b_le, b_eq, b_eq0, b_le0, b_0lt, b_0le, b_lt0]
  · have s1 := s_Fa_closed (X := X) (tx := tx) (D := d) (m := m) (j := j) (w := w) hF (by omega) (e := e) (k := k) (by omega) (by omega)
    have hc := i_S_cl hS e (by omega) k (by omega)
    have h1 := h65 k (by omega)
    have h2 := h64 k (by omega)
    have h3 := hr k (by omega)
    have h4 := w_cs_le hS (S := S) (k := k) (by omega)
    have h5 := w_cs_le hS (S := P) (k := k) (by omega)
    have h6 := w_cs_rm (k := k) hE hs hb he
    have h7 := hcs k
    have hlt := w_lf_lt (A := s (r + k)) (C := w_cs s P k) (by omega) (by omega)
    have hw : z_any (fun k => decide (s (87 + 6 * e + k) ≠ 0)) (k + 1) = (z_any (fun k => decide (s (87 + 6 * e + k) ≠ 0)) k || decide (s (87 + 6 * e + k) ≠ 0)) := rfl
    have hz : ∀ g : s (87 + 6 * e + k) = 0 ∨ w_cs s (P ||| w_rm S e) k < s (r + k), z_all (fun k => decide (s (87 + 6 * e + k) = 0 ∨ w_cs s (P ||| w_rm S e) k < s (r + k))) (k + 1) = true := fun g => by
      show (z_all (fun k => decide (s (87 + 6 * e + k) = 0 ∨ w_cs s (P ||| w_rm S e) k < s (r + k))) k && decide (s (87 + 6 * e + k) = 0 ∨ w_cs s (P ||| w_rm S e) k < s (r + k))) = true
      rw [ha, decide_eq_true g]; rfl
    by_cases c2 : s (87 + 6 * e + k) = 0
    · right
      rw [decide_eq_false (fun g => g c2), Bool.or_false] at hw
      refine ⟨q - 1, [.ref 162, .int (nI e), .int (nI (b_b (z_any (fun k => decide (s (87 + 6 * e + k) ≠ 0)) k))), .int (nI (k + 1)), .int (nI (s (87 + 6 * e + k)))], _, by omega, ⟨k + 1, _, by omega, hz (Or.inl c2), by rw [hw], rfl⟩, ?_⟩
      rw [c2] at s1 ⊢
      simp (disch := omega) only [s1, ↓bc_162, ↓br_162_0, ↓bc_4, ↓br_162_4, ↓bc_164, ↓bx_164, bl_164, ↓br_162_5, ↓bc_165, ↓bx_165, bl_165, ↓b_t0, ↓b_t1, ↓b_t2, ↓b_t3, ↓b_t4, ↓b_t5, ↓b_t6, Nat.zero_add, Nat.le_refl, b_rs, b_rn, b_r2, b_ss, b_sn, b_bt, b_bf, b_b0, b_b1, b_bw, b_shl, b_or, b_iv, b_jv, b_sI, b_sJ, ↓z_hl, z_b0, z_b1, z_b2, b_and1c, b_and1z, if_true, if_false, nI_add, pk_mul, b_cl, b_lt, b_le, b_eq, b_eq0, b_le0, b_0lt, b_0le, b_lt0]
      rw [if_neg (by omega)]
    · rw [decide_eq_true c2, Bool.or_true] at hw
      have x1 : (nI (s (87 + 6 * e + k)) ≤ 0) = False := by rw [b_le0 (by omega)]; exact propext ⟨fun g => c2 g, fun g => g.elim⟩
      by_cases c3 : w_cs s (P ||| w_rm S e) k < s (r + k)
      · right
        refine ⟨q - 1, [.ref 162, .int (nI e), .int (nI 1), .int (nI (k + 1)), .int (nI (s (87 + 6 * e + k)))], _, by omega, ⟨k + 1, _, by omega, hz (Or.inr c3), by rw [hw]; rfl, rfl⟩, ?_⟩
        simp (disch := omega) only [s1, x1, h1, h2, b_sub, b_lflt, ↓bc_162, ↓br_162_0, ↓bc_4, ↓br_162_4, ↓bc_164, ↓bx_164, bl_164, ↓br_162_5, ↓bc_165, ↓bx_165, bl_165, ↓b_t0, ↓b_t1, ↓b_t2, ↓b_t3, ↓b_t4, ↓b_t5, ↓b_t6, Nat.zero_add, Nat.le_refl, b_rs, b_rn, b_r2, b_ss, b_sn, b_bt, b_bf, b_b0, b_b1, b_bw, b_shl, b_or, b_iv, b_jv, b_sI, b_sJ, ↓z_hl, z_b0, z_b1, z_b2, b_and1c, b_and1z, if_true, if_false, nI_add, pk_mul, b_cl, b_lt, b_le, b_eq, b_eq0, b_le0, b_0lt, b_0le, b_lt0]
        rw [if_neg (by omega), if_pos (by omega)]
      · left
        have e1 : w_fp (w_fbh s r) P e (w_rm S e) = false := by
          refine Bool.eq_false_iff.mpr fun g => ?_
          have g : (z_all (fun k => decide (s (87 + 6 * e + k) = 0 ∨ w_cs s (P ||| w_rm S e) k < s (r + k))) 6 && z_any (fun k => decide (s (87 + 6 * e + k) ≠ 0)) 6) = true := g
          rw [Bool.and_eq_true] at g
          have := of_decide_eq_true ((z_all_iff _ _).mp g.1 k (by omega))
          rcases this with g2 | g2
          · exact c2 g2
          · exact c3 g2
        rw [e1]
        simp (disch := omega) only [s1, x1, h1, h2, b_sub, b_lflt, ↓bc_162, ↓br_162_0, ↓bc_4, ↓br_162_4, ↓bc_164, ↓bx_164, bl_164, ↓br_162_5, ↓bc_165, ↓bx_165, bl_165, ↓b_t0, ↓b_t1, ↓b_t2, ↓b_t3, ↓b_t4, ↓b_t5, ↓b_t6, Nat.zero_add, Nat.le_refl, b_rs, b_rn, b_r2, b_ss, b_sn, b_bt, b_bf, b_b0, b_b1, b_bw, b_shl, b_or, b_iv, b_jv, b_sI, b_sJ, ↓z_hl, z_b0, z_b1, z_b2, b_and1c, b_and1z, if_true, if_false, nI_add, pk_mul, b_cl, b_lt, b_le, b_eq, b_eq0, b_le0, b_0lt, b_0le, b_lt0]
        rw [if_neg (by omega), if_neg (by omega)]
theorem s_Or_leaveOut (hF : c_F m 4 s) (hS : i_S s) (hD : 2 ≤ D) {S e : Nat} (hs : S < 1024) (h64 : ∀ k, k < 6 → m 164 k = w_cs s S k) (he : e < s 3) (hb : S.testBit e = true) : ∃ m2, a_ex X tx a_T D 114 [.ref 162, .int (nI e)] (b_h m j w) = some (b_h m2 j w, none) ∧ z_fr 164 164 m m2 ∧ ∀ k, k < 6 → m2 164 k = w_cs s (w_rm S e) k := by
  obtain ⟨d, rfl⟩ : ∃ d, D = d + 1 := ⟨D - 1, by omega⟩
  have hE := i_S_E hS
  rw [e_Or_leaveOut, q_Or_leaveOut_0, ← l_Or_leaveOut_2]
  refine z_run (Q := fun r => ∃ m2, r = some (b_h m2 j w, none) ∧ z_fr 164 164 m m2 ∧ ∀ k, k < 6 → m2 164 k = w_cs s (w_rm S e) k) (fun q L h => ∃ k m3, q + k = 6 ∧ L = [.ref 162, .int (nI e), .int (nI k)] ∧ h = b_h m3 j w ∧ z_fr 164 164 m m3 ∧ ∀ i, i < 6 → m3 164 i = if i < k then w_cs s (w_rm S e) i else w_cs s S i) 0 ?_ 6 _ _ ⟨0, m, by omega, rfl, rfl, z_fr_rf, fun i hi => by rw [if_neg (Nat.not_lt_zero i)]; exact h64 i hi⟩ _ (z_fu (by omega))
  rintro q L h ⟨k, m3, hq, rfl, rfl, hm, hv⟩ f _
  rw [l_Or_leaveOut_2, q_Or_leaveOut_2]
  by_cases c : k = 6
  · left
    subst c
    refine ⟨m3, ?_, hm, fun i hi => by rw [hv i hi, if_pos hi]⟩
    simp (disch := omega) only [↓bc_162, ↓br_162_4, ↓bc_164, ↓bx_164, bl_164, ↓br_162_0, ↓bc_4, ↓b_t0, ↓b_t1, ↓b_t2, ↓b_t3, ↓b_t4, ↓b_t5, ↓b_t6, Nat.zero_add, Nat.le_refl, b_rs, b_rn, b_r2, b_ss, b_sn, b_bt, b_bf, b_b0, b_b1, b_bw, b_shl, b_or, b_iv, b_jv, b_sI, b_sJ, ↓z_hl, z_b0, z_b1, z_b2, b_and1c, b_and1z, if_true, if_false, nI_add, pk_mul, b_cl, b_lt, b_le, b_eq, b_eq0, b_le0, b_0lt, b_0le, b_lt0]
  · right
    have hF3 : c_F m3 4 s := c_F_ext (fun c p1 p2 => hm c (by omega)) (fun _ _ => rfl) hS hF
    have s1 := s_Fa_closed (X := X) (tx := tx) (D := d) (m := m3) (j := j) (w := w) hF3 (by omega) (e := e) (k := k) (by omega) (by omega)
    have hc := i_S_cl hS e (by omega) k (by omega)
    have h1 := hv k (by omega)
    rw [if_neg (Nat.lt_irrefl k)] at h1
    have h6 := w_cs_rm (k := k) hE hs hb he
    have h4 := w_cs_le hS (S := S) (k := k) (by omega)
    have e1 : w_cs s S k - s (87 + 6 * e + k) = w_cs s (w_rm S e) k := by omega
    refine ⟨q - 1, [.ref 162, .int (nI e), .int (nI (k + 1))], b_h (b_r m3 164 (b_s (m3 164) k (w_cs s (w_rm S e) k))) j w, by omega, ⟨k + 1, _, by omega, rfl, rfl, z_fr_r hm (by omega), fun i hi => ?_⟩, ?_⟩
    · rw [b_rs]
      by_cases c2 : i = k
      · rw [c2, b_ss, if_pos (by omega)]
      · rw [b_sn c2, hv i hi]
        by_cases c3 : i < k
        · rw [if_pos c3, if_pos (by omega)]
        · rw [if_neg c3, if_neg (by omega)]
    · simp (disch := omega) only [s1, h1, b_sub, e1, ↓bc_162, ↓br_162_4, ↓bc_164, ↓bx_164, bl_164, ↓br_162_0, ↓bc_4, ↓b_t0, ↓b_t1, ↓b_t2, ↓b_t3, ↓b_t4, ↓b_t5, ↓b_t6, Nat.zero_add, Nat.le_refl, b_rs, b_rn, b_r2, b_ss, b_sn, b_bt, b_bf, b_b0, b_b1, b_bw, b_shl, b_or, b_iv, b_jv, b_sI, b_sJ, ↓z_hl, z_b0, z_b1, z_b2, b_and1c, b_and1z, if_true, if_false, nI_add, pk_mul, b_cl, b_lt, b_le, b_eq, b_eq0, b_le0, b_0lt, b_0le, b_lt0]
      rw [if_neg (by omega)]
theorem s_Or_take (hF : c_F m 4 s) (hS : i_S s) (hD : 2 ≤ D) {P r e : Nat} (hr : ∀ k, k < 6 → s (r + k) ≤ 99) (h65 : ∀ k, k < 6 → m 165 k = w_lf (s (r + k)) (w_cs s P k)) (he : e < s 3) : ∃ m2, a_ex X tx a_T D 118 [.ref 162, .int (nI e)] (b_h m j w) = some (b_h m2 j w, none) ∧ z_fr 165 165 m m2 ∧ ∀ k, k < 6 → m2 165 k = w_lf (s (r + k)) (w_cs s P k + s (87 + 6 * e + k)) := by
  obtain ⟨d, rfl⟩ : ∃ d, D = d + 1 := ⟨D - 1, by omega⟩
  have hE := i_S_E hS
  rw [e_Or_take, q_Or_take_0, ← l_Or_take_2]
  refine z_run (Q := fun q => ∃ m2, q = some (b_h m2 j w, none) ∧ z_fr 165 165 m m2 ∧ ∀ k, k < 6 → m2 165 k = w_lf (s (r + k)) (w_cs s P k + s (87 + 6 * e + k))) (fun q L h => ∃ n m3, q + n = 6 ∧ L = [.ref 162, .int (nI e), .int (nI n)] ∧ h = b_h m3 j w ∧ z_fr 165 165 m m3 ∧ ∀ k, k < 6 → m3 165 k = if k < n then w_lf (s (r + k)) (w_cs s P k + s (87 + 6 * e + k)) else w_lf (s (r + k)) (w_cs s P k)) 0 ?_ 6 _ _ ⟨0, m, by omega, rfl, rfl, z_fr_rf, fun i hi => by rw [if_neg (Nat.not_lt_zero i)]; exact h65 i hi⟩ _ (z_fu (by omega))
  rintro q L h ⟨k, m3, hq, rfl, rfl, hm, hv⟩ f _
  rw [l_Or_take_2, q_Or_take_2]
  by_cases c : k = 6
  · left
    subst c
    refine ⟨m3, ?_, hm, fun i hi => by rw [hv i hi, if_pos hi]⟩
    simp (disch := omega) only [↓bc_162, ↓br_162_5, ↓bc_165, ↓bx_165, bl_165, ↓br_162_0, ↓bc_4, ↓b_t0, ↓b_t1, ↓b_t2, ↓b_t3, ↓b_t4, ↓b_t5, ↓b_t6, Nat.zero_add, Nat.le_refl, b_rs, b_rn, b_r2, b_ss, b_sn, b_bt, b_bf, b_b0, b_b1, b_bw, b_shl, b_or, b_iv, b_jv, b_sI, b_sJ, ↓z_hl, z_b0, z_b1, z_b2, b_and1c, b_and1z, if_true, if_false, nI_add, pk_mul, b_cl, b_lt, b_le, b_eq, b_eq0, b_le0, b_0lt, b_0le, b_lt0]
  · right
    have hF3 : c_F m3 4 s := c_F_ext (fun c p1 p2 => hm c (by omega)) (fun _ _ => rfl) hS hF
    have s1 := s_Fa_closed (X := X) (tx := tx) (D := d) (m := m3) (j := j) (w := w) hF3 (by omega) (e := e) (k := k) (by omega) (by omega)
    have hc := i_S_cl hS e (by omega) k (by omega)
    have h1 := hv k (by omega)
    rw [if_neg (Nat.lt_irrefl k)] at h1
    have h3 := hr k (by omega)
    have h5 := w_cs_le hS (S := P) (k := k) (by omega)
    refine ⟨q - 1, [.ref 162, .int (nI e), .int (nI (k + 1))], b_h (b_r m3 165 (b_s (m3 165) k (w_lf (s (r + k)) (w_cs s P k + s (87 + 6 * e + k))))) j w, by omega, ⟨k + 1, _, by omega, rfl, rfl, z_fr_r hm (by omega), fun i hi => ?_⟩, ?_⟩
    · rw [b_rs]
      by_cases c2 : i = k
      · rw [c2, b_ss, if_pos (by omega)]
      · rw [b_sn c2, hv i hi]
        by_cases c3 : i < k
        · rw [if_pos c3, if_pos (by omega)]
        · rw [if_neg c3, if_neg (by omega)]
    · simp (disch := omega) only [s1, h1, b_lfs, b_lfa2, ↓bc_162, ↓br_162_5, ↓bc_165, ↓bx_165, bl_165, ↓br_162_0, ↓bc_4, ↓b_t0, ↓b_t1, ↓b_t2, ↓b_t3, ↓b_t4, ↓b_t5, ↓b_t6, Nat.zero_add, Nat.le_refl, b_rs, b_rn, b_r2, b_ss, b_sn, b_bt, b_bf, b_b0, b_b1, b_bw, b_shl, b_or, b_iv, b_jv, b_sI, b_sJ, ↓z_hl, z_b0, z_b1, z_b2, b_and1c, b_and1z, if_true, if_false, nI_add, pk_mul, b_cl, b_lt, b_le, b_eq, b_eq0, b_le0, b_0lt, b_0le, b_lt0]
      rw [if_neg (by omega)]
theorem s_Or_giveBack (hF : c_F m 4 s) (hS : i_S s) (hD : 2 ≤ D) {P r e : Nat} (hr : ∀ k, k < 6 → s (r + k) ≤ 99) (h65 : ∀ k, k < 6 → m 165 k = w_lf (s (r + k)) (w_cs s P k + s (87 + 6 * e + k))) (he : e < s 3) : ∃ m2, a_ex X tx a_T D 119 [.ref 162, .int (nI e)] (b_h m j w) = some (b_h m2 j w, none) ∧ z_fr 165 165 m m2 ∧ ∀ k, k < 6 → m2 165 k = w_lf (s (r + k)) (w_cs s P k) := by
  obtain ⟨d, rfl⟩ : ∃ d, D = d + 1 := ⟨D - 1, by omega⟩
  have hE := i_S_E hS
  rw [e_Or_giveBack, q_Or_giveBack_0, ← l_Or_giveBack_2]
  refine z_run (Q := fun q => ∃ m2, q = some (b_h m2 j w, none) ∧ z_fr 165 165 m m2 ∧ ∀ k, k < 6 → m2 165 k = w_lf (s (r + k)) (w_cs s P k)) (fun q L h => ∃ n m3, q + n = 6 ∧ L = [.ref 162, .int (nI e), .int (nI n)] ∧ h = b_h m3 j w ∧ z_fr 165 165 m m3 ∧ ∀ k, k < 6 → m3 165 k = if k < n then w_lf (s (r + k)) (w_cs s P k) else w_lf (s (r + k)) (w_cs s P k + s (87 + 6 * e + k))) 0 ?_ 6 _ _ ⟨0, m, by omega, rfl, rfl, z_fr_rf, fun i hi => by rw [if_neg (Nat.not_lt_zero i)]; exact h65 i hi⟩ _ (z_fu (by omega))
  rintro q L h ⟨k, m3, hq, rfl, rfl, hm, hv⟩ f _
  rw [l_Or_giveBack_2, q_Or_giveBack_2]
  by_cases c : k = 6
  · left
    subst c
    refine ⟨m3, ?_, hm, fun i hi => by rw [hv i hi, if_pos hi]⟩
    simp (disch := omega) only [↓bc_162, ↓br_162_5, ↓bc_165, ↓bx_165, bl_165, ↓br_162_0, ↓bc_4, ↓b_t0, ↓b_t1, ↓b_t2, ↓b_t3, ↓b_t4, ↓b_t5, ↓b_t6, Nat.zero_add, Nat.le_refl, b_rs, b_rn, b_r2, b_ss, b_sn, b_bt, b_bf, b_b0, b_b1, b_bw, b_shl, b_or, b_iv, b_jv, b_sI, b_sJ, ↓z_hl, z_b0, z_b1, z_b2, b_and1c, b_and1z, if_true, if_false, nI_add, pk_mul, b_cl, b_lt, b_le, b_eq, b_eq0, b_le0, b_0lt, b_0le, b_lt0]
  · right
    have hF3 : c_F m3 4 s := c_F_ext (fun c p1 p2 => hm c (by omega)) (fun _ _ => rfl) hS hF
    have s1 := s_Fa_closed (X := X) (tx := tx) (D := d) (m := m3) (j := j) (w := w) hF3 (by omega) (e := e) (k := k) (by omega) (by omega)
    have hc := i_S_cl hS e (by omega) k (by omega)
    have h1 := hv k (by omega)
    rw [if_neg (Nat.lt_irrefl k)] at h1
    have h3 := hr k (by omega)
    have h5 := w_cs_le hS (S := P) (k := k) (by omega)
    refine ⟨q - 1, [.ref 162, .int (nI e), .int (nI (k + 1))], b_h (b_r m3 165 (b_s (m3 165) k (w_lf (s (r + k)) (w_cs s P k)))) j w, by omega, ⟨k + 1, _, by omega, rfl, rfl, z_fr_r hm (by omega), fun i hi => ?_⟩, ?_⟩
    · rw [b_rs]
      by_cases c2 : i = k
      · rw [c2, b_ss, if_pos (by omega)]
      · rw [b_sn c2, hv i hi]
        by_cases c3 : i < k
        · rw [if_pos c3, if_pos (by omega)]
        · rw [if_neg c3, if_neg (by omega)]
    · simp (disch := omega) only [s1, h1, b_lfs, b_lfa2, ↓bc_162, ↓br_162_5, ↓bc_165, ↓bx_165, bl_165, ↓br_162_0, ↓bc_4, ↓b_t0, ↓b_t1, ↓b_t2, ↓b_t3, ↓b_t4, ↓b_t5, ↓b_t6, Nat.zero_add, Nat.le_refl, b_rs, b_rn, b_r2, b_ss, b_sn, b_bt, b_bf, b_b0, b_b1, b_bw, b_shl, b_or, b_iv, b_jv, b_sI, b_sJ, ↓z_hl, z_b0, z_b1, z_b2, b_and1c, b_and1z, if_true, if_false, nI_add, pk_mul, b_cl, b_lt, b_le, b_eq, b_eq0, b_le0, b_0lt, b_0le, b_lt0]
      rw [if_neg (by omega)]
end OC
