/-! SENTENCES: the reference takes an operand -/
def z_Sf (m m2 j j2 : Nat → Nat → Nat) : Prop := (∀ c, c ≠ 234 → c ≠ 238 → c ≠ 252 → m2 c = m c) ∧ (∀ c, c ≠ 234 → j2 c = j c) ∧ ∀ k, k ≠ 4 → (k < 11 ∨ 14 < k) → k ≠ 18 → (k < 45 ∨ 49 < k) → m2 234 k = m 234 k
def z_SE (m m2 j j2 : Nat → Nat → Nat) (e : Nat × Nat) : Prop := m2 234 15 = e.1 ∧ m2 234 16 = e.2 ∧ (∀ c, c ≠ 234 → c ≠ 238 → c ≠ 252 → m2 c = m c) ∧ (∀ c, c ≠ 234 → j2 c = j c) ∧ ∀ k, k ≠ 4 → (k < 11 ∨ 18 < k) → (k < 45 ∨ 49 < k) → m2 234 k = m 234 k
theorem z_Sf_r {m j : Nat → Nat → Nat} : z_Sf m m j j := ⟨fun _ _ _ _ => rfl, fun _ _ => rfl, fun _ _ _ _ _ => rfl⟩
theorem z_Sf_t {m m2 m3 j j2 j3 : Nat → Nat → Nat} (h : z_Sf m m2 j j2) (y : z_Sf m2 m3 j2 j3) : z_Sf m m3 j j3 :=
  ⟨fun c h1 h2 h3 => (y.1 c h1 h2 h3).trans (h.1 c h1 h2 h3), fun c h1 => (y.2.1 c h1).trans (h.2.1 c h1), fun k h1 h2 h3 h4 => (y.2.2 k h1 h2 h3 h4).trans (h.2.2 k h1 h2 h3 h4)⟩
theorem z_SE_t {m m2 m3 j j2 j3 : Nat → Nat → Nat} {e : Nat × Nat} (h : z_Sf m m2 j j2) (y : z_SE m2 m3 j2 j3 e) : z_SE m m3 j j3 e :=
  ⟨y.1, y.2.1, fun c h1 h2 h3 => (y.2.2.1 c h1 h2 h3).trans (h.1 c h1 h2 h3), fun c h1 => (y.2.2.2.1 c h1).trans (h.2.1 c h1), fun k h1 h2 h3 => (y.2.2.2.2 k h1 h2 h3).trans (h.2.2 k h1 (by omega) (by omega) h3)⟩
theorem z_Sf_o {m m2 j j2 : Nat → Nat → Nat} {b : Nat → Nat} {n q p : Nat} (h : o_M m m2 j j2 b n q p) : z_Sf m m2 j j2 :=
  ⟨fun c h1 _ _ => h.2.2.1 c h1, h.2.2.2.1, fun k h1 h2 h3 _ => h.2.2.2.2 k h1 (by omega) (by omega) (by omega) (by omega) h3⟩
theorem z_SE_x {m m2 j j2 : Nat → Nat → Nat} {e : Nat × Nat} (h : x_M m m2 j j2 e) : z_SE m m2 j j2 e :=
  ⟨h.1, h.2.1, fun c h1 _ _ => h.2.2.1 c h1, h.2.2.2.1, fun k h1 h2 _ => h.2.2.2.2 k h1 (by omega) (by omega) (by omega) (by omega) (by omega) (by omega) (by omega)⟩
theorem z_Sf_k {m m2 j : Nat → Nat → Nat} (h : z_Kf m m2) : z_Sf m m2 j j :=
  ⟨fun c h1 h2 _ => h.1 c h1 h2, fun _ _ => rfl, fun k _ _ _ h4 => h.2 k (by omega) (by omega) (by omega)⟩
theorem z_Sf_w {m m2 j j2 : Nat → Nat → Nat} {k v : Nat} (h : z_Sf m m2 j j2) (hk : k = 18 ∨ (45 ≤ k ∧ k ≤ 49)) : z_Sf m (b_r m2 234 (b_s (m2 234) k v)) j j2 :=
  ⟨fun c h1 h2 h3 => (b_rn h1).trans (h.1 c h1 h2 h3), h.2.1, fun x h1 h2 h3 h4 => by rw [b_rs, b_sn (by omega)]; exact h.2.2 x h1 h2 h3 h4⟩
theorem z_Sf_c {m m2 j j2 : Nat → Nat → Nat} {L a b c : Nat} (h : z_Sf m m2 j j2) : z_Sf m (w_code m2 L a b c) j j2 :=
  ⟨fun x h1 h2 h3 => by unfold w_code; rw [b_rn h1, b_rn h2]; exact h.1 x h1 h2 h3, h.2.1, fun x h1 h2 h3 h4 => by unfold w_code; rw [b_rs, b_sn (by omega)]; exact h.2.2 x h1 h2 h3 h4⟩
theorem z_K_c {m m2 : Nat → Nat → Nat} {σ : List Nat} {A : List (Nat × Nat × Nat)} (h : z_K m σ A) (h1 : ∀ k, k = 45 ∨ k = 47 ∨ k = 48 → m2 234 k = m 234 k) (h2 : m2 252 = m 252) (h3 : m2 238 = m 238) : z_K m2 σ A := by
  obtain ⟨k1, k2, k3, k4, k5, k6⟩ := h
  exact ⟨by rw [h1 45 (by omega)]; exact k1, by rw [h1 47 (by omega)]; exact k2, by rw [h1 48 (by omega)]; exact k3, by rw [h2]; exact k4, by rw [h3]; exact k5, k6⟩
theorem z_K_o {m m2 j j2 : Nat → Nat → Nat} {b : Nat → Nat} {n q p : Nat} {σ : List Nat} {A : List (Nat × Nat × Nat)} (h : z_K m σ A) (o : o_M m m2 j j2 b n q p) : z_K m2 σ A :=
  z_K_c h (fun k hk => o.2.2.2.2 k (by omega) (by omega) (by omega) (by omega) (by omega) (by omega)) (o.2.2.1 252 (by decide)) (o.2.2.1 238 (by decide))
theorem z_K_w {m : Nat → Nat → Nat} {σ : List Nat} {A : List (Nat × Nat × Nat)} {k v : Nat} (h : z_K m σ A) (h1 : k ≠ 45) (h2 : k ≠ 47) (h3 : k ≠ 48) : z_K (b_r m 234 (b_s (m 234) k v)) σ A :=
  z_K_c h (fun x hx => by rw [b_rs, b_sn (by omega)]) (b_rn (by decide)) (b_rn (by decide))
theorem z_K_code {m : Nat → Nat → Nat} {σ : List Nat} {A : List (Nat × Nat × Nat)} {a b c : Nat} (h : z_K m σ A) (hl : A.length + 1 + q_no σ ≤ 44) : z_K (w_code m A.length a b c) σ ((a, b, c) :: A) := by
  obtain ⟨k1, k2, k3, k4, k5, k6, k7, k8⟩ := h
  refine ⟨?_, ?_, ?_, ?_, z_cM_w k5, k6, by rw [List.length_cons]; exact hl, k8⟩
  · unfold w_code
    rw [b_rs, b_ss, List.length_cons]
  · unfold w_code
    rw [b_rs, b_sn (by decide)]; exact k2
  · unfold w_code
    rw [b_rs, b_sn (by decide)]; exact k3
  · unfold w_code
    rw [b_rn (by decide), b_rn (by decide)]; exact k4
/-- one more waits -/
def w_push (m : Nat → Nat → Nat) (l t dp : Nat) : Nat → Nat → Nat := b_r (b_r m 252 (b_s (m 252) l t)) 234 (b_s (b_s (m 234) 47 (l + 1)) 48 dp)
theorem z_K_push {m : Nat → Nat → Nat} {σ : List Nat} {A : List (Nat × Nat × Nat)} {t : Nat} (h : z_K m σ A) (ht : 20 ≤ t ∧ t ≤ 23) (hl : A.length + q_no (t :: σ) ≤ 44) (hs : σ.length + 1 ≤ 44) : z_K (w_push m σ.length t (q_deep (t :: σ))) (t :: σ) A := by
  obtain ⟨k1, k2, k3, k4, k5, k6, k7, k8⟩ := h
  unfold w_push
  refine ⟨?_, ?_, ?_, ⟨?_, ?_⟩, ?_, ⟨ht, k6⟩, hl, by rw [List.length_cons]; exact hs⟩
  · rw [b_rs, b_sn (by decide), b_sn (by decide)]; exact k1
  · rw [b_rs, b_sn (by decide), b_ss, List.length_cons]
  · rw [b_rs, b_ss]
  · rw [b_rn (by decide), b_rs, b_ss]
  · rw [b_rn (by decide), b_rs]
    exact z_st_c σ (fun x hx => b_sn (by omega)) k4
  · rw [b_rn (by decide), b_rn (by decide)]; exact k5
theorem z_Sf_p {m m2 j j2 : Nat → Nat → Nat} {l t dp : Nat} (h : z_Sf m m2 j j2) : z_Sf m (w_push m2 l t dp) j j2 :=
  ⟨fun x h1 h2 h3 => by unfold w_push; rw [b_rn h1, b_rn h3]; exact h.1 x h1 h2 h3, h.2.1, fun x h1 h2 h3 h4 => by unfold w_push; rw [b_rs, b_sn (by omega), b_sn (by omega)]; exact h.2.2 x h1 h2 h3 h4⟩
def y_Z (m j : Nat → Nat → Nat) (b : Nat → Nat) (n q : Nat) (N S : Nat → Nat) (σ : List Nat) (A : List (Nat × Nat × Nat)) (ones : Nat) (wh : Bool) (p : Nat) : Prop := y_X m j b n q ∧ l_M m j b n q p ∧ p ≤ n ∧ m 236 = S ∧ j 239 = N ∧ z_K m σ A ∧ m 234 46 = ones ∧ m 234 49 = b_b wh ∧ A.length + q_no σ + b_b wh ≤ 2 * ones ∧ σ.length + b_b wh ≤ ones ∧ ones ≤ 20
def y_O (m j : Nat → Nat → Nat) (w : (Nat × Nat) × Bool) (b : Nat → Nat) (n q : Nat) (N S : Nat → Nat) (ones : Nat) (E : Except (Nat × Nat) (List Nat × List (Nat × Nat × Nat) × Bool × Nat)) (r : A_R) : Prop := match E with
  | .ok y => ∃ m2 j2, r = some (b_h m2 j2 w, some (.int (nI 1))) ∧ y_Z m2 j2 b n q N S y.1 y.2.1 ones y.2.2.1 y.2.2.2 ∧ z_Sf m m2 j j2
  | .error e => ∃ m2 j2, r = some (b_h m2 j2 w, some (.int (nI 0))) ∧ z_SE m m2 j j2 e
section SO
variable {X : Nat × (Nat → Int32)} {tx : List Int32} {D d : Nat} {m j : Nat → Nat → Nat} {w : (Nat × Nat) × Bool} {b : Nat → Nat} {n q p : Nat} {N S : Nat → Nat} {σ : List Nat} {A : List (Nat × Nat × Nat)} {ones : Nat}
theorem y_O_e {E : Except (Nat × Nat) (List Nat × List (Nat × Nat × Nat) × Bool × Nat)} {r : A_R} {e : Nat × Nat} {m2 j2 : Nat → Nat → Nat} (hE : E = .error e) (h1 : r = some (b_h m2 j2 w, some (.int (nI 0)))) (h2 : z_SE m m2 j j2 e) : y_O m j w b n q N S ones E r := by
  rw [hE]
  exact ⟨m2, j2, h1, h2⟩
theorem y_O_o {E : Except (Nat × Nat) (List Nat × List (Nat × Nat × Nat) × Bool × Nat)} {r : A_R} {y : List Nat × List (Nat × Nat × Nat) × Bool × Nat} {m2 j2 : Nat → Nat → Nat} (hE : E = .ok y) (h1 : r = some (b_h m2 j2 w, some (.int (nI 1)))) (h2 : y_Z m2 j2 b n q N S y.1 y.2.1 ones y.2.2.1 y.2.2.2) (h3 : z_Sf m m2 j j2) : y_O m j w b n q N S ones E r := by
  rw [hE]
  exact ⟨m2, j2, h1, h2, h3⟩
theorem s_Mo_leafOf (hX : y_X m j b n q) (h : l_M m j b n q p) (hD : 2 ≤ D) : a_ex X tx a_T D 305 [.ref 234] (b_h m j w) = some ((b_h m j w), some (.int (nI (if 12 ≤ w_ky b n q p ∧ w_ky b n q p ≤ 18 then w_ky b n q p - 12 else 4294967295)))) := by
  obtain ⟨d, rfl⟩ : ∃ d, D = d + 1 := ⟨D - 1, by omega⟩
  rw [e_Mo_leafOf, q_Mo_leafOf_0]
  have dW := fun k W (hk : k < 19) (hW : w_cf 7 (w_wl k) = W) => s_Mo_isWord (X := X) (tx := tx) (D := d) (m := m) (j := j) (w := w) hX h (by omega) hk (w_ww hk hW)
  have d12 := dW 12 435643770212 (by decide) (by decide +kernel)
  have d13 := dW 13 28518 (by decide) (by decide +kernel)
  have d14 := dW 14 6840691 (by decide) (by decide +kernel)
  have d15 := dW 15 1718187123 (by decide) (by decide +kernel)
  have d16 := dW 16 1869636974 (by decide) (by decide +kernel)
  have d17 := dW 17 482670503283 (by decide) (by decide +kernel)
  have d18 := dW 18 121450625394034 (by decide) (by decide +kernel)
  generalize w_ky b n q p = ky at d12 d13 d14 d15 d16 d17 d18
  by_cases c12 : ky = 12
  · rw [decide_eq_true c12] at d12
    subst c12
    simp (disch := omega) only [d12, Nat.one_ne_zero, ↓bc_234, ↓b_t0, ↓b_t1, ↓b_t2, ↓b_t3, ↓b_t4, ↓b_t5, ↓b_t6, Nat.zero_add, Nat.le_refl, b_rs, b_rn, b_r2, b_ss, b_sn, b_bt, b_bf, b_b0, b_b1, b_bw, b_shl, b_or, b_iv, b_jv, b_sI, b_sJ, ↓z_hl, z_b0, z_b1, z_b2, b_and1c, b_and1z, if_true, if_false, nI_add, pk_mul, b_cl, b_lt, b_le, b_eq, b_eq0, b_le0, b_0lt, b_0le, b_lt0]
    rw [if_pos (by decide)]
  rw [decide_eq_false c12] at d12
  by_cases c13 : ky = 13
  · rw [decide_eq_true c13] at d13
    subst c13
    simp (disch := omega) only [d12, d13, Nat.one_ne_zero, ↓bc_234, ↓b_t0, ↓b_t1, ↓b_t2, ↓b_t3, ↓b_t4, ↓b_t5, ↓b_t6, Nat.zero_add, Nat.le_refl, b_rs, b_rn, b_r2, b_ss, b_sn, b_bt, b_bf, b_b0, b_b1, b_bw, b_shl, b_or, b_iv, b_jv, b_sI, b_sJ, ↓z_hl, z_b0, z_b1, z_b2, b_and1c, b_and1z, if_true, if_false, nI_add, pk_mul, b_cl, b_lt, b_le, b_eq, b_eq0, b_le0, b_0lt, b_0le, b_lt0]
    rw [if_pos (by decide)]
  rw [decide_eq_false c13] at d13
  by_cases c14 : ky = 14
  · rw [decide_eq_true c14] at d14
    subst c14
    simp (disch := omega) only [d12, d13, d14, Nat.one_ne_zero, ↓bc_234, ↓b_t0, ↓b_t1, ↓b_t2, ↓b_t3, ↓b_t4, ↓b_t5, ↓b_t6, Nat.zero_add, Nat.le_refl, b_rs, b_rn, b_r2, b_ss, b_sn, b_bt, b_bf, b_b0, b_b1, b_bw, b_shl, b_or, b_iv, b_jv, b_sI, b_sJ, ↓z_hl, z_b0, z_b1, z_b2, b_and1c, b_and1z, if_true, if_false, nI_add, pk_mul, b_cl, b_lt, b_le, b_eq, b_eq0, b_le0, b_0lt, b_0le, b_lt0]
    rw [if_pos (by decide)]
  rw [decide_eq_false c14] at d14
  by_cases c15 : ky = 15
  · rw [decide_eq_true c15] at d15
    subst c15
    simp (disch := omega) only [d12, d13, d14, d15, Nat.one_ne_zero, ↓bc_234, ↓b_t0, ↓b_t1, ↓b_t2, ↓b_t3, ↓b_t4, ↓b_t5, ↓b_t6, Nat.zero_add, Nat.le_refl, b_rs, b_rn, b_r2, b_ss, b_sn, b_bt, b_bf, b_b0, b_b1, b_bw, b_shl, b_or, b_iv, b_jv, b_sI, b_sJ, ↓z_hl, z_b0, z_b1, z_b2, b_and1c, b_and1z, if_true, if_false, nI_add, pk_mul, b_cl, b_lt, b_le, b_eq, b_eq0, b_le0, b_0lt, b_0le, b_lt0]
    rw [if_pos (by decide)]
  rw [decide_eq_false c15] at d15
  by_cases c16 : ky = 16
  · rw [decide_eq_true c16] at d16
    subst c16
    simp (disch := omega) only [d12, d13, d14, d15, d16, Nat.one_ne_zero, ↓bc_234, ↓b_t0, ↓b_t1, ↓b_t2, ↓b_t3, ↓b_t4, ↓b_t5, ↓b_t6, Nat.zero_add, Nat.le_refl, b_rs, b_rn, b_r2, b_ss, b_sn, b_bt, b_bf, b_b0, b_b1, b_bw, b_shl, b_or, b_iv, b_jv, b_sI, b_sJ, ↓z_hl, z_b0, z_b1, z_b2, b_and1c, b_and1z, if_true, if_false, nI_add, pk_mul, b_cl, b_lt, b_le, b_eq, b_eq0, b_le0, b_0lt, b_0le, b_lt0]
    rw [if_pos (by decide)]
  rw [decide_eq_false c16] at d16
  by_cases c17 : ky = 17
  · rw [decide_eq_true c17] at d17
    subst c17
    simp (disch := omega) only [d12, d13, d14, d15, d16, d17, Nat.one_ne_zero, ↓bc_234, ↓b_t0, ↓b_t1, ↓b_t2, ↓b_t3, ↓b_t4, ↓b_t5, ↓b_t6, Nat.zero_add, Nat.le_refl, b_rs, b_rn, b_r2, b_ss, b_sn, b_bt, b_bf, b_b0, b_b1, b_bw, b_shl, b_or, b_iv, b_jv, b_sI, b_sJ, ↓z_hl, z_b0, z_b1, z_b2, b_and1c, b_and1z, if_true, if_false, nI_add, pk_mul, b_cl, b_lt, b_le, b_eq, b_eq0, b_le0, b_0lt, b_0le, b_lt0]
    rw [if_pos (by decide)]
  rw [decide_eq_false c17] at d17
  by_cases c18 : ky = 18
  · rw [decide_eq_true c18] at d18
    subst c18
    simp (disch := omega) only [d12, d13, d14, d15, d16, d17, d18, Nat.one_ne_zero, ↓bc_234, ↓b_t0, ↓b_t1, ↓b_t2, ↓b_t3, ↓b_t4, ↓b_t5, ↓b_t6, Nat.zero_add, Nat.le_refl, b_rs, b_rn, b_r2, b_ss, b_sn, b_bt, b_bf, b_b0, b_b1, b_bw, b_shl, b_or, b_iv, b_jv, b_sI, b_sJ, ↓z_hl, z_b0, z_b1, z_b2, b_and1c, b_and1z, if_true, if_false, nI_add, pk_mul, b_cl, b_lt, b_le, b_eq, b_eq0, b_le0, b_0lt, b_0le, b_lt0]
    rw [if_pos (by decide)]
  rw [decide_eq_false c18] at d18
  rw [if_neg (by omega)]
  simp (disch := omega) only [d12, d13, d14, d15, d16, d17, d18, ↓bc_234, ↓b_t0, ↓b_t1, ↓b_t2, ↓b_t3, ↓b_t4, ↓b_t5, ↓b_t6, Nat.zero_add, Nat.le_refl, b_rs, b_rn, b_r2, b_ss, b_sn, b_bt, b_bf, b_b0, b_b1, b_bw, b_shl, b_or, b_iv, b_jv, b_sI, b_sJ, ↓z_hl, z_b0, z_b1, z_b2, b_and1c, b_and1z, if_true, if_false, nI_add, pk_mul, b_cl, b_lt, b_le, b_eq, b_eq0, b_le0, b_0lt, b_0le, b_lt0]
end SO
