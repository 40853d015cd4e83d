/-! SENTENCES: the reference's stack -/
def z_st (f : Nat → Nat) : List Nat → Prop
  | [] => True
  | t :: σ => f σ.length = t ∧ z_st f σ
def z_cM (f : Nat → Nat) : List (Nat × Nat × Nat) → Prop
  | [] => True
  | c :: A => f (3 * A.length) = c.1 ∧ f (3 * A.length + 1) = c.2.1 ∧ f (3 * A.length + 2) = c.2.2 ∧ z_cM f A
theorem z_st_c {f g : Nat → Nat} : ∀ σ : List Nat, (∀ x, x < σ.length → g x = f x) → z_st f σ → z_st g σ
  | [], _, _ => trivial
  | t :: σ, h, y => ⟨(h _ (by rw [List.length_cons]; omega)).trans y.1, z_st_c σ (fun x hx => h x (by rw [List.length_cons]; omega)) y.2⟩
theorem z_cM_c {f g : Nat → Nat} : ∀ A : List (Nat × Nat × Nat), (∀ x, x < 3 * A.length → g x = f x) → z_cM f A → z_cM g A
  | [], _, _ => trivial
  | c :: A, h, y => by
    rw [List.length_cons] at h
    exact ⟨(h _ (by omega)).trans y.1, (h _ (by omega)).trans y.2.1, (h _ (by omega)).trans y.2.2.1, z_cM_c A (fun x hx => h x (by omega)) y.2.2.2⟩
def z_K (m : Nat → Nat → Nat) (σ : List Nat) (A : List (Nat × Nat × Nat)) : Prop := m 234 45 = A.length ∧ m 234 47 = σ.length ∧ m 234 48 = q_deep σ ∧ z_st (m 252) σ ∧ z_cM (m 238) A ∧ q_ok σ ∧ A.length + q_no σ ≤ 44 ∧ σ.length ≤ 44
def z_Kf (m m2 : Nat → Nat → Nat) : Prop := (∀ c, c ≠ 234 → c ≠ 238 → m2 c = m c) ∧ ∀ k, k ≠ 45 → k ≠ 47 → k ≠ 48 → m2 234 k = m 234 k
theorem z_Kf_r {m : Nat → Nat → Nat} : z_Kf m m := ⟨fun _ _ _ => rfl, fun _ _ _ _ => rfl⟩
theorem z_Kf_t {m m2 m3 : Nat → Nat → Nat} (h : z_Kf m m2) (y : z_Kf m2 m3) : z_Kf m m3 := ⟨fun c h1 h2 => (y.1 c h1 h2).trans (h.1 c h1 h2), fun k h1 h2 h3 => (y.2 k h1 h2 h3).trans (h.2 k h1 h2 h3)⟩
/-- a code is put -/
def w_code (m : Nat → Nat → Nat) (L a b c : Nat) : Nat → Nat → Nat := b_r (b_r m 238 (b_s (b_s (b_s (m 238) (3 * L) a) (3 * L + 1) b) (3 * L + 2) c)) 234 (b_s (m 234) 45 (L + 1))
theorem z_cM_w {m : Nat → Nat → Nat} {A : List (Nat × Nat × Nat)} {a b c : Nat} (h : z_cM (m 238) A) : z_cM (w_code m A.length a b c 238) ((a, b, c) :: A) := by
  unfold w_code
  rw [b_rn (by decide), b_rs]
  refine ⟨by rw [b_sn (by omega), b_sn (by omega), b_ss], by rw [b_sn (by omega), b_ss], by rw [b_ss], z_cM_c A (fun x hx => ?_) h⟩
  rw [b_sn (by omega), b_sn (by omega), b_sn (by omega)]
theorem q_deep_1 : ∀ σ : List Nat, 1 ≤ q_deep σ ∧ q_deep σ ≤ σ.length + 1
  | [] => ⟨Nat.le_refl _, Nat.le_refl _⟩
  | t :: σ => by
    have := q_deep_1 σ
    rw [List.length_cons]
    unfold q_deep
    by_cases c : t = 20 ∨ t = 23
    · rw [if_pos c]; omega
    · rw [if_neg c]; omega
section SM
variable {X : Nat × (Nat → Int32)} {tx : List Int32} {D : Nat} {m j : Nat → Nat → Nat} {w : (Nat × Nat) × Bool}
theorem s_Mo_code (hD : 1 ≤ D) {L a b c : Nat} (h : m 234 45 = L) (hL : L ≤ 44) : a_ex X tx a_T D 302 [.ref 234, .int (nI a), .int (nI b), .int (nI c)] (b_h m j w) = some ((b_h (w_code m L a b c) j w), none) := by
  obtain ⟨d, rfl⟩ : ∃ d, D = d + 1 := ⟨D - 1, by omega⟩
  rw [e_Mo_code, q_Mo_code_0]
  simp (disch := omega) only [h, ↓bc_234, ↓br_234_8, ↓bc_238, ↓bx_238, bl_238, ↓b_t0, ↓b_t1, ↓b_t2, ↓b_t3, ↓b_t4, ↓b_t5, ↓b_t6, Nat.zero_add, Nat.le_refl, b_rs, b_rn, b_r2, b_ss, b_sn, b_bt, b_bf, b_b0, b_b1, b_bw, b_shl, b_or, b_iv, b_jv, b_sI, b_sJ, ↓z_hl, z_b0, z_b1, z_b2, b_and1c, b_and1z, if_true, if_false, nI_add, pk_mul, b_cl, b_lt, b_le, b_eq, b_eq0, b_le0, b_0lt, b_0le, b_lt0]
  rfl
theorem s_Mo_nots {σ : List Nat} {A : List (Nat × Nat × Nat)} (h : z_K m σ A) (hD : 2 ≤ D) : ∃ m2, a_ex X tx a_T D 304 [.ref 234] (b_h m j w) = some (b_h m2 j w, none) ∧ z_K m2 (q_nots σ A).1 (q_nots σ A).2 ∧ z_Kf m m2 := by
  obtain ⟨d, rfl⟩ : ∃ d, D = d + 1 := ⟨D - 1, by omega⟩
  rw [e_Mo_nots, ← l_Mo_nots_0]
  refine z_run (Q := fun r => ∃ m2, r = some (b_h m2 j w, none) ∧ z_K m2 (q_nots σ A).1 (q_nots σ A).2 ∧ z_Kf m m2) (fun c L y => ∃ m' σ' A', c = σ'.length ∧ L = [.ref 234] ∧ y = b_h m' j w ∧ z_K m' σ' A' ∧ z_Kf m m' ∧ q_nots σ A = q_nots σ' A') 0 ?_ σ.length _ _ ⟨m, σ, A, rfl, rfl, rfl, h, z_Kf_r, rfl⟩ _ (z_fu (by have := h.2.2.2.2.2.2.2; omega))
  rintro c L y ⟨m', σ', A', rfl, rfl, rfl, hK, hf, hq⟩ f _
  rw [l_Mo_nots_0, q_Mo_nots_0]
  obtain ⟨k1, k2, k3, k4, k5, k6, k7, k8⟩ := hK
  cases σ' with
  | nil =>
    left
    refine ⟨m', ?_, by rw [hq]; exact ⟨k1, k2, k3, k4, k5, k6, k7, k8⟩, hf⟩
    have k2 : m' 234 47 = 0 := k2
    simp (disch := omega) only [k2, ↓bc_234, ↓br_234_44, ↓bc_252, ↓bx_252, bl_252, ↓b_t0, ↓b_t1, ↓b_t2, ↓b_t3, ↓b_t4, ↓b_t5, ↓b_t6, Nat.zero_add, Nat.le_refl, b_rs, b_rn, b_r2, b_ss, b_sn, b_bt, b_bf, b_b0, b_b1, b_bw, b_shl, b_or, b_iv, b_jv, b_sI, b_sJ, ↓z_hl, z_b0, z_b1, z_b2, b_and1c, b_and1z, if_true, if_false, nI_add, pk_mul, b_cl, b_lt, b_le, b_eq, b_eq0, b_le0, b_0lt, b_0le, b_lt0]
  | cons t σ' =>
    have k2 : m' 234 47 = σ'.length + 1 := k2
    have k8 : σ'.length + 1 ≤ 44 := k8
    have ht : t ≤ 23 := k6.1.2
    have kt : m' 252 σ'.length = t := k4.1
    by_cases c1 : t = 20
    · right
      subst c1
      have k2 : m' 234 47 = σ'.length + 1 := k2
      have k8 : σ'.length + 1 ≤ 44 := k8
      have d1 := q_deep_1 σ'
      have k3 : m' 234 48 = q_deep σ' + 1 := k3.trans (if_pos (Or.inl rfl))
      have hn : q_no (20 :: σ') = q_no σ' + 1 := if_neg (by decide)
      rw [hn] at k7
      generalize hm1 : b_r m' 234 (b_s (b_s (m' 234) 47 σ'.length) 48 (q_deep σ')) = m1
      have v1 : ∀ c, c ≠ 234 → m1 c = m' c := fun c hc => by rw [← hm1, b_rn hc]
      have u1 : m1 234 = b_s (b_s (m' 234) 47 σ'.length) 48 (q_deep σ') := by rw [← hm1, b_rs]
      have s1 := s_Mo_code (X := X) (tx := tx) (D := d) (m := m1) (j := j) (w := w) (by omega) (L := A'.length) (a := 20) (b := 0) (c := 0) (by rw [u1, b_sn (by decide), b_sn (by decide)]; exact k1) (by omega)
      refine ⟨σ'.length, [.ref 234], b_h (w_code m1 A'.length 20 0 0) j w, by rw [List.length_cons]; omega, ⟨_, σ', (20, 0, 0) :: A', rfl, rfl, rfl, ⟨?_, ?_, ?_, ?_, z_cM_w (by rw [v1 238 (by decide)]; exact k5), k6.2, ?_, by omega⟩, ?_, hq.trans (by rfl)⟩, ?_⟩
      · unfold w_code
        rw [b_rs, b_ss, List.length_cons]
      · unfold w_code
        rw [b_rs, b_sn (by decide), u1, b_sn (by decide), b_ss]
      · unfold w_code
        rw [b_rs, b_sn (by decide), u1, b_ss]
      · unfold w_code
        rw [b_rn (by decide), b_rn (by decide), v1 252 (by decide)]
        exact k4.2
      · rw [List.length_cons]
        omega
      · refine z_Kf_t hf ⟨fun c h1 h2 => ?_, fun k h1 h2 h3 => ?_⟩
        · unfold w_code
          rw [b_rn h1, b_rn h2, v1 c h1]
        · unfold w_code
          rw [b_rs, b_sn h1, u1, b_sn h3, b_sn h2]
      · simp (disch := omega) only [k2, kt, k3, b_sub, Nat.add_sub_cancel, hm1, s1, ↓bc_234, ↓br_234_44, ↓bc_252, ↓bx_252, bl_252, ↓b_t0, ↓b_t1, ↓b_t2, ↓b_t3, ↓b_t4, ↓b_t5, ↓b_t6, Nat.zero_add, Nat.le_refl, b_rs, b_rn, b_r2, b_ss, b_sn, b_bt, b_bf, b_b0, b_b1, b_bw, b_shl, b_or, b_iv, b_jv, b_sI, b_sJ, ↓z_hl, z_b0, z_b1, z_b2, b_and1c, b_and1z, if_true, if_false, nI_add, pk_mul, b_cl, b_lt, b_le, b_eq, b_eq0, b_le0, b_0lt, b_0le, b_lt0]
        rw [if_neg (by omega)]
    · left
      refine ⟨m', ?_, ?_, hf⟩
      · simp (disch := omega) only [k2, kt, b_sub, Nat.add_sub_cancel, ↓bc_234, ↓br_234_44, ↓bc_252, ↓bx_252, bl_252, ↓b_t0, ↓b_t1, ↓b_t2, ↓b_t3, ↓b_t4, ↓b_t5, ↓b_t6, Nat.zero_add, Nat.le_refl, b_rs, b_rn, b_r2, b_ss, b_sn, b_bt, b_bf, b_b0, b_b1, b_bw, b_shl, b_or, b_iv, b_jv, b_sI, b_sJ, ↓z_hl, z_b0, z_b1, z_b2, b_and1c, b_and1z, if_true, if_false, nI_add, pk_mul, b_cl, b_lt, b_le, b_eq, b_eq0, b_le0, b_0lt, b_0le, b_lt0]
        rw [if_neg (by omega), if_neg c1]
      · have : q_nots (t :: σ') A' = (t :: σ', A') := if_neg c1
        rw [hq, this]
        exact ⟨k1, k2, k3, k4, k5, k6, k7, k8⟩
theorem s_Mo_joins {σ : List Nat} {A : List (Nat × Nat × Nat)} {till : Nat} (h : z_K m σ A) (ht : till = 21 ∨ till = 22) (hD : 2 ≤ D) : ∃ m2, a_ex X tx a_T D 303 [.ref 234, .int (nI till)] (b_h m j w) = some (b_h m2 j w, none) ∧ z_K m2 (q_joins till σ A).1 (q_joins till σ A).2 ∧ z_Kf m m2 := by
  obtain ⟨d, rfl⟩ : ∃ d, D = d + 1 := ⟨D - 1, by omega⟩
  rw [e_Mo_joins, ← l_Mo_joins_0]
  refine z_run (Q := fun r => ∃ m2, r = some (b_h m2 j w, none) ∧ z_K m2 (q_joins till σ A).1 (q_joins till σ A).2 ∧ z_Kf m m2) (fun c L y => ∃ m' σ' A', c = σ'.length ∧ L = [.ref 234, .int (nI till)] ∧ y = b_h m' j w ∧ z_K m' σ' A' ∧ z_Kf m m' ∧ q_joins till σ A = q_joins till σ' A') 0 ?_ σ.length _ _ ⟨m, σ, A, rfl, rfl, rfl, h, z_Kf_r, rfl⟩ _ (z_fu (by have := h.2.2.2.2.2.2.2; omega))
  rintro c L y ⟨m', σ', A', rfl, rfl, rfl, hK, hf, hq⟩ f _
  rw [l_Mo_joins_0, q_Mo_joins_0]
  obtain ⟨k1, k2, k3, k4, k5, k6, k7, k8⟩ := hK
  cases σ' with
  | nil =>
    left
    refine ⟨m', ?_, by rw [hq]; exact ⟨k1, k2, k3, k4, k5, k6, k7, k8⟩, hf⟩
    have k2 : m' 234 47 = 0 := k2
    simp (disch := omega) only [k2, ↓bc_234, ↓br_234_44, ↓bc_252, ↓bx_252, bl_252, ↓b_t0, ↓b_t1, ↓b_t2, ↓b_t3, ↓b_t4, ↓b_t5, ↓b_t6, Nat.zero_add, Nat.le_refl, b_rs, b_rn, b_r2, b_ss, b_sn, b_bt, b_bf, b_b0, b_b1, b_bw, b_shl, b_or, b_iv, b_jv, b_sI, b_sJ, ↓z_hl, z_b0, z_b1, z_b2, b_and1c, b_and1z, if_true, if_false, nI_add, pk_mul, b_cl, b_lt, b_le, b_eq, b_eq0, b_le0, b_0lt, b_0le, b_lt0]
  | cons t σ' =>
    have k2 : m' 234 47 = σ'.length + 1 := k2
    have k8 : σ'.length + 1 ≤ 44 := k8
    have ht3 : t ≤ 23 := k6.1.2
    have kt : m' 252 σ'.length = t := k4.1
    have ht22 : till < 23 := by omega
    by_cases c1 : t = 21 ∨ (t = 22 ∧ till = 22)
    · right
      have hn : q_no (t :: σ') = q_no σ' + 1 := if_neg (by omega)
      have hd : q_deep (t :: σ') = q_deep σ' := if_neg (by omega)
      rw [hn] at k7
      rw [hd] at k3
      generalize hm1 : b_r m' 234 (b_s (m' 234) 47 σ'.length) = m1
      have v1 : ∀ c, c ≠ 234 → m1 c = m' c := fun c hc => by rw [← hm1, b_rn hc]
      have u1 : m1 234 = b_s (m' 234) 47 σ'.length := by rw [← hm1, b_rs]
      have s1 := s_Mo_code (X := X) (tx := tx) (D := d) (m := m1) (j := j) (w := w) (by omega) (L := A'.length) (a := t) (b := 0) (c := 0) (by rw [u1, b_sn (by decide)]; exact k1) (by omega)
      have kt1 : m1 252 σ'.length = t := by rw [v1 252 (by decide)]; exact kt
      have k471 : m1 234 47 = σ'.length := by rw [u1, b_ss]
      have x24 : a_rn X tx (a_ex X tx a_T d) (a_go X tx (a_ex X tx a_T d) k_Mo_joins_0 f) k_Mo_joins_24 0 [.ref 234, .int (nI till)] [] (b_h m' j w) = a_go X tx (a_ex X tx a_T d) k_Mo_joins_0 f 0 [.ref 234, .int (nI till)] (b_h (w_code m1 A'.length t 0 0) j w) := by
        rw [q_Mo_joins_24]
        simp (disch := omega) only [k2, b_sub, Nat.add_sub_cancel, hm1, k471, kt1, s1, ↓bc_234, ↓br_234_44, ↓bc_252, ↓bx_252, bl_252, ↓b_t0, ↓b_t1, ↓b_t2, ↓b_t3, ↓b_t4, ↓b_t5, ↓b_t6, Nat.zero_add, Nat.le_refl, b_rs, b_rn, b_r2, b_ss, b_sn, b_bt, b_bf, b_b0, b_b1, b_bw, b_shl, b_or, b_iv, b_jv, b_sI, b_sJ, ↓z_hl, z_b0, z_b1, z_b2, b_and1c, b_and1z, if_true, if_false, nI_add, pk_mul, b_cl, b_lt, b_le, b_eq, b_eq0, b_le0, b_0lt, b_0le, b_lt0]
      refine ⟨σ'.length, [.ref 234, .int (nI till)], b_h (w_code m1 A'.length t 0 0) j w, by rw [List.length_cons]; omega, ⟨_, σ', (t, 0, 0) :: A', rfl, rfl, rfl, ⟨?_, ?_, ?_, ?_, z_cM_w (by rw [v1 238 (by decide)]; exact k5), k6.2, ?_, by omega⟩, ?_, hq.trans (if_pos c1)⟩, ?_⟩
      · unfold w_code
        rw [b_rs, b_ss, List.length_cons]
      · unfold w_code
        rw [b_rs, b_sn (by decide), u1, b_ss]
      · unfold w_code
        rw [b_rs, b_sn (by decide), u1, b_sn (by decide)]
        exact k3
      · unfold w_code
        rw [b_rn (by decide), b_rn (by decide), v1 252 (by decide)]
        exact k4.2
      · rw [List.length_cons]
        omega
      · refine z_Kf_t hf ⟨fun c h1 h2 => ?_, fun k h1 h2 h3 => ?_⟩
        · unfold w_code
          rw [b_rn h1, b_rn h2, v1 c h1]
        · unfold w_code
          rw [b_rs, b_sn h1, u1, b_sn h2]
      · simp (disch := omega) only [k2, kt, b_sub, Nat.add_sub_cancel, ↓bc_234, ↓br_234_44, ↓bc_252, ↓bx_252, bl_252, ↓b_t0, ↓b_t1, ↓b_t2, ↓b_t3, ↓b_t4, ↓b_t5, ↓b_t6, Nat.zero_add, Nat.le_refl, b_rs, b_rn, b_r2, b_ss, b_sn, b_bt, b_bf, b_b0, b_b1, b_bw, b_shl, b_or, b_iv, b_jv, b_sI, b_sJ, ↓z_hl, z_b0, z_b1, z_b2, b_and1c, b_and1z, if_true, if_false, nI_add, pk_mul, b_cl, b_lt, b_le, b_eq, b_eq0, b_le0, b_0lt, b_0le, b_lt0]
        rw [if_neg (by omega)]
        by_cases c2 : t = 21
        · rw [if_pos c2]
          exact x24
        · rw [if_neg c2, if_pos (by omega), if_pos (by omega)]
          exact x24
    · left
      refine ⟨m', ?_, ?_, hf⟩
      · simp (disch := omega) only [k2, kt, b_sub, Nat.add_sub_cancel, ↓bc_234, ↓br_234_44, ↓bc_252, ↓bx_252, bl_252, ↓b_t0, ↓b_t1, ↓b_t2, ↓b_t3, ↓b_t4, ↓b_t5, ↓b_t6, Nat.zero_add, Nat.le_refl, b_rs, b_rn, b_r2, b_ss, b_sn, b_bt, b_bf, b_b0, b_b1, b_bw, b_shl, b_or, b_iv, b_jv, b_sI, b_sJ, ↓z_hl, z_b0, z_b1, z_b2, b_and1c, b_and1z, if_true, if_false, nI_add, pk_mul, b_cl, b_lt, b_le, b_eq, b_eq0, b_le0, b_0lt, b_0le, b_lt0]
        rw [if_neg (by omega), if_neg (by omega)]
        by_cases c2 : t = 22
        · rw [if_pos c2, if_neg (by omega)]
        · rw [if_neg c2]
      · have : q_joins till (t :: σ') A' = (t :: σ', A') := if_neg c1
        rw [hq, this]
        exact ⟨k1, k2, k3, k4, k5, k6, k7, k8⟩
end SM
