/-! SENTENCES: the class's leaves -/
def z_cC (P Q B S : Nat → Nat) : List (Nat × Nat × Nat) → Prop
  | [] => True
  | c :: A => r_c1 S (P A.length) (Q A.length) (B A.length) c.1 c.2.1 c.2.2 ∧ z_cC P Q B S A
theorem z_cC_c {P Q B P2 Q2 B2 S : Nat → Nat} : ∀ A : List (Nat × Nat × Nat), (∀ x, x < A.length → P2 x = P x ∧ Q2 x = Q x ∧ B2 x = B x) → z_cC P Q B S A → z_cC P2 Q2 B2 S A
  | [], _, _ => trivial
  | c :: A, h, y => by
    rw [List.length_cons] at h
    obtain ⟨h1, h2, h3⟩ := h A.length (by omega)
    exact ⟨by rw [h1, h2, h3]; exact y.1, z_cC_c A (fun x hx => h x (by omega)) y.2⟩
def z_Q (m : Nat → Nat → Nat) (S : Nat → Nat) (A : List (Nat × Nat × Nat)) (ones : Nat) : Prop := m 152 0 = ones ∧ m 152 1 = A.length ∧ z_cC (m 153) (m 154) (m 155) S A
def z_qf (m m2 j j2 : Nat → Nat → Nat) : Prop := (∀ c, c ≠ 1 → c < 152 ∨ 155 < c → m2 c = m c) ∧ (∀ c, c ≠ 1 → j2 c = j c) ∧ m2 1 10 = m 1 10 ∧ m2 1 11 = m 1 11
def z_qE (m m2 j j2 : Nat → Nat → Nat) (e : Nat × Nat) : Prop := (∀ c, c ≠ 1 → c < 152 ∨ 155 < c → m2 c = m c) ∧ (∀ c, c ≠ 1 → j2 c = j c) ∧ m2 1 10 = e.1 ∧ m2 1 11 = e.2
theorem z_qf_r {m j : Nat → Nat → Nat} : z_qf m m j j := ⟨fun _ _ _ => rfl, fun _ _ => rfl, rfl, rfl⟩
theorem z_qf_t {m m2 m3 j j2 j3 : Nat → Nat → Nat} (h : z_qf m m2 j j2) (y : z_qf m2 m3 j2 j3) : z_qf m m3 j j3 :=
  ⟨fun c h1 h2 => (y.1 c h1 h2).trans (h.1 c h1 h2), fun c h1 => (y.2.1 c h1).trans (h.2.1 c h1), y.2.2.1.trans h.2.2.1, y.2.2.2.trans h.2.2.2⟩
theorem z_qE_t {m m2 m3 j j2 j3 : Nat → Nat → Nat} {e : Nat × Nat} (h : z_qf m m2 j j2) (y : z_qE m2 m3 j2 j3 e) : z_qE m m3 j j3 e :=
  ⟨fun c h1 h2 => (y.1 c h1 h2).trans (h.1 c h1 h2), fun c h1 => (y.2.1 c h1).trans (h.2.1 c h1), y.2.2⟩
theorem z_qf_o {m m2 j j2 : Nat → Nat → Nat} {n q p : Nat} (h : o_C m m2 j j2 n q p) : z_qf m m2 j j2 := ⟨fun c h1 _ => h.2.1.1 c h1, h.2.1.2⟩
theorem z_qE_x {m m2 j j2 : Nat → Nat → Nat} {e : Nat × Nat} (h : x_C m m2 j j2 e) : z_qE m m2 j j2 e := ⟨fun c h1 _ => h.1 c h1, h.2⟩
theorem z_Q_c {m m2 : Nat → Nat → Nat} {S : Nat → Nat} {A : List (Nat × Nat × Nat)} {ones : Nat} (h : z_Q m S A ones) (hm : ∀ c, 152 ≤ c → c ≤ 155 → m2 c = m c) : z_Q m2 S A ones := by
  unfold z_Q at h ⊢
  rw [hm 152 (by decide) (by decide), hm 153 (by decide) (by decide), hm 154 (by decide) (by decide), hm 155 (by decide) (by decide)]
  exact h
theorem z_Q_o {m m2 j j2 : Nat → Nat → Nat} {n q p : Nat} {S : Nat → Nat} {A : List (Nat × Nat × Nat)} {ones : Nat} (h : z_Q m S A ones) (o : o_C m m2 j j2 n q p) : z_Q m2 S A ones := z_Q_c h (fun c h1 h2 => o.2.1.1 c (by omega))
/-- one part more -/
def w_add (m : Nat → Nat → Nat) (L a b c : Nat) : Nat → Nat → Nat := b_r (b_r (b_r (b_r m 153 (b_s (m 153) L a)) 154 (b_s (m 154) L b)) 155 (b_s (m 155) L c)) 152 (b_s (m 152) 1 (L + 1))
theorem z_Q_add {m : Nat → Nat → Nat} {S : Nat → Nat} {A : List (Nat × Nat × Nat)} {ones a b c : Nat} {k : Nat × Nat × Nat} (h : z_Q m S A ones) (hk : r_c1 S a b c k.1 k.2.1 k.2.2) : z_Q (w_add m A.length a b c) S (k :: A) ones := by
  obtain ⟨h1, h2, h3⟩ := h
  unfold w_add
  refine ⟨by rw [b_rs, b_sn (by decide)]; exact h1, by rw [b_rs, b_ss, List.length_cons], ?_⟩
  have e3 : b_r (b_r (b_r (b_r m 153 (b_s (m 153) A.length a)) 154 (b_s (m 154) A.length b)) 155 (b_s (m 155) A.length c)) 152 (b_s (m 152) 1 (A.length + 1)) 153 = b_s (m 153) A.length a := by rw [b_rn (by decide), b_rn (by decide), b_rn (by decide), b_rs]
  have e4 : b_r (b_r (b_r (b_r m 153 (b_s (m 153) A.length a)) 154 (b_s (m 154) A.length b)) 155 (b_s (m 155) A.length c)) 152 (b_s (m 152) 1 (A.length + 1)) 154 = b_s (m 154) A.length b := by rw [b_rn (by decide), b_rn (by decide), b_rs]
  have e5 : b_r (b_r (b_r (b_r m 153 (b_s (m 153) A.length a)) 154 (b_s (m 154) A.length b)) 155 (b_s (m 155) A.length c)) 152 (b_s (m 152) 1 (A.length + 1)) 155 = b_s (m 155) A.length c := by rw [b_rn (by decide), b_rs]
  rw [e3, e4, e5]
  refine ⟨by rw [b_ss, b_ss, b_ss]; exact hk, z_cC_c A (fun x hx => ?_) h3⟩
  rw [b_sn (by omega), b_sn (by omega), b_sn (by omega)]
  exact ⟨rfl, rfl, rfl⟩
theorem z_qf_a {m m2 j j2 : Nat → Nat → Nat} {L a b c : Nat} (h : z_qf m m2 j j2) : z_qf m (w_add m2 L a b c) j j2 := by
  unfold w_add
  exact ⟨fun x h1 h2 => by rw [b_rn (by omega), b_rn (by omega), b_rn (by omega), b_rn (by omega)]; exact h.1 x h1 h2, h.2.1, by rw [b_rn (by decide), b_rn (by decide), b_rn (by decide), b_rn (by decide)]; exact h.2.2.1, by rw [b_rn (by decide), b_rn (by decide), b_rn (by decide), b_rn (by decide)]; exact h.2.2.2⟩
theorem l_C_a {m j : Nat → Nat → Nat} {n q p L a b c : Nat} (h : l_C m j n q p) : l_C (w_add m L a b c) j n q p := by
  unfold w_add
  exact l_C_c h (by rw [b_rn (by decide), b_rn (by decide), b_rn (by decide), b_rn (by decide)]) (by rw [b_rn (by decide), b_rn (by decide), b_rn (by decide), b_rn (by decide)]) rfl
def x_LF (m j : Nat → Nat → Nat) (w : (Nat × Nat) × Bool) (n q : Nat) (S : Nat → Nat) (ones : Nat) (E : Except (Nat × Nat) (List (Nat × Nat × Nat) × Nat)) (r : A_R) : Prop := match E with
  | .ok y => ∃ m2 j2, r = some (b_h m2 j2 w, some (.int (nI 1))) ∧ l_C m2 j2 n q y.2 ∧ z_qf m m2 j j2 ∧ z_Q m2 S y.1 ones
  | .error e => ∃ m2 j2, r = some (b_h m2 j2 w, some (.int (nI 0))) ∧ z_qE m m2 j j2 e
section LF
variable {X : Nat × (Nat → Int32)} {tx : List Int32} {D d : Nat} {m j : Nat → Nat → Nat} {w : (Nat × Nat) × Bool} {n q p : Nat} {N S : Nat → Nat} {A : List (Nat × Nat × Nat)} {ones : Nat}
theorem x_LF_e {E : Except (Nat × Nat) (List (Nat × Nat × Nat) × Nat)} {r : A_R} {e : Nat × Nat} {m2 j2 : Nat → Nat → Nat} (hE : E = .error e) (h1 : r = some (b_h m2 j2 w, some (.int (nI 0)))) (h2 : z_qE m m2 j j2 e) : x_LF m j w n q S ones E r := by
  rw [hE]
  exact ⟨m2, j2, h1, h2⟩
theorem x_LF_o {E : Except (Nat × Nat) (List (Nat × Nat × Nat) × Nat)} {r : A_R} {y : List (Nat × Nat × Nat) × Nat} {m2 j2 : Nat → Nat → Nat} (hE : E = .ok y) (h1 : r = some (b_h m2 j2 w, some (.int (nI 1)))) (h2 : l_C m2 j2 n q y.2) (h3 : z_qf m m2 j j2) (h4 : z_Q m2 S y.1 ones) : x_LF m j w n q S ones E r := by
  rw [hE]
  exact ⟨m2, j2, h1, h2, h3, h4⟩
theorem s_Se_add (hD : 1 ≤ D) {L a b c : Nat} (h : m 152 1 = L) (hL : L < 40) : a_ex X tx a_T D 91 [.ref 152, .int (nI a), .int (nI b), .int (nI c)] (b_h m j w) = some ((b_h (w_add m L a b c) j w), some (.int (nI (1)))) := by
  obtain ⟨d, rfl⟩ : ∃ d, D = d + 1 := ⟨D - 1, by omega⟩
  rw [e_Se_add, q_Se_add_0]
  simp (disch := omega) only [h, ↓bc_152, ↓br_152_2, ↓bc_153, ↓bx_153, bl_153, ↓br_152_3, ↓bc_154, ↓bx_154, bl_154, ↓br_152_4, ↓bc_155, ↓bx_155, bl_155, ↓b_t0, ↓b_t1, ↓b_t2, ↓b_t3, ↓b_t4, ↓b_t5, ↓b_t6, Nat.zero_add, Nat.le_refl, b_rs, b_rn, b_r2, b_ss, b_sn, b_bt, b_bf, b_b0, b_b1, b_bw, b_shl, b_or, b_iv, b_jv, b_sI, b_sJ, ↓z_hl, z_b0, z_b1, z_b2, b_and1c, b_and1z, if_true, if_false, nI_add, pk_mul, b_cl, b_lt, b_le, b_eq, b_eq0, b_le0, b_0lt, b_0le, b_lt0]
  rw [if_neg (by omega)]
  rfl
theorem s_Se_readNamed (hX : l_X m j n q) (hC : l_C m j n q p) (hN : r_N (m 6) (m 7) (m 4 6) (j 5) N S) (hc : m 4 6 ≤ 30) (hQ : z_Q m S A ones) (hL : A.length < 40) {ky : Nat} (hk : 12 ≤ ky ∧ ky ≤ 15) (hD : 7 ≤ D) : x_LF m j w n q S ones (q_leaf (m 2) n q N S A ky p) (a_ex X tx a_T D 89 [.ref 152, .ref 1, .ref 4, .int (nI ky)] (b_h m j w)) := by
  obtain ⟨d, rfl⟩ : ∃ d, D = d + 1 := ⟨D - 1, by omega⟩
  rw [e_Se_readNamed, q_Se_readNamed_0]
  unfold q_leaf
  by_cases c12 : ky = 12
  · rw [if_pos c12]
    subst c12
    have s1 := s_Se_add (X := X) (tx := tx) (D := d) (m := m) (j := j) (w := w) (by omega) (L := A.length) (a := 12) (b := 0) (c := 0) hQ.2.1 hL
    refine x_LF_o rfl (m2 := w_add m A.length 12 0 0) (j2 := j) ?_ (l_C_a hC) (z_qf_a z_qf_r) (z_Q_add hQ (Or.inr (Or.inr (Or.inr (Or.inl ⟨rfl, rfl⟩)))))
    simp (disch := omega) only [s1, ↓bc_152, ↓bc_4, ↓b_t0, ↓b_t1, ↓b_t2, ↓b_t3, ↓b_t4, ↓b_t5, ↓b_t6, Nat.zero_add, Nat.le_refl, b_rs, b_rn, b_r2, b_ss, b_sn, b_bt, b_bf, b_b0, b_b1, b_bw, b_shl, b_or, b_iv, b_jv, b_sI, b_sJ, ↓z_hl, z_b0, z_b1, z_b2, b_and1c, b_and1z, if_true, if_false, nI_add, pk_mul, b_cl, b_lt, b_le, b_eq, b_eq0, b_le0, b_0lt, b_0le, b_lt0]
  · rw [if_neg c12, if_pos (by omega)]
    have hso : q_so ky ≤ 3 := by
      unfold q_so
      split
      · decide
      · split <;> decide
    have pre20 : (if nI ky = nI 12 then a_kc (b_h m j w) 152 9 (a_b1 (a_ex X tx a_T d 91 [.ref 152, .int (nI 12), .int (nI 0), .int (nI 0)] (b_h m j w)) fun x2 h1 => (if x2 &&& 1 = x2 then some (h1, some (.int x2)) else none)) else (if nI ky = nI 13 then a_rn X tx (a_ex X tx a_T d) (a_go X tx (a_ex X tx a_T d) k_Se_readNamed_0 a_f1) k_Se_readNamed_20 0 [.ref 152, .ref 1, .ref 4, .int (nI ky), (.retAddr 0), (.retAddr 0)] [.int (nI 1)] (b_h m j w) else (if nI ky = nI 14 then a_rn X tx (a_ex X tx a_T d) (a_go X tx (a_ex X tx a_T d) k_Se_readNamed_0 a_f1) k_Se_readNamed_20 0 [.ref 152, .ref 1, .ref 4, .int (nI ky), (.retAddr 0), (.retAddr 0)] [.int (nI 0)] (b_h m j w) else a_rn X tx (a_ex X tx a_T d) (a_go X tx (a_ex X tx a_T d) k_Se_readNamed_0 a_f1) k_Se_readNamed_20 0 [.ref 152, .ref 1, .ref 4, .int (nI ky), (.retAddr 0), (.retAddr 0)] [.int (nI 3)] (b_h m j w)))) = a_rn X tx (a_ex X tx a_T d) (a_go X tx (a_ex X tx a_T d) k_Se_readNamed_0 a_f1) k_Se_readNamed_20 0 [.ref 152, .ref 1, .ref 4, .int (nI ky), (.retAddr 0), (.retAddr 0)] [.int (nI (q_so ky))] (b_h m j w) := by
      have n12 : ¬ nI ky = nI 12 := by rw [b_eq (by omega) (by decide)]; exact c12
      rw [if_neg n12]
      by_cases c13 : ky = 13
      · subst c13
        rw [if_pos rfl]
        rfl
      · have n13 : ¬ nI ky = nI 13 := by rw [b_eq (by omega) (by decide)]; exact c13
        rw [if_neg n13]
        by_cases c14 : ky = 14
        · subst c14
          rw [if_pos rfl]
          rfl
        · have n14 : ¬ nI ky = nI 14 := by rw [b_eq (by omega) (by decide)]; exact c14
          have hs : q_so ky = 3 := by unfold q_so; rw [if_neg c13, if_neg c14]
          rw [if_neg n14, hs]
    rw [pre20, q_Se_readNamed_20]
    have s1 := s_Fa_takeName4 (X := X) (tx := tx) (D := d) (m := m) (j := j) (w := w) (N := N) (s := S) hX hC hN hc (by omega) (so := q_so ky) hso
    cases q1 : k_look (m 2) n q (fun k => N (w_base (q_so ky) + k)) (S (q_so ky)) p with
    | error e =>
      rw [q1] at s1
      obtain ⟨m2, e2, x2⟩ := s1
      refine x_LF_e rfl (m2 := m2) (j2 := j) ?_ (z_qE_x x2)
      simp (disch := omega) only [e2, ↓bc_152, ↓bc_4, ↓b_t0, ↓b_t1, ↓b_t2, ↓b_t3, ↓b_t4, ↓b_t5, ↓b_t6, Nat.zero_add, Nat.le_refl, b_rs, b_rn, b_r2, b_ss, b_sn, b_bt, b_bf, b_b0, b_b1, b_bw, b_shl, b_or, b_iv, b_jv, b_sI, b_sJ, ↓z_hl, z_b0, z_b1, z_b2, b_and1c, b_and1z, if_true, if_false, nI_add, pk_mul, b_cl, b_lt, b_le, b_eq, b_eq0, b_le0, b_0lt, b_0le, b_lt0]
    | ok k =>
      rw [q1] at s1
      obtain ⟨m2, j2, e2, o2, g2, g3⟩ := s1
      have Q2 := z_Q_o hQ o2
      have s3 := s_Se_add (X := X) (tx := tx) (D := d) (m := m2) (j := j2) (w := w) (by omega) (L := A.length) (a := ky) (b := k) (c := 0) Q2.2.1 hL
      refine x_LF_o rfl (m2 := w_add m2 A.length ky k 0) (j2 := j2) ?_ (l_C_a o2.1) (z_qf_a (z_qf_o o2)) (z_Q_add Q2 ?_)
      · simp (disch := omega) only [e2, s3, Nat.one_ne_zero, ↓bc_152, ↓bc_4, ↓b_t0, ↓b_t1, ↓b_t2, ↓b_t3, ↓b_t4, ↓b_t5, ↓b_t6, Nat.zero_add, Nat.le_refl, b_rs, b_rn, b_r2, b_ss, b_sn, b_bt, b_bf, b_b0, b_b1, b_bw, b_shl, b_or, b_iv, b_jv, b_sI, b_sJ, ↓z_hl, z_b0, z_b1, z_b2, b_and1c, b_and1z, if_true, if_false, nI_add, pk_mul, b_cl, b_lt, b_le, b_eq, b_eq0, b_le0, b_0lt, b_0le, b_lt0]
        rw [if_neg (by omega)]
      · show r_c1 S ky k 0 (ky - 12) 0 k
        have h3 : ky = 13 ∨ ky = 14 ∨ ky = 15 := by omega
        rcases h3 with rfl | rfl | rfl
        · exact Or.inr (Or.inr (Or.inr (Or.inr (Or.inl ⟨rfl, rfl, rfl, g2⟩))))
        · exact Or.inr (Or.inr (Or.inr (Or.inr (Or.inr (Or.inl ⟨rfl, rfl, rfl, g2⟩)))))
        · exact Or.inr (Or.inr (Or.inr (Or.inr (Or.inr (Or.inr (Or.inl ⟨rfl, rfl, rfl, g2⟩))))))
theorem s_Se_readComparison (hX : l_X m j n q) (hC : l_C m j n q p) (hQ : z_Q m S A ones) (hL : A.length < 40) {ky : Nat} (hk : 16 ≤ ky ∧ ky ≤ 18) (hD : 5 ≤ D) : x_LF m j w n q S ones (q_leaf (m 2) n q N S A ky p) (a_ex X tx a_T D 90 [.ref 152, .ref 1, .int (nI ky)] (b_h m j w)) := by
  obtain ⟨d, rfl⟩ : ∃ d, D = d + 1 := ⟨D - 1, by omega⟩
  have s1 := s_Ta_comparison (X := X) (tx := tx) (D := d) (m := m) (j := j) (w := w) hX hC (by omega)
  unfold q_leaf
  rw [if_neg (by omega), if_neg (by omega)]
  by_cases c1 : 60 ≤ w_kd (m 2) n q p ∧ w_kd (m 2) n q p ≤ 62
  · rw [if_pos c1] at s1 ⊢
    obtain ⟨m2, j2, e2, o2⟩ := s_Ta_stepT (X := X) (tx := tx) (D := d) (w := w) hX hC (w_kd_in (by omega) (by omega)) (by omega)
    have n2 : m2 2 = m 2 := o2.2.1.1 2 (by decide)
    have s3 := s_Ta_takeNumber (X := X) (tx := tx) (D := d) (m := m2) (j := j2) (w := w) (l_X_fr hX n2 (o2.2.1.2.1 3 (by decide))) o2.1 (by omega) (lo := 0) (hi := 999) (by omega) (by omega)
    rw [n2] at s3
    cases q1 : k_num (m 2) n q 0 999 (w_nx (m 2) n q p) with
    | error e =>
      rw [q1] at s3
      obtain ⟨m3, j3, e3, x3⟩ := s3
      refine x_LF_e rfl (m2 := m3) (j2 := j3) ?_ (z_qE_t (z_qf_o o2) (z_qE_x x3))
      rw [e_Se_readComparison, q_Se_readComparison_0]
      simp (disch := omega) only [s1, e2, e3, ↓bc_1, ↓bc_152, ↓b_t0, ↓b_t1, ↓b_t2, ↓b_t3, ↓b_t4, ↓b_t5, ↓b_t6, Nat.zero_add, Nat.le_refl, b_rs, b_rn, b_r2, b_ss, b_sn, b_bt, b_bf, b_b0, b_b1, b_bw, b_shl, b_or, b_iv, b_jv, b_sI, b_sJ, ↓z_hl, z_b0, z_b1, z_b2, b_and1c, b_and1z, if_true, if_false, nI_add, pk_mul, b_cl, b_lt, b_le, b_eq, b_eq0, b_le0, b_0lt, b_0le, b_lt0]
      rw [if_neg (by omega)]
    | ok r =>
      rw [q1] at s3
      obtain ⟨m3, j3, e3, o3, g3, g4, g5⟩ := s3
      have Q3 := z_Q_o (z_Q_o hQ o2) o3
      have s4 := s_Se_add (X := X) (tx := tx) (D := d) (m := m3) (j := j3) (w := w) (by omega) (L := A.length) (a := ky) (b := w_kd (m 2) n q p) (c := r.1) Q3.2.1 hL
      refine x_LF_o rfl (m2 := w_add m3 A.length ky (w_kd (m 2) n q p) r.1) (j2 := j3) ?_ (l_C_a o3.1) (z_qf_a (z_qf_t (z_qf_o o2) (z_qf_o o3))) (z_Q_add Q3 ?_)
      · rw [e_Se_readComparison, q_Se_readComparison_0]
        simp (disch := omega) only [s1, e2, e3, s4, Nat.one_ne_zero, ↓bc_1, ↓bc_152, ↓b_t0, ↓b_t1, ↓b_t2, ↓b_t3, ↓b_t4, ↓b_t5, ↓b_t6, Nat.zero_add, Nat.le_refl, b_rs, b_rn, b_r2, b_ss, b_sn, b_bt, b_bf, b_b0, b_b1, b_bw, b_shl, b_or, b_iv, b_jv, b_sI, b_sJ, ↓z_hl, z_b0, z_b1, z_b2, b_and1c, b_and1z, if_true, if_false, nI_add, pk_mul, b_cl, b_lt, b_le, b_eq, b_eq0, b_le0, b_0lt, b_0le, b_lt0]
        rw [if_neg (by omega), if_neg (by omega)]
      · exact Or.inr (Or.inr (Or.inr (Or.inr (Or.inr (Or.inr (Or.inr ⟨hk.1, hk.2, by show ky - 12 + 12 = ky; omega, rfl, c1.1, c1.2, rfl, g4⟩))))))
  · rw [if_neg c1] at s1 ⊢
    have sb := s_Ta_fail (X := X) (tx := tx) (D := d) (m := m) (j := j) (w := w) hC (by omega) (k := 1)
    refine x_LF_e rfl ?_ (z_qE_x x_C_fail)
    rw [e_Se_readComparison, q_Se_readComparison_0]
    simp (disch := omega) only [s1, sb, ↓bc_1, ↓bc_152, ↓b_t0, ↓b_t1, ↓b_t2, ↓b_t3, ↓b_t4, ↓b_t5, ↓b_t6, Nat.zero_add, Nat.le_refl, b_rs, b_rn, b_r2, b_ss, b_sn, b_bt, b_bf, b_b0, b_b1, b_bw, b_shl, b_or, b_iv, b_jv, b_sI, b_sJ, ↓z_hl, z_b0, z_b1, z_b2, b_and1c, b_and1z, if_true, if_false, nI_add, pk_mul, b_cl, b_lt, b_le, b_eq, b_eq0, b_le0, b_0lt, b_0le, b_lt0]
end LF
