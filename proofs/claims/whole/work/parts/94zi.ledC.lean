/-! LEDGERS: a line; the class's side -/
def z_lv (S : Nat → Nat) (y : Nat × Nat × Nat) : Prop := (y.2.2 = 4294967294 ∧ 1 ≤ y.1 ∧ y.1 ≤ 60) ∨ (y.2.2 = 4294967295 ∧ y.1 < S 1 ∧ y.2.1 < S 3) ∨ (y.2.2 < S 2 ∧ y.1 < S 1 ∧ y.2.1 < S 3)
theorem k_lg79_ok {b : Nat → Nat} {n q : Nat} {N S : Nat → Nat} {a i3 p : Nat} {y : (Nat × Nat × Nat) × Nat} (hk : w_kd b n q p = 1) (ha : a < S 1) (h : k_lg79 b n q N S a i3 p = .ok y) : z_lv S y.1 ∧ p ≤ y.2 := by
  unfold k_lg79 at h
  have n1 := w_nx_in (w_kd_in (b := b) (n := n) (q := q) (p := p) (by omega) (by omega))
  cases q1 : k_look b n q (fun k => N (20 + k)) (S 3) (w_nx b n q p) with
  | error e =>
    rw [q1] at h
    exact z_exn h
  | ok e =>
    rw [q1] at h
    have he := k_look_lt q1
    have hk2 := k_am_lo q1
    have n2 := w_nx_in (w_kd_in (b := b) (n := n) (q := q) (p := w_nx b n q p) (by omega) (by omega))
    have h : @Eq (Except (Nat × Nat) ((Nat × Nat × Nat) × Nat)) (if i3 = 0 then .ok ((a, e, 4294967295), w_nx b n q (w_nx b n q p)) else match k_look b n q (fun k => N (12 + k)) (S 2) (w_nx b n q (w_nx b n q p)) with
      | .error e => .error e
      | .ok t => .ok ((a, e, t), w_nx b n q (w_nx b n q (w_nx b n q p)))) (.ok y) := h
    by_cases c : i3 = 0
    · rw [if_pos c] at h
      rw [← Except.ok.inj h]
      exact ⟨Or.inr (Or.inl ⟨rfl, ha, he⟩), by show p ≤ w_nx b n q (w_nx b n q p); omega⟩
    · rw [if_neg c] at h
      cases q2 : k_look b n q (fun k => N (12 + k)) (S 2) (w_nx b n q (w_nx b n q p)) with
      | error e =>
        rw [q2] at h
        exact z_exn h
      | ok t =>
        rw [q2] at h
        have ht := k_look_lt q2
        have hk3 := k_am_lo q2
        have n3 := w_nx_in (w_kd_in (b := b) (n := n) (q := q) (p := w_nx b n q (w_nx b n q p)) (by omega) (by omega))
        rw [← Except.ok.inj h]
        exact ⟨Or.inr (Or.inr ⟨ht, ha, he⟩), by show p ≤ w_nx b n q (w_nx b n q (w_nx b n q p)); omega⟩
theorem k_ll_ok {b : Nat → Nat} {n q : Nat} {N S : Nat → Nat} {ln p : Nat} {y : (Nat × Nat × Nat) × Nat} (h : k_ll b n q N S ln p = .ok y) : z_lv S y.1 ∧ p ≤ y.2 := by
  unfold k_ll at h
  by_cases c8 : w_ky b n q p = 8
  · rw [if_pos c8] at h
    have hk := ((w_ky_iff (by decide)).mp c8).1
    have n1 := w_nx_in (w_kd_in (b := b) (n := n) (q := q) (p := p) (by omega) (by omega))
    by_cases c : ln = 40
    · rw [if_pos c] at h
      exact z_exn h
    · rw [if_neg c] at h
      unfold k_lgd at h
      cases q1 : k_num b n q 1 60 (w_nx b n q p) with
      | error e =>
        rw [q1] at h
        exact z_exn h
      | ok r =>
        rw [q1] at h
        obtain ⟨a1, a2, a3, a4, a5⟩ := k_num_ok q1
        rw [← Except.ok.inj h]
        exact ⟨Or.inl ⟨rfl, a1, a2⟩, by show p ≤ r.2; omega⟩
  · rw [if_neg c8] at h
    cases q1 : k_look b n q (fun k => N (6 + k)) (S 1) p with
    | error e =>
      rw [q1] at h
      exact z_exn h
    | ok a =>
      rw [q1] at h
      have ha := k_look_lt q1
      have hk := k_am_lo q1
      have n1 := w_nx_in (w_kd_in (b := b) (n := n) (q := q) (p := p) (by omega) (by omega))
      have h : @Eq (Except (Nat × Nat) ((Nat × Nat × Nat) × Nat)) (if ln = 40 then .error (4, w_pl b n q p) else k_lgp b n q N S a (w_nx b n q p)) (.ok y) := h
      by_cases c : ln = 40
      · rw [if_pos c] at h
        exact z_exn h
      · rw [if_neg c] at h
        unfold k_lgp at h
        by_cases c7 : w_ky b n q (w_nx b n q p) = 7
        · rw [if_pos c7] at h
          obtain ⟨g1, g2⟩ := k_lg79_ok ((w_ky_iff (by decide)).mp c7).1 ha h
          exact ⟨g1, by omega⟩
        · rw [if_neg c7] at h
          by_cases c6 : w_ky b n q (w_nx b n q p) = 6
          · rw [if_pos c6] at h
            obtain ⟨g1, g2⟩ := k_lg79_ok ((w_ky_iff (by decide)).mp c6).1 ha h
            exact ⟨g1, by omega⟩
          · rw [if_neg c6] at h
            exact z_exn h
def x_lf (m m2 j j2 : Nat → Nat → Nat) (ln : Nat) : Prop := (∀ c, c ≠ 1 → c < 157 ∨ 161 < c → m2 c = m c) ∧ (∀ c, c ≠ 1 → j2 c = j c) ∧ m2 1 10 = m 1 10 ∧ m2 1 11 = m 1 11 ∧ ∀ c, 157 ≤ c → c ≤ 161 → ∀ x, x ≠ ln → m2 c x = m c x
def x_lE (m m2 j j2 : Nat → Nat → Nat) (e : Nat × Nat) : Prop := (∀ c, c ≠ 1 → c < 157 ∨ 161 < c → m2 c = m c) ∧ (∀ c, c ≠ 1 → j2 c = j c) ∧ m2 1 10 = e.1 ∧ m2 1 11 = e.2
def x_ln (m : Nat → Nat → Nat) (i : Nat) (y : Nat × Nat × Nat) : Prop := (y.2.2 = 4294967294 → m 157 i = 8 ∧ m 161 i = y.1) ∧ (y.2.2 = 4294967295 → m 157 i = 6 ∧ m 158 i = y.1 ∧ m 159 i = y.2.1) ∧ (y.2.2 < 4294967294 → m 157 i = 7 ∧ m 158 i = y.1 ∧ m 159 i = y.2.1 ∧ m 160 i = y.2.2)
theorem x_lf_t {m m2 m3 j j2 j3 : Nat → Nat → Nat} {ln : Nat} (h : x_lf m m2 j j2 ln) (y : x_lf m2 m3 j2 j3 ln) : x_lf m m3 j j3 ln :=
  ⟨fun c h1 h2 => (y.1 c h1 h2).trans (h.1 c h1 h2), fun c h1 => (y.2.1 c h1).trans (h.2.1 c h1), y.2.2.1.trans h.2.2.1, y.2.2.2.1.trans h.2.2.2.1, fun c h1 h2 x hx => (y.2.2.2.2 c h1 h2 x hx).trans (h.2.2.2.2 c h1 h2 x hx)⟩
theorem x_lf_r {m j : Nat → Nat → Nat} {ln : Nat} : x_lf m m j j ln := ⟨fun _ _ _ => rfl, fun _ _ => rfl, rfl, rfl, fun _ _ _ _ _ => rfl⟩
theorem x_lf_o {m m2 j j2 : Nat → Nat → Nat} {n q p ln : Nat} (h : o_C m m2 j j2 n q p) : x_lf m m2 j j2 ln :=
  ⟨fun c h1 _ => h.2.1.1 c h1, h.2.1.2.1, h.2.1.2.2.1, h.2.1.2.2.2, fun c h1 h2 x _ => by rw [h.2.1.1 c (by omega)]⟩
theorem x_lf_w {m m2 j j2 : Nat → Nat → Nat} {ln c v : Nat} (h : x_lf m m2 j j2 ln) (h1 : 157 ≤ c) (h2 : c ≤ 161) : x_lf m (b_r m2 c (b_s (m2 c) ln v)) j j2 ln :=
  ⟨fun x hx hx2 => (b_rn (by omega)).trans (h.1 x hx hx2), h.2.1, by rw [b_rn (by omega)]; exact h.2.2.1, by rw [b_rn (by omega)]; exact h.2.2.2.1, fun x g1 g2 i hi => by
    by_cases e : x = c
    · rw [e, b_rs, b_sn hi]; exact h.2.2.2.2 c h1 h2 i hi
    · rw [b_rn e]; exact h.2.2.2.2 x g1 g2 i hi⟩
theorem x_lE_x {m m2 m3 j j2 j3 : Nat → Nat → Nat} {ln : Nat} {e : Nat × Nat} (h : x_lf m m2 j j2 ln) (y : x_C m2 m3 j2 j3 e) : x_lE m m3 j j3 e :=
  ⟨fun c h1 h2 => (y.1 c h1).trans (h.1 c h1 h2), fun c h1 => (y.2.1 c h1).trans (h.2.1 c h1), y.2.2.1, y.2.2.2⟩
theorem x_lE_w {m m2 j j2 : Nat → Nat → Nat} {e : Nat × Nat} {c : Nat} {f : Nat → Nat} (h : x_lE m m2 j j2 e) (h1 : 157 ≤ c) (h2 : c ≤ 161) : x_lE m (b_r m2 c f) j j2 e :=
  ⟨fun x hx hx2 => (b_rn (by omega)).trans (h.1 x hx hx2), h.2.1, by rw [b_rn (by omega)]; exact h.2.2.1, by rw [b_rn (by omega)]; exact h.2.2.2⟩
def x_G (m j : Nat → Nat → Nat) (w : (Nat × Nat) × Bool) (n q ln : Nat) (E : Except (Nat × Nat) ((Nat × Nat × Nat) × Nat)) (r : A_R) : Prop := match E with
  | .ok y => ∃ m2 j2, r = some (b_h m2 j2 w, some (.int (nI 1))) ∧ l_C m2 j2 n q y.2 ∧ y.2 ≤ n ∧ x_lf m m2 j j2 ln ∧ x_ln m2 ln y.1
  | .error e => ∃ m2 j2, r = some (b_h m2 j2 w, some (.int (nI 0))) ∧ x_lE m m2 j j2 e
theorem x_G_e {m j m2 j2 : Nat → Nat → Nat} {w : (Nat × Nat) × Bool} {n q ln : Nat} {E : Except (Nat × Nat) ((Nat × Nat × Nat) × Nat)} {r : A_R} {e : Nat × Nat} (hE : E = .error e) (h1 : r = some (b_h m2 j2 w, some (.int (nI 0)))) (h2 : x_lE m m2 j j2 e) : x_G m j w n q ln E r := by
  rw [hE]
  exact ⟨m2, j2, h1, h2⟩
theorem x_G_o {m j m2 j2 : Nat → Nat → Nat} {w : (Nat × Nat) × Bool} {n q ln : Nat} {E : Except (Nat × Nat) ((Nat × Nat × Nat) × Nat)} {r : A_R} {y : (Nat × Nat × Nat) × Nat} (hE : E = .ok y) (h1 : r = some (b_h m2 j2 w, some (.int (nI 1)))) (h2 : l_C m2 j2 n q y.2) (h3 : y.2 ≤ n) (h4 : x_lf m m2 j j2 ln) (h5 : x_ln m2 ln y.1) : x_G m j w n q ln E r := by
  rw [hE]
  exact ⟨m2, j2, h1, h2, h3, h4, h5⟩
theorem x_G_b {m m0 j j0 : Nat → Nat → Nat} {w : (Nat × Nat) × Bool} {n q ln : Nat} {E : Except (Nat × Nat) ((Nat × Nat × Nat) × Nat)} {r : A_R} (h : x_lf m0 m j0 j ln) (y : x_G m j w n q ln E r) : x_G m0 j0 w n q ln E r := by
  cases E with
  | error e =>
    obtain ⟨m2, j2, a1, a2, a3, a4⟩ := y
    exact ⟨m2, j2, a1, fun c h1 h2 => (a2 c h1 h2).trans (h.1 c h1 h2), fun c h1 => (a3 c h1).trans (h.2.1 c h1), a4⟩
  | ok v =>
    obtain ⟨m2, j2, a1, a2, a3, a4, a5⟩ := y
    exact ⟨m2, j2, a1, a2, a3, x_lf_t h a4, a5⟩
/-- the answer, once more -/
theorem x_G_t {m j : Nat → Nat → Nat} {w : (Nat × Nat) × Bool} {n q ln : Nat} {E : Except (Nat × Nat) ((Nat × Nat × Nat) × Nat)} {r g : A_R} (hx : x_G m j w n q ln E r) (hg : (∃ m2 j2, r = some (b_h m2 j2 w, some (.int (nI 1)))) ∨ (∃ m2 j2, r = some (b_h m2 j2 w, some (.int (nI 0)))) → g = r) : x_G m j w n q ln E g := by
  cases E with
  | error e =>
    obtain ⟨m2, j2, e1, e2⟩ := hx
    rw [hg (Or.inr ⟨m2, j2, e1⟩)]
    exact ⟨m2, j2, e1, e2⟩
  | ok y =>
    obtain ⟨m2, j2, e1, e2⟩ := hx
    rw [hg (Or.inl ⟨m2, j2, e1⟩)]
    exact ⟨m2, j2, e1, e2⟩
section LC
variable {X : Nat × (Nat → Int32)} {tx : List Int32} {D d : Nat} {m j : Nat → Nat → Nat} {w : (Nat × Nat) × Bool} {n q p : Nat} {S N : Nat → Nat} {ln a : Nat}
theorem s_Le_readDays (hX : l_X m j n q) (h : l_C m j n q p) (h0 : m 156 0 = ln) (hln : ln < 40) (hD : 4 ≤ D) : x_G m j w n q ln (k_lgd (m 2) n q p) (a_ex X tx a_T D 98 [.ref 156, .ref 1] (b_h m j w)) := by
  obtain ⟨d, rfl⟩ : ∃ d, D = d + 1 := ⟨D - 1, by omega⟩
  generalize hm1 : b_r m 157 (b_s (m 157) ln 8) = m1
  have v1 : ∀ c, c ≠ 157 → m1 c = m c := fun c hc => by rw [← hm1, b_rn hc]
  have f1 : x_lf m m1 j j ln := by rw [← hm1]; exact x_lf_w x_lf_r (by decide) (by decide)
  have s2 := s_Ta_takeNumber (X := X) (tx := tx) (D := d) (m := m1) (j := j) (w := w) (l_X_fr hX (v1 2 (by decide)) rfl) (l_C_c h (v1 1 (by decide)) (v1 2 (by decide)) rfl) (by omega) (lo := 1) (hi := 60) (by omega) (by omega)
  rw [v1 2 (by decide)] at s2
  have h01 : m1 156 0 = ln := by rw [v1 156 (by decide)]; exact h0
  unfold k_lgd
  cases q1 : k_num (m 2) n q 1 60 p with
  | error e =>
    rw [q1] at s2
    obtain ⟨m2, j2, e2, x2⟩ := s2
    have h02 : m2 156 0 = ln := by rw [x2.1 156 (by decide)]; exact h01
    refine x_G_e rfl (m2 := b_r m2 161 (b_s (m2 161) ln 4294967295)) (j2 := j2) ?_ (x_lE_w (x_lE_x f1 x2) (by decide) (by decide))
    rw [e_Le_readDays, q_Le_readDays_0]
    simp (disch := omega) only [h0, h01, h02, hm1, e2, ↓bc_156, ↓br_156_1, ↓bc_157, ↓bx_157, bl_157, ↓br_156_5, ↓bc_161, ↓bx_161, bl_161, ↓bc_1, ↓b_t0, ↓b_t1, ↓b_t2, ↓b_t3, ↓b_t4, ↓b_t5, ↓b_t6, Nat.zero_add, Nat.le_refl, b_rs, b_rn, b_r2, b_ss, b_sn, b_bt, b_bf, b_b0, b_b1, b_bw, b_shl, b_or, b_iv, b_jv, b_sI, b_sJ, ↓z_hl, z_b0, z_b1, z_b2, b_and1c, b_and1z, if_true, if_false, nI_add, pk_mul, b_cl, b_lt, b_le, b_eq, b_eq0, b_le0, b_0lt, b_0le, b_lt0]
  | ok r =>
    rw [q1] at s2
    obtain ⟨m2, j2, e2, o2, g2, g3, g4⟩ := s2
    have h02 : m2 156 0 = ln := by rw [o2.2.1.1 156 (by decide)]; exact h01
    refine x_G_o rfl (m2 := b_r m2 161 (b_s (m2 161) ln r.1)) (j2 := j2) ?_ (l_C_c o2.1 (b_rn (by decide)) (b_rn (by decide)) rfl) o2.2.2 (x_lf_w (x_lf_t f1 (x_lf_o o2)) (by decide) (by decide)) ⟨fun _ => ⟨?_, ?_⟩, fun x => absurd (show (4294967294 : Nat) = 4294967295 from x) (by decide), fun x => absurd (show (4294967294 : Nat) < 4294967294 from x) (by decide)⟩
    · rw [e_Le_readDays, q_Le_readDays_0]
      simp (disch := omega) only [h0, h01, h02, hm1, e2, ↓bc_156, ↓br_156_1, ↓bc_157, ↓bx_157, bl_157, ↓br_156_5, ↓bc_161, ↓bx_161, bl_161, ↓bc_1, ↓b_t0, ↓b_t1, ↓b_t2, ↓b_t3, ↓b_t4, ↓b_t5, ↓b_t6, Nat.zero_add, Nat.le_refl, b_rs, b_rn, b_r2, b_ss, b_sn, b_bt, b_bf, b_b0, b_b1, b_bw, b_shl, b_or, b_iv, b_jv, b_sI, b_sJ, ↓z_hl, z_b0, z_b1, z_b2, b_and1c, b_and1z, if_true, if_false, nI_add, pk_mul, b_cl, b_lt, b_le, b_eq, b_eq0, b_le0, b_0lt, b_0le, b_lt0]
      rw [if_neg (by omega)]
    · rw [b_rn (by decide), o2.2.1.1 157 (by decide), ← hm1, b_rs, b_ss]
    · rw [b_rs, b_ss]
theorem s_Le_deed13 {f i3 wd : Nat} (hX : l_X m j n q) (h : l_C m j n q p) (hk : w_kd (m 2) n q p = 1) (hN : r_N (m 6) (m 7) (m 4 6) (j 5) N S) (hc : m 4 6 ≤ 30) (hS2 : S 2 ≤ 8) (h0 : m 156 0 = ln) (hln : ln < 40) (h158 : m 158 ln = a) (h3 : i3 < 2) (hw : wd = 6 + i3) (hd : 8 ≤ d) : x_G m j w n q ln (k_lg79 (m 2) n q N S a i3 p) (a_rn X tx (a_ex X tx a_T d) (a_go X tx (a_ex X tx a_T d) k_Le_readDeed_0 f) k_Le_readDeed_13 0 [.ref 156, .ref 1, .ref 4, .int (nI wd)] [] (b_h m j w)) := by
  rw [q_Le_readDeed_13]
  obtain ⟨m1, j1, e1, o1⟩ := s_Ta_stepT (X := X) (tx := tx) (D := d) (w := w) hX h (w_kd_in (by omega) (by omega)) (by omega)
  have h01 : m1 156 0 = ln := by rw [o1.2.1.1 156 (by decide)]; exact h0
  generalize hm2 : b_r m1 157 (b_s (m1 157) ln wd) = m2
  have v2 : ∀ c, c ≠ 157 → m2 c = m1 c := fun c hc => by rw [← hm2, b_rn hc]
  have v2m : ∀ c, c ≠ 1 → c ≠ 157 → m2 c = m c := fun c c1 c2 => (v2 c c2).trans (o1.2.1.1 c c1)
  have h02 : m2 156 0 = ln := by rw [v2 156 (by decide)]; exact h01
  have f2 : x_lf m m2 j j1 ln := by rw [← hm2]; exact x_lf_w (x_lf_o o1) (by decide) (by decide)
  have X2 : l_X m2 j1 n q := l_X_fr hX (v2m 2 (by decide) (by decide)) (o1.2.1.2.1 3 (by decide))
  have C2 : l_C m2 j1 n q (w_nx (m 2) n q p) := l_C_c o1.1 (v2 1 (by decide)) (v2 2 (by decide)) rfl
  have s3 := s_Fa_takeName4 (X := X) (tx := tx) (D := d) (m := m2) (j := j1) (w := w) (N := N) (s := S) X2 C2 (by rw [v2m 6 (by decide) (by decide), v2m 7 (by decide) (by decide), v2m 4 (by decide) (by decide), o1.2.1.2.1 5 (by decide)]; exact hN) (by rw [v2m 4 (by decide) (by decide)]; exact hc) (by omega) (so := 3) (by decide)
  rw [v2m 2 (by decide) (by decide)] at s3
  have s3 : match k_look (m 2) n q (fun k => N (20 + k)) (S 3) (w_nx (m 2) n q p) with
    | .ok k => ∃ m3 j3, a_ex X tx a_T d 44 [.ref 4, .ref 1, .int (nI 3)] (b_h m2 j1 w) = some (b_h m3 j3 w, some (.int (nI k))) ∧ o_C m2 m3 j1 j3 n q (w_nx (m 2) n q (w_nx (m 2) n q p)) ∧ k < S 3 ∧ k < 30
    | .error e => ∃ m3, a_ex X tx a_T d 44 [.ref 4, .ref 1, .int (nI 3)] (b_h m2 j1 w) = some (b_h m3 j1 w, some (.int (nI 4294967295))) ∧ x_C m2 m3 j1 j1 e := s3
  unfold k_lg79
  cases q1 : k_look (m 2) n q (fun k => N (20 + k)) (S 3) (w_nx (m 2) n q p) with
  | error e =>
    rw [q1] at s3
    obtain ⟨m3, e3, x3⟩ := s3
    have h03 : m3 156 0 = ln := by rw [x3.1 156 (by decide)]; exact h02
    refine x_G_e rfl (m2 := b_r m3 159 (b_s (m3 159) ln 4294967295)) (j2 := j1) ?_ (x_lE_w (x_lE_x f2 x3) (by decide) (by decide))
    simp (disch := omega) only [e1, h01, h02, h03, hm2, e3, ↓bc_1, ↓bc_156, ↓br_156_1, ↓bc_157, ↓bx_157, bl_157, ↓br_156_3, ↓bc_159, ↓bx_159, bl_159, ↓bc_4, ↓br_156_4, ↓bc_160, ↓bx_160, bl_160, ↓b_t0, ↓b_t1, ↓b_t2, ↓b_t3, ↓b_t4, ↓b_t5, ↓b_t6, Nat.zero_add, Nat.le_refl, b_rs, b_rn, b_r2, b_ss, b_sn, b_bt, b_bf, b_b0, b_b1, b_bw, b_shl, b_or, b_iv, b_jv, b_sI, b_sJ, ↓z_hl, z_b0, z_b1, z_b2, b_and1c, b_and1z, if_true, if_false, nI_add, pk_mul, b_cl, b_lt, b_le, b_eq, b_eq0, b_le0, b_0lt, b_0le, b_lt0]
  | ok e =>
    rw [q1] at s3
    obtain ⟨m3, j3, e3, o3, g3, g4⟩ := s3
    have h03 : m3 156 0 = ln := by rw [o3.2.1.1 156 (by decide)]; exact h02
    have f3 : x_lf m (b_r m3 159 (b_s (m3 159) ln e)) j j3 ln := x_lf_w (x_lf_t f2 (x_lf_o o3)) (by decide) (by decide)
    have v3 : ∀ c, c ≠ 1 → m3 c = m2 c := o3.2.1.1
    have w157 : m3 157 ln = wd := by rw [v3 157 (by decide), ← hm2, b_rs, b_ss]
    have w158 : m3 158 ln = a := by rw [v3 158 (by decide), v2m 158 (by decide) (by decide)]; exact h158
    show x_G m j w n q ln (if i3 = 0 then .ok ((a, e, 4294967295), w_nx (m 2) n q (w_nx (m 2) n q p)) else match k_look (m 2) n q (fun k => N (12 + k)) (S 2) (w_nx (m 2) n q (w_nx (m 2) n q p)) with
    | .error e => .error e
    | .ok t => .ok ((a, e, t), w_nx (m 2) n q (w_nx (m 2) n q (w_nx (m 2) n q p)))) _
    by_cases c : i3 = 0
    · rw [if_pos c]
      have c6 : wd = 6 := by omega
      subst c6
      refine x_G_o rfl (m2 := b_r m3 159 (b_s (m3 159) ln e)) (j2 := j3) ?_ (l_C_c o3.1 (b_rn (by decide)) (b_rn (by decide)) rfl) o3.2.2 f3 ⟨fun x => absurd (show (4294967295 : Nat) = 4294967294 from x) (by decide), fun _ => ⟨?_, ?_, ?_⟩, fun x => absurd (show (4294967295 : Nat) < 4294967294 from x) (by decide)⟩
      · simp (disch := omega) only [e1, h01, h02, h03, hm2, e3, Nat.one_ne_zero, ↓bc_1, ↓bc_156, ↓br_156_1, ↓bc_157, ↓bx_157, bl_157, ↓br_156_3, ↓bc_159, ↓bx_159, bl_159, ↓bc_4, ↓br_156_4, ↓bc_160, ↓bx_160, bl_160, ↓b_t0, ↓b_t1, ↓b_t2, ↓b_t3, ↓b_t4, ↓b_t5, ↓b_t6, Nat.zero_add, Nat.le_refl, b_rs, b_rn, b_r2, b_ss, b_sn, b_bt, b_bf, b_b0, b_b1, b_bw, b_shl, b_or, b_iv, b_jv, b_sI, b_sJ, ↓z_hl, z_b0, z_b1, z_b2, b_and1c, b_and1z, if_true, if_false, nI_add, pk_mul, b_cl, b_lt, b_le, b_eq, b_eq0, b_le0, b_0lt, b_0le, b_lt0]
        rw [if_neg (by omega), if_neg (by omega)]
      · rw [b_rn (by decide)]; exact w157
      · rw [b_rn (by decide)]; exact w158
      · rw [b_rs, b_ss]
    · rw [if_neg c]
      have c7 : wd = 7 := by omega
      subst c7
      generalize hm4 : b_r m3 159 (b_s (m3 159) ln e) = m4 at f3
      have v4 : ∀ c, c ≠ 159 → m4 c = m3 c := fun c hc => by rw [← hm4, b_rn hc]
      have v4m : ∀ c, c ≠ 1 → c ≠ 157 → c ≠ 159 → m4 c = m c := fun c c1 c2 c3 => (v4 c c3).trans ((v3 c c1).trans (v2m c c1 c2))
      have h04 : m4 156 0 = ln := by rw [v4 156 (by decide)]; exact h03
      have jj : ∀ c, c ≠ 1 → j3 c = j c := fun c c1 => (o3.2.1.2.1 c c1).trans (o1.2.1.2.1 c c1)
      have s5 := s_Fa_takeName4 (X := X) (tx := tx) (D := d) (m := m4) (j := j3) (w := w) (N := N) (s := S) (l_X_fr hX (v4m 2 (by decide) (by decide) (by decide)) (jj 3 (by decide))) (l_C_c o3.1 (v4 1 (by decide)) (v4 2 (by decide)) rfl) (by rw [v4m 6 (by decide) (by decide) (by decide), v4m 7 (by decide) (by decide) (by decide), v4m 4 (by decide) (by decide) (by decide), jj 5 (by decide)]; exact hN) (by rw [v4m 4 (by decide) (by decide) (by decide)]; exact hc) (by omega) (so := 2) (by decide)
      rw [v4m 2 (by decide) (by decide) (by decide)] at s5
      have s5 : match k_look (m 2) n q (fun k => N (12 + k)) (S 2) (w_nx (m 2) n q (w_nx (m 2) n q p)) with
        | .ok k => ∃ m5 j5, a_ex X tx a_T d 44 [.ref 4, .ref 1, .int (nI 2)] (b_h m4 j3 w) = some (b_h m5 j5 w, some (.int (nI k))) ∧ o_C m4 m5 j3 j5 n q (w_nx (m 2) n q (w_nx (m 2) n q (w_nx (m 2) n q p))) ∧ k < S 2 ∧ k < 30
        | .error e => ∃ m5, a_ex X tx a_T d 44 [.ref 4, .ref 1, .int (nI 2)] (b_h m4 j3 w) = some (b_h m5 j3 w, some (.int (nI 4294967295))) ∧ x_C m4 m5 j3 j3 e := s5
      cases q2 : k_look (m 2) n q (fun k => N (12 + k)) (S 2) (w_nx (m 2) n q (w_nx (m 2) n q p)) with
      | error e9 =>
        rw [q2] at s5
        obtain ⟨m5, e5, x5⟩ := s5
        have h05 : m5 156 0 = ln := by rw [x5.1 156 (by decide)]; exact h04
        refine x_G_e rfl (m2 := b_r m5 160 (b_s (m5 160) ln 4294967295)) (j2 := j3) ?_ (x_lE_w (x_lE_x f3 x5) (by decide) (by decide))
        simp (disch := omega) only [e1, h01, h02, h03, hm2, e3, hm4, h04, e5, h05, ↓bc_1, ↓bc_156, ↓br_156_1, ↓bc_157, ↓bx_157, bl_157, ↓br_156_3, ↓bc_159, ↓bx_159, bl_159, ↓bc_4, ↓br_156_4, ↓bc_160, ↓bx_160, bl_160, ↓b_t0, ↓b_t1, ↓b_t2, ↓b_t3, ↓b_t4, ↓b_t5, ↓b_t6, Nat.zero_add, Nat.le_refl, b_rs, b_rn, b_r2, b_ss, b_sn, b_bt, b_bf, b_b0, b_b1, b_bw, b_shl, b_or, b_iv, b_jv, b_sI, b_sJ, ↓z_hl, z_b0, z_b1, z_b2, b_and1c, b_and1z, if_true, if_false, nI_add, pk_mul, b_cl, b_lt, b_le, b_eq, b_eq0, b_le0, b_0lt, b_0le, b_lt0]
        rw [if_neg (by omega), if_neg (by decide)]
      | ok t =>
        rw [q2] at s5
        obtain ⟨m5, j5, e5, o5, g5, g6⟩ := s5
        have h05 : m5 156 0 = ln := by rw [o5.2.1.1 156 (by decide)]; exact h04
        have v5 : ∀ c, c ≠ 1 → m5 c = m4 c := o5.2.1.1
        refine x_G_o rfl (m2 := b_r m5 160 (b_s (m5 160) ln t)) (j2 := j5) ?_ (l_C_c o5.1 (b_rn (by decide)) (b_rn (by decide)) rfl) o5.2.2 (x_lf_w (x_lf_t f3 (x_lf_o o5)) (by decide) (by decide)) ⟨fun x => ?_, fun x => ?_, fun _ => ⟨?_, ?_, ?_, ?_⟩⟩
        · simp (disch := omega) only [e1, h01, h02, h03, hm2, e3, hm4, h04, e5, h05, Nat.one_ne_zero, ↓bc_1, ↓bc_156, ↓br_156_1, ↓bc_157, ↓bx_157, bl_157, ↓br_156_3, ↓bc_159, ↓bx_159, bl_159, ↓bc_4, ↓br_156_4, ↓bc_160, ↓bx_160, bl_160, ↓b_t0, ↓b_t1, ↓b_t2, ↓b_t3, ↓b_t4, ↓b_t5, ↓b_t6, Nat.zero_add, Nat.le_refl, b_rs, b_rn, b_r2, b_ss, b_sn, b_bt, b_bf, b_b0, b_b1, b_bw, b_shl, b_or, b_iv, b_jv, b_sI, b_sJ, ↓z_hl, z_b0, z_b1, z_b2, b_and1c, b_and1z, if_true, if_false, nI_add, pk_mul, b_cl, b_lt, b_le, b_eq, b_eq0, b_le0, b_0lt, b_0le, b_lt0]
          rw [if_neg (by omega), if_neg (by decide), if_neg (by omega)]
        · have x : t = 4294967294 := x
          omega
        · have x : t = 4294967295 := x
          omega
        · rw [b_rn (by decide), v5 157 (by decide), v4 157 (by decide)]; exact w157
        · rw [b_rn (by decide), v5 158 (by decide), v4 158 (by decide)]; exact w158
        · rw [b_rn (by decide), v5 159 (by decide), ← hm4, b_rs, b_ss]
        · rw [b_rs, b_ss]
end LC
