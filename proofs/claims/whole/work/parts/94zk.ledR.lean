/-! LEDGERS: all lines -/
def k_lg (b : Nat → Nat) (n q : Nat) (N S : Nat → Nat) : Nat → (Nat → Nat × Nat × Nat) → Nat → Nat → Except (Nat × Nat) ((Nat → Nat × Nat × Nat) × Nat)
  | 0, _, _, _ => .error (0, 0)
  | f + 1, L, ln, p => if w_kd b n q p = 3 then .ok (L, ln) else match k_ll b n q N S ln p with
    | .error e => .error e
    | .ok y => match k_sign b n q 59 y.2 with
      | .error e => .error e
      | .ok p2 => k_lg b n q N S f (fun i => if i = ln then y.1 else L i) (ln + 1) p2
section KG
variable {b : Nat → Nat} {n q f : Nat} {N S : Nat → Nat} {L : Nat → Nat × Nat × Nat} {ln p : Nat} {y : (Nat × Nat × Nat) × Nat} {e : Nat × Nat}
theorem k_lg_1 (h : w_kd b n q p = 3) : k_lg b n q N S (f + 1) L ln p = .ok (L, ln) := by
  unfold k_lg
  exact if_pos h
theorem k_lg_2 (h : w_kd b n q p ≠ 3) (h2 : k_ll b n q N S ln p = .error e) : k_lg b n q N S (f + 1) L ln p = .error e := by
  unfold k_lg
  rw [if_neg h, h2]
theorem k_lg_3 (h : w_kd b n q p ≠ 3) (h2 : k_ll b n q N S ln p = .ok y) (h3 : k_sign b n q 59 y.2 = .error e) : k_lg b n q N S (f + 1) L ln p = .error e := by
  unfold k_lg
  rw [if_neg h, h2]
  show (match k_sign b n q 59 y.2 with
      | .error e => .error e
      | .ok p2 => k_lg b n q N S f (fun i => if i = ln then y.1 else L i) (ln + 1) p2 : Except (Nat × Nat) ((Nat → Nat × Nat × Nat) × Nat)) = _
  rw [h3]
theorem k_lg_4 (h : w_kd b n q p ≠ 3) (h2 : k_ll b n q N S ln p = .ok y) {p2 : Nat} (h3 : k_sign b n q 59 y.2 = .ok p2) : k_lg b n q N S (f + 1) L ln p = k_lg b n q N S f (fun i => if i = ln then y.1 else L i) (ln + 1) p2 := by
  have : k_lg b n q N S (f + 1) L ln p = if w_kd b n q p = 3 then .ok (L, ln) else match k_ll b n q N S ln p with
    | .error e => .error e
    | .ok y => match k_sign b n q 59 y.2 with
      | .error e => .error e
      | .ok p2 => k_lg b n q N S f (fun i => if i = ln then y.1 else L i) (ln + 1) p2 := rfl
  rw [this, if_neg h, h2]
  show (match k_sign b n q 59 y.2 with
      | .error e => .error e
      | .ok p2 => k_lg b n q N S f (fun i => if i = ln then y.1 else L i) (ln + 1) p2 : Except (Nat × Nat) ((Nat → Nat × Nat × Nat) × Nat)) = _
  rw [h3]
theorem k_ll_40 (h : k_ll b n q N S ln p = .ok y) : ln ≠ 40 := fun c => by
  unfold k_ll at h
  by_cases c8 : w_ky b n q p = 8
  · rw [if_pos c8, if_pos c] at h
    exact z_exn h
  · rw [if_neg c8] at h
    cases q1 : k_look b n q (fun k => N (6 + k)) (S 1) p with
    | error e =>
      rw [q1] at h
      exact z_exn h
    | ok a =>
      rw [q1] at h
      have h : @Eq (Except (Nat × Nat) ((Nat × Nat × Nat) × Nat)) (if ln = 40 then .error (4, w_pl b n q p) else k_lgp b n q N S a (w_nx b n q p)) (.ok y) := h
      rw [if_pos c] at h
      exact z_exn h
end KG
def z_lm (m : Nat → Nat → Nat) (i : Nat) (y : Nat × Nat × Nat) : Prop := m 238 (3 * i) = y.1 ∧ m 238 (3 * i + 2) = y.2.2 ∧ (y.2.2 ≠ 4294967294 → m 238 (3 * i + 1) = y.2.1)
def z_lg (m m2 j j2 : Nat → Nat → Nat) : Prop := (∀ c, c ≠ 234 → c ≠ 238 → m2 c = m c) ∧ (∀ c, c ≠ 234 → j2 c = j c) ∧ ∀ k, k ≠ 4 → (k < 11 ∨ 14 < k) → k ≠ 18 → k ≠ 41 → m2 234 k = m 234 k
def z_gE (m m2 j j2 : Nat → Nat → Nat) (e : Nat × Nat) : Prop := m2 234 15 = e.1 ∧ m2 234 16 = e.2 ∧ (∀ c, c ≠ 234 → c ≠ 238 → m2 c = m c) ∧ (∀ c, c ≠ 234 → j2 c = j c) ∧ ∀ k, k ≠ 4 → (k < 11 ∨ 18 < k) → k ≠ 41 → m2 234 k = m 234 k
/-- what the reading of a ledger leads to -/
def y_R (X : Nat × (Nat → Int32)) (tx : List Int32) (d : Nat) (m j : Nat → Nat → Nat) (w : (Nat × Nat) × Bool) (S : Nat → Nat) (i1 : Nat) (E : Except (Nat × Nat) ((Nat → Nat × Nat × Nat) × Nat)) (r : A_R) : Prop := match E with
  | .ok v => ∃ m2 j2 f2, 1000 ≤ f2 ∧ r = a_rn X tx (a_ex X tx a_T d) (a_go X tx (a_ex X tx a_T d) k_Mo_ledger_0 f2) k_Mo_ledger_47 0 [.ref 234, .int (nI i1), .int (nI 0), .retAddr 0] [] (b_h (b_r m2 242 (b_rg (m2 242) 0 195 fun i => m2 236 (157 + i))) j2 w) ∧ m2 234 41 = v.2 ∧ v.2 ≤ 40 ∧ (∀ i, i < v.2 → z_lm m2 i (v.1 i) ∧ z_lv S (v.1 i)) ∧ z_lg m m2 j j2
  | .error e => ∃ m2 j2, r = some (b_h m2 j2 w, some (.int (nI 4294967294 - nI e.2))) ∧ z_gE m m2 j j2 e
section LR
variable {X : Nat × (Nat → Int32)} {tx : List Int32} {D d : Nat} {m j : Nat → Nat → Nat} {w : (Nat × Nat) × Bool} {b : Nat → Nat} {n q p : Nat} {S N : Nat → Nat}
theorem y_R_e {i1 : Nat} {E : Except (Nat × Nat) ((Nat → Nat × Nat × Nat) × Nat)} {r : A_R} {e : Nat × Nat} {m2 j2 : Nat → Nat → Nat} (hE : E = .error e) (h1 : r = some (b_h m2 j2 w, some (.int (nI 4294967294 - nI (m2 234 16))))) (h2 : z_gE m m2 j j2 e) : y_R X tx d m j w S i1 E r := by
  rw [hE]
  rw [h2.2.1] at h1
  exact ⟨m2, j2, h1, h2⟩
theorem z_gE_l {m2 m3 j2 j3 : Nat → Nat → Nat} {e : Nat × Nat} (h : z_lg m m2 j j2) (y : z_lE m2 m3 j2 j3 e) : z_gE m m3 j j3 e :=
  ⟨y.1, y.2.1, fun c h1 h2 => (y.2.2.1 c h1 h2).trans (h.1 c h1 h2), fun c h1 => (y.2.2.2.1 c h1).trans (h.2.1 c h1), fun k h1 h2 h3 => (y.2.2.2.2 k h1 (by omega) (by omega) (by omega) (by omega) (by omega) (by omega) (by omega)).trans (h.2.2 k h1 (by omega) (by omega) h3)⟩
theorem z_lg_f {m2 m3 j2 j3 : Nat → Nat → Nat} {ln : Nat} (h : z_lg m m2 j j2) (y : z_lf m2 m3 j2 j3 ln) : z_lg m m3 j j3 :=
  ⟨fun c h1 h2 => (y.1 c h1 h2).trans (h.1 c h1 h2), fun c h1 => (y.2.1 c h1).trans (h.2.1 c h1), fun k h1 h2 h3 h4 => (y.2.2.1 k h1 (by omega) (by omega) (by omega) (by omega) h3).trans (h.2.2 k h1 h2 h3 h4)⟩
theorem s_Mo_ledR {i1 : Nat} (hX : y_X m j b n q) (h : l_M m j b n q p) (hp : p ≤ n) (hS : m 236 = S) (hi : i_S S) (hN : j 239 = N) (hb : z_nb N S) (hl : m 234 41 = 0) (hd : 10 ≤ d) (L0 : Nat → Nat × Nat × Nat) : ∀ F, 1000 + (n + 1) < F → y_R X tx d m j w S i1 (k_lg b n q N S (n + 1) L0 0 p) (a_go X tx (a_ex X tx a_T d) k_Mo_ledger_0 F 21 [.ref 234, .int (nI i1), .retAddr 0, .retAddr 0] (b_h m j w)) := by
  intro F hF
  refine z_run (Q := y_R X tx d m j w S i1 (k_lg b n q N S (n + 1) L0 0 p)) (fun c L y => ∃ m' j' L' ln' p', L = [.ref 234, .int (nI i1), .retAddr 0, .retAddr 0] ∧ y = b_h m' j' w ∧ l_M m' j' b n q p' ∧ p' ≤ n ∧ m' 234 41 = ln' ∧ ln' ≤ 40 ∧ (∀ i, i < ln' → z_lm m' i (L' i) ∧ z_lv S (L' i)) ∧ z_lg m m' j j' ∧ k_lg b n q N S (n + 1) L0 0 p = k_lg b n q N S c L' ln' p' ∧ n - p' < c) 1000 ?_ (n + 1) _ _ ⟨m, j, L0, 0, p, rfl, rfl, h, hp, hl, by decide, fun i hi => absurd hi (Nat.not_lt_zero i), ⟨fun _ _ _ => rfl, fun _ _ => rfl, fun _ _ _ _ _ => rfl⟩, rfl, by omega⟩ F hF
  rintro c L y ⟨m', j', L', ln', p', rfl, rfl, hM, hp', hl', hl40, hLL, hf, hk, hc⟩ f hF
  obtain ⟨c, rfl⟩ : ∃ c2, c = c2 + 1 := ⟨c - 1, by omega⟩
  rw [l_Mo_ledger_21, q_Mo_ledger_21]
  have X' : y_X m' j' b n q := y_X_fr hX (hf.1 235 (by decide) (by decide)) (hf.2.1 240 (by decide))
  have tk := l_M_tk hM
  have hkr := w_kr_lt (k := w_kd b n q p')
  by_cases c1 : w_kd b n q p' = 3
  · left
    rw [hk, k_lg_1 c1]
    have tk0 : m' 234 11 = 0 := tk.trans (w_kr_0.mpr c1)
    have st := s_Mo_tries (X := X) (tx := tx) (D := d) (m := m') (j := j') (w := w) (by omega)
    refine ⟨m', j', f, by omega, ?_, hl', hl40, hLL, hf⟩
    simp (disch := omega) only [tk0, st, ↓bc_234, ↓br_234_42, ↓bc_251, ↓bx_251, bl_251, ↓br_234_8, ↓bc_238, ↓bx_238, bl_238, ↓br_234_6, ↓bc_236, ↓bx_236, bl_236, ↓br_234_21, ↓bc_241, ↓bx_241, bl_241, ↓br_234_22, ↓bc_242, ↓bx_242, bl_242, ↓b_t0, ↓b_t1, ↓b_t2, ↓b_t3, ↓b_t4, ↓b_t5, ↓b_t6, Nat.zero_add, Nat.le_refl, b_rs, b_rn, b_r2, b_ss, b_sn, b_bt, b_bf, b_b0, b_b1, b_bw, b_shl, b_or, b_iv, b_jv, b_sI, b_sJ, ↓z_hl, z_b0, z_b1, z_b2, b_and1c, b_and1z, if_true, if_false, nI_add, pk_mul, b_cl, b_lt, b_le, b_eq, b_eq0, b_le0, b_0lt, b_0le, b_lt0]
  · have tk1 : ¬ m' 234 11 = 0 := fun x => c1 (w_kr_0.mp (tk.symm.trans x))
    have sl := s_Mo_ledgerLine (X := X) (tx := tx) (D := d) (w := w) X' hM ((hf.1 236 (by decide) (by decide)).trans hS) hi ((hf.2.1 239 (by decide)).trans hN) hb hl' hl40 (by omega)
    have t11 : m' 234 11 < 5 := by rw [tk]; omega
    cases h5 : k_ll b n q N S ln' p' with
    | error e =>
      left
      rw [h5] at sl
      obtain ⟨m2, j2, e1, e2⟩ := sl
      refine y_R_e (hk.trans (k_lg_2 c1 h5)) (m2 := m2) (j2 := j2) ?_ (z_gE_l hf e2)
      simp (disch := omega) only [e1, ↓bc_234, ↓br_234_42, ↓bc_251, ↓bx_251, bl_251, ↓br_234_8, ↓bc_238, ↓bx_238, bl_238, ↓br_234_6, ↓bc_236, ↓bx_236, bl_236, ↓br_234_21, ↓bc_241, ↓bx_241, bl_241, ↓br_234_22, ↓bc_242, ↓bx_242, bl_242, ↓b_t0, ↓b_t1, ↓b_t2, ↓b_t3, ↓b_t4, ↓b_t5, ↓b_t6, Nat.zero_add, Nat.le_refl, b_rs, b_rn, b_r2, b_ss, b_sn, b_bt, b_bf, b_b0, b_b1, b_bw, b_shl, b_or, b_iv, b_jv, b_sI, b_sJ, ↓z_hl, z_b0, z_b1, z_b2, b_and1c, b_and1z, if_true, if_false, nI_add, pk_mul, b_cl, b_lt, b_le, b_eq, b_eq0, b_le0, b_0lt, b_0le, b_lt0]
      rw [if_neg tk1]
    | ok y =>
      rw [h5] at sl
      obtain ⟨m2, j2, e1, o1, o2, o3, o4, o5, o6⟩ := sl
      have X2 : y_X m2 j2 b n q := y_X_fr X' (o3.1 235 (by decide) (by decide)) (o3.2.1 240 (by decide))
      have s5 := s_Mo_sign (X := X) (tx := tx) (D := d) (m := m2) (j := j2) (w := w) X2 o1 (by omega) (c := 59) (by decide) (by decide)
      obtain ⟨v1, v2⟩ := k_ll_ok h5
      have v40 := k_ll_40 h5
      cases h6 : k_sign b n q 59 y.2 with
      | error e =>
        left
        rw [h6] at s5
        obtain ⟨m3, j3, f1, f2⟩ := s5
        refine y_R_e (hk.trans (k_lg_3 c1 h5 h6)) (m2 := m3) (j2 := j3) ?_ (z_gE_l hf (z_lE_x o3 f2))
        simp (disch := omega) only [e1, f1, Nat.one_ne_zero, ↓bc_234, ↓br_234_42, ↓bc_251, ↓bx_251, bl_251, ↓br_234_8, ↓bc_238, ↓bx_238, bl_238, ↓br_234_6, ↓bc_236, ↓bx_236, bl_236, ↓br_234_21, ↓bc_241, ↓bx_241, bl_241, ↓br_234_22, ↓bc_242, ↓bx_242, bl_242, ↓b_t0, ↓b_t1, ↓b_t2, ↓b_t3, ↓b_t4, ↓b_t5, ↓b_t6, Nat.zero_add, Nat.le_refl, b_rs, b_rn, b_r2, b_ss, b_sn, b_bt, b_bf, b_b0, b_b1, b_bw, b_shl, b_or, b_iv, b_jv, b_sI, b_sJ, ↓z_hl, z_b0, z_b1, z_b2, b_and1c, b_and1z, if_true, if_false, nI_add, pk_mul, b_cl, b_lt, b_le, b_eq, b_eq0, b_le0, b_0lt, b_0le, b_lt0]
        rw [if_neg tk1]
      | ok p2 =>
        right
        rw [h6] at s5
        obtain ⟨m3, j3, f1, f2⟩ := s5
        have hs := k_sign_ok (by decide) h6
        have hs2 := hs.2.1
        have hs3 := hs.2.2
        have f3 : z_lf m' m3 j' j3 ln' := z_lf_t o3 (z_lf_o f2)
        have l3 : m3 234 41 = ln' := by rw [f3.2.2.1 41 (by decide) (by decide) (by decide) (by decide) (by decide) (by decide)]; exact hl'
        have g238 : m3 238 = m2 238 := f2.2.2.1 238 (by decide)
        refine ⟨c, [.ref 234, .int (nI i1), .retAddr 0, .retAddr 0], b_h (b_r m3 234 (b_s (m3 234) 41 (ln' + 1))) j3 w, by omega, ⟨_, j3, (fun i => if i = ln' then y.1 else L' i), ln' + 1, p2, rfl, rfl, l_M_18 f2.1 (by decide) (by decide) (by decide) (by decide) (by decide) (by decide), hs3, by rw [b_rs, b_ss], by omega, fun i hi => ?_, ?_, hk.trans (k_lg_4 c1 h5 h6), by omega⟩, ?_⟩
        · show z_lm _ i (if i = ln' then y.1 else L' i) ∧ z_lv S (if i = ln' then y.1 else L' i)
          by_cases e : i = ln'
          · rw [if_pos e, e]
            refine ⟨⟨?_, ?_, fun x => ?_⟩, v1⟩
            · rw [b_rn (by decide), g238]; exact o4
            · rw [b_rn (by decide), g238]; exact o5
            · rw [b_rn (by decide), g238]; exact o6 x
          · rw [if_neg e]
            obtain ⟨⟨a1, a2, a3⟩, a4⟩ := hLL i (by omega)
            refine ⟨⟨?_, ?_, fun x => ?_⟩, a4⟩
            · rw [b_rn (by decide), f3.2.2.2 _ (by omega)]; exact a1
            · rw [b_rn (by decide), f3.2.2.2 _ (by omega)]; exact a2
            · rw [b_rn (by decide), f3.2.2.2 _ (by omega)]; exact a3 x
        · obtain ⟨a1, a2, a3⟩ := z_lg_f hf f3
          exact ⟨fun c h1 h2 => (b_rn h1).trans (a1 c h1 h2), a2, fun k h1 h2 h3 h4 => by rw [b_rs, b_sn h4]; exact a3 k h1 h2 h3 h4⟩
        · simp (disch := omega) only [e1, f1, l3, Nat.one_ne_zero, ↓bc_234, ↓br_234_42, ↓bc_251, ↓bx_251, bl_251, ↓br_234_8, ↓bc_238, ↓bx_238, bl_238, ↓br_234_6, ↓bc_236, ↓bx_236, bl_236, ↓br_234_21, ↓bc_241, ↓bx_241, bl_241, ↓br_234_22, ↓bc_242, ↓bx_242, bl_242, ↓b_t0, ↓b_t1, ↓b_t2, ↓b_t3, ↓b_t4, ↓b_t5, ↓b_t6, Nat.zero_add, Nat.le_refl, b_rs, b_rn, b_r2, b_ss, b_sn, b_bt, b_bf, b_b0, b_b1, b_bw, b_shl, b_or, b_iv, b_jv, b_sI, b_sJ, ↓z_hl, z_b0, z_b1, z_b2, b_and1c, b_and1z, if_true, if_false, nI_add, pk_mul, b_cl, b_lt, b_le, b_eq, b_eq0, b_le0, b_0lt, b_0le, b_lt0]
          rw [if_neg tk1]
end LR
