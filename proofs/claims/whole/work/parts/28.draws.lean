/-! DAYS BY DRAWS -/
noncomputable def w_act (x : Nat) (s : Nat → Nat) (q : Nat) : Nat × (Nat → Nat) :=
  if w_rnd (w_seed x) 3 = 0 then (w_seed (w_seed x), if w_whyBuy s q (w_rnd (w_seed (w_seed x)) (s 3)) = 0 then w_buys s q (w_rnd (w_seed (w_seed x)) (s 3)) else s)
  else if w_rnd (w_seed x) 3 = 1 then (w_seed (w_seed (w_seed x)), if w_whyPut s q (w_rnd (w_seed (w_seed x)) (s 3)) (w_rnd (w_seed (w_seed (w_seed x))) (s 2)) = 0 then w_puts s q (w_rnd (w_seed (w_seed x)) (s 3)) (w_rnd (w_seed (w_seed (w_seed x))) (s 2)) else s)
  else (w_seed x, s)
theorem w_rnd_lt {x n : Nat} (h : 0 < n) : w_rnd x n < n := by rw [w_rnd_eq]; exact Nat.mod_lt _ h
theorem w_act_ok {x : Nat} {s : Nat → Nat} {q : Nat} (hS : i_S s) (hI : i_D s) (hq : q < s 1) (h2 : 0 < s 2) (h3 : 0 < s 3) : i_S (w_act x s q).2 ∧ i_D (w_act x s q).2 ∧ (∀ i, i < 158 ∨ 352 ≤ i → (w_act x s q).2 i = s i) := by
  have hE := i_S_E hS
  have hM := i_S_M hS
  have hT := i_S_T hS
  unfold w_act
  split
  · split
    · rename_i h
      have he := w_rnd_lt (x := w_seed (w_seed x)) h3
      have u : ∀ i, i < 158 ∨ 352 ≤ i → w_buys s q (w_rnd (w_seed (w_seed x)) (s 3)) i = s i := fun i hi => w_buys_lo (by omega) (by omega) (by omega) (by have := (w_whyBuy0 hI hq he h).1; omega)
      exact ⟨i_S_ext (fun i hi => u i (by omega)) hS, i_D_buys hS hI hq he h, u⟩
    · exact ⟨hS, hI, fun _ _ => rfl⟩
  · split
    · split
      · rename_i h
        have he := w_rnd_lt (x := w_seed (w_seed x)) h3
        have ht := w_rnd_lt (x := w_seed (w_seed (w_seed x))) h2
        have u : ∀ i, i < 158 ∨ 352 ≤ i → w_puts s q (w_rnd (w_seed (w_seed x)) (s 3)) (w_rnd (w_seed (w_seed (w_seed x))) (s 2)) i = s i := fun i hi => w_puts_lo (by omega) (by omega) (by omega) (by omega)
        exact ⟨i_S_ext (fun i hi => u i (by omega)) hS, i_D_puts hS hI hq he ht (w_whyPut0 h).2.2.2, u⟩
      · exact ⟨hS, hI, fun _ _ => rfl⟩
    · exact ⟨hS, hI, fun _ _ => rfl⟩
noncomputable def w_acts (x : Nat) (s : Nat → Nat) : Nat → Nat × (Nat → Nat)
  | 0 => (x, s)
  | n + 1 => w_act (w_acts x s n).1 (w_acts x s n).2 n
theorem w_acts_ok {x : Nat} {s : Nat → Nat} (hS : i_S s) (hI : i_D s) (h2 : 0 < s 2) (h3 : 0 < s 3) : ∀ n, n ≤ s 1 → i_S (w_acts x s n).2 ∧ i_D (w_acts x s n).2 ∧ (∀ i, i < 158 ∨ 352 ≤ i → (w_acts x s n).2 i = s i)
  | 0, _ => ⟨hS, hI, fun _ _ => rfl⟩
  | n + 1, hn => by
    obtain ⟨g1, g2, g3⟩ := w_acts_ok (x := x) hS hI h2 h3 n (by omega)
    obtain ⟨k1, k2, k3⟩ := w_act_ok (x := (w_acts x s n).1) (q := n) g1 g2 (by rw [g3 1 (by omega)]; omega) (by rw [g3 2 (by omega)]; exact h2) (by rw [g3 3 (by omega)]; exact h3)
    exact ⟨k1, k2, fun i hi => by show (w_act _ _ n).2 i = _; rw [k3 i hi, g3 i hi]⟩
noncomputable def w_dday (x : Nat) (s : Nat → Nat) : Nat × (Nat → Nat) := ((w_acts x s (s 1)).1, w_day (w_acts x s (s 1)).2)
theorem w_dday_ok {x : Nat} {s : Nat → Nat} (hS : i_S s) (hI : i_D s) (h2 : 0 < s 2) (h3 : 0 < s 3) (hd : s 157 < 400) : i_S (w_dday x s).2 ∧ i_D (w_dday x s).2 ∧ (∀ i, i < 157 ∨ 352 ≤ i → (w_dday x s).2 i = s i) ∧ (w_dday x s).2 157 = s 157 + 1 := by
  obtain ⟨g1, g2, g3⟩ := w_acts_ok (x := x) hS hI h2 h3 (s 1) (Nat.le_refl _)
  have g4 := g3 157 (by omega)
  refine ⟨w_day_S g1 g2, i_D_day g1 g2 (by omega), fun i hi => ?_, ?_⟩
  · show w_day _ i = _
    rw [w_day_lo g1 g2 (by omega), g3 i (by omega)]
  · show w_day _ 157 = _
    rw [w_day_da, g4]
noncomputable def w_ddays (x : Nat) (s : Nat → Nat) : Nat → Nat × (Nat → Nat)
  | 0 => (x, s)
  | n + 1 => w_dday (w_ddays x s n).1 (w_ddays x s n).2
theorem w_ddays_ok {x : Nat} {s : Nat → Nat} (hS : i_S s) (hI : i_D s) (h2 : 0 < s 2) (h3 : 0 < s 3) : ∀ n, s 157 + n ≤ 400 → i_S (w_ddays x s n).2 ∧ i_D (w_ddays x s n).2 ∧ (∀ i, i < 157 ∨ 352 ≤ i → (w_ddays x s n).2 i = s i) ∧ (w_ddays x s n).2 157 = s 157 + n
  | 0, _ => ⟨hS, hI, fun _ _ => rfl, rfl⟩
  | n + 1, hn => by
    obtain ⟨g1, g2, g3, g4⟩ := w_ddays_ok (x := x) hS hI h2 h3 n (by omega)
    obtain ⟨k1, k2, k3, k4⟩ := w_dday_ok (x := (w_ddays x s n).1) g1 g2 (by rw [g3 2 (by omega)]; exact h2) (by rw [g3 3 (by omega)]; exact h3) (by omega)
    exact ⟨k1, k2, fun i hi => by show (w_dday _ _).2 i = _; rw [k3 i hi, g3 i hi], by show (w_dday _ _).2 157 = _; rw [k4, g4]; omega⟩
theorem s_Mo_drawsMan {X : Nat × (Nat → Int32)} {tx : List Int32} {D : Nat} {m j : Nat → Nat → Nat} {w : (Nat × Nat) × Bool} (hS : i_S (m 236)) (hI : i_D (m 236)) (h2 : 0 < m 236 2) (h3 : 0 < m 236 3) (hD : 5 ≤ D) {q : Nat} (hq : q < m 236 1) : a_ex X tx a_T D 294 [.ref 234, .int (nI q)] (b_h m j w) = some ((b_h (b_r (b_r m 234 (b_s (m 234) 40 (w_act (m 234 40) (m 236) q).1)) 236 (w_act (m 234 40) (m 236) q).2) j w), none) := by
  obtain ⟨d, rfl⟩ : ∃ d, D = d + 1 := ⟨D - 1, by omega⟩
  rw [e_Mo_drawsMan, q_Mo_drawsMan_0]
  have hE := i_S_E hS
  have hT := i_S_T hS
  have hM := i_S_M hS
  have r1 : w_rnd (w_seed (m 234 40)) 3 < 4294967296 := Nat.lt_trans (w_rnd_lt (by decide)) (by decide)
  have r2 := w_rnd_lt (x := w_seed (w_seed (m 234 40))) h3
  have r3 := w_rnd_lt (x := w_seed (w_seed (w_seed (m 234 40)))) h2
  unfold w_act
  by_cases c1 : w_rnd (w_seed (m 234 40)) 3 = 0
  · rw [if_pos c1]
    have hw : w_whyBuy (m 236) q (w_rnd (w_seed (w_seed (m 234 40))) (m 236 3)) < 4294967296 := by
      unfold w_whyBuy; split; · decide
      split; · decide
      split <;> decide
    have p1 : i_S ((b_r m 234 (b_s (m 234) 40 (w_seed (w_seed (m 234 40))))) 236) := by rw [b_rn (by decide)]; exact hS
    have p2 : i_D ((b_r m 234 (b_s (m 234) 40 (w_seed (w_seed (m 234 40))))) 236) := by rw [b_rn (by decide)]; exact hI
    have q1 : (b_r m 234 (b_s (m 234) 40 (w_seed (w_seed (m 234 40))))) 236 = m 236 := b_rn (by decide)
    have s1 := s_Mo_whyBuy (X := X) (tx := tx) (D := d) (j := j) (w := w) p1 p2 (by omega) (q := q) (e := w_rnd (w_seed (w_seed (m 234 40))) (m 236 3)) (by rw [q1]; exact hq) (by rw [q1]; exact r2)
    rw [q1] at s1
    by_cases c2 : w_whyBuy (m 236) q (w_rnd (w_seed (w_seed (m 234 40))) (m 236 3)) = 0
    · rw [if_pos c2]
      have s2 := s_Mo_buys (X := X) (tx := tx) (D := d) (j := j) (w := w) p1 p2 (by omega) (q := q) (e := w_rnd (w_seed (w_seed (m 234 40))) (m 236 3)) (by rw [q1]; exact hq) (by rw [q1]; exact r2) (by rw [q1]; exact c2)
      rw [q1] at s2
      simp (disch := omega) only [s_Mo_draw, b_s2, c1, s1, c2, s2, ↓bc_234, ↓br_234_6, ↓bc_236, ↓bx_236, bl_236, ↓b_t0, ↓b_t1, ↓b_t2, ↓b_t3, ↓b_t4, ↓b_t5, ↓b_t6, Nat.zero_add, Nat.le_refl, b_rs, b_rn, b_r2, b_ss, b_sn, b_bt, b_bf, b_b0, b_b1, b_bw, b_shl, b_or, b_iv, b_jv, b_sI, b_sJ, ↓z_hl, z_b0, z_b1, z_b2, b_and1c, b_and1z, if_true, if_false, nI_add, pk_mul, b_cl, b_lt, b_le, b_eq, b_eq0, b_le0, b_0lt, b_0le, b_lt0]
    · rw [if_neg c2]
      simp (disch := omega) only [s_Mo_draw, b_s2, c1, s1, c2, ↓bc_234, ↓br_234_6, ↓bc_236, ↓bx_236, bl_236, ↓b_t0, ↓b_t1, ↓b_t2, ↓b_t3, ↓b_t4, ↓b_t5, ↓b_t6, Nat.zero_add, Nat.le_refl, b_rs, b_rn, b_r2, b_ss, b_sn, b_bt, b_bf, b_b0, b_b1, b_bw, b_shl, b_or, b_iv, b_jv, b_sI, b_sJ, ↓z_hl, z_b0, z_b1, z_b2, b_and1c, b_and1z, if_true, if_false, nI_add, pk_mul, b_cl, b_lt, b_le, b_eq, b_eq0, b_le0, b_0lt, b_0le, b_lt0]
      rw [b_ri (m := b_r m 234 _) (c := 236) q1]
  · rw [if_neg c1]
    by_cases c3 : w_rnd (w_seed (m 234 40)) 3 = 1
    · rw [if_pos c3]
      have hw : w_whyPut (m 236) q (w_rnd (w_seed (w_seed (m 234 40))) (m 236 3)) (w_rnd (w_seed (w_seed (w_seed (m 234 40)))) (m 236 2)) < 4294967296 := by
        unfold w_whyPut; split; · decide
        split
        · split <;> decide
        · decide
      have p1 : i_S ((b_r m 234 (b_s (m 234) 40 (w_seed (w_seed (w_seed (m 234 40)))))) 236) := by rw [b_rn (by decide)]; exact hS
      have p2 : i_D ((b_r m 234 (b_s (m 234) 40 (w_seed (w_seed (w_seed (m 234 40)))))) 236) := by rw [b_rn (by decide)]; exact hI
      have q1 : (b_r m 234 (b_s (m 234) 40 (w_seed (w_seed (w_seed (m 234 40)))))) 236 = m 236 := b_rn (by decide)
      have s1 := s_Mo_whyPut (X := X) (tx := tx) (D := d) (j := j) (w := w) p1 p2 (by omega) (q := q) (e := w_rnd (w_seed (w_seed (m 234 40))) (m 236 3)) (t := w_rnd (w_seed (w_seed (w_seed (m 234 40)))) (m 236 2)) (by rw [q1]; exact hq) (by rw [q1]; exact r2) (by rw [q1]; exact r3)
      rw [q1] at s1
      by_cases c2 : w_whyPut (m 236) q (w_rnd (w_seed (w_seed (m 234 40))) (m 236 3)) (w_rnd (w_seed (w_seed (w_seed (m 234 40)))) (m 236 2)) = 0
      · rw [if_pos c2]
        have s2 := s_Mo_putsTo (X := X) (tx := tx) (D := d) (j := j) (w := w) p1 p2 (by omega) (q := q) (e := w_rnd (w_seed (w_seed (m 234 40))) (m 236 3)) (t := w_rnd (w_seed (w_seed (w_seed (m 234 40)))) (m 236 2)) (by rw [q1]; exact hq) (by rw [q1]; exact r2) (by rw [q1]; exact r3)
        rw [q1] at s2
        simp (disch := omega) only [s_Mo_draw, b_s2, c1, c3, s1, c2, s2, Nat.one_ne_zero, ↓bc_234, ↓br_234_6, ↓bc_236, ↓bx_236, bl_236, ↓b_t0, ↓b_t1, ↓b_t2, ↓b_t3, ↓b_t4, ↓b_t5, ↓b_t6, Nat.zero_add, Nat.le_refl, b_rs, b_rn, b_r2, b_ss, b_sn, b_bt, b_bf, b_b0, b_b1, b_bw, b_shl, b_or, b_iv, b_jv, b_sI, b_sJ, ↓z_hl, z_b0, z_b1, z_b2, b_and1c, b_and1z, if_true, if_false, nI_add, pk_mul, b_cl, b_lt, b_le, b_eq, b_eq0, b_le0, b_0lt, b_0le, b_lt0]
      · rw [if_neg c2]
        simp (disch := omega) only [s_Mo_draw, b_s2, c1, c3, s1, c2, Nat.one_ne_zero, ↓bc_234, ↓br_234_6, ↓bc_236, ↓bx_236, bl_236, ↓b_t0, ↓b_t1, ↓b_t2, ↓b_t3, ↓b_t4, ↓b_t5, ↓b_t6, Nat.zero_add, Nat.le_refl, b_rs, b_rn, b_r2, b_ss, b_sn, b_bt, b_bf, b_b0, b_b1, b_bw, b_shl, b_or, b_iv, b_jv, b_sI, b_sJ, ↓z_hl, z_b0, z_b1, z_b2, b_and1c, b_and1z, if_true, if_false, nI_add, pk_mul, b_cl, b_lt, b_le, b_eq, b_eq0, b_le0, b_0lt, b_0le, b_lt0]
        rw [b_ri (m := b_r m 234 _) (c := 236) q1]
    · rw [if_neg c3]
      simp (disch := omega) only [s_Mo_draw, b_s2, c1, c3, ↓bc_234, ↓br_234_6, ↓bc_236, ↓bx_236, bl_236, ↓b_t0, ↓b_t1, ↓b_t2, ↓b_t3, ↓b_t4, ↓b_t5, ↓b_t6, Nat.zero_add, Nat.le_refl, b_rs, b_rn, b_r2, b_ss, b_sn, b_bt, b_bf, b_b0, b_b1, b_bw, b_shl, b_or, b_iv, b_jv, b_sI, b_sJ, ↓z_hl, z_b0, z_b1, z_b2, b_and1c, b_and1z, if_true, if_false, nI_add, pk_mul, b_cl, b_lt, b_le, b_eq, b_eq0, b_le0, b_0lt, b_0le, b_lt0]
      rw [b_ri (m := b_r m 234 _) (c := 236) (b_rn (by decide))]
/-- the heap on the way: the seed and the state -/
def w_dm (m : Nat → Nat → Nat) (p : Nat × (Nat → Nat)) : Nat → Nat → Nat := b_r (b_r m 234 (b_s (m 234) 40 p.1)) 236 p.2
theorem w_dm2 {m : Nat → Nat → Nat} {p r : Nat × (Nat → Nat)} : w_dm (w_dm m p) r = w_dm m r := by
  unfold w_dm
  simp (disch := omega) only [b_rs, b_rn, b_r2, b_rx (c2 := 234) (c := 236) (by decide), b_s2]
theorem w_dm_s {m : Nat → Nat → Nat} {p : Nat × (Nat → Nat)} : w_dm m p 236 = p.2 := b_rs
theorem w_dm_x {m : Nat → Nat → Nat} {p : Nat × (Nat → Nat)} : w_dm m p 234 40 = p.1 := by
  unfold w_dm
  rw [b_rn (by decide), b_rs, b_ss]
theorem s_Mo_draws {X : Nat × (Nat → Int32)} {tx : List Int32} {D : Nat} {m j : Nat → Nat → Nat} {w : (Nat × Nat) × Bool} (hS : i_S (m 236)) (hI : i_D (m 236)) (h2 : 0 < m 236 2) (h3 : 0 < m 236 3) (hD : 6 ≤ D) {q x : Nat} (hq : q < 1000) : a_ex X tx a_T D 295 [.ref 234, .int (nI q), .int (nI x)] (b_h m j w) = some ((b_h (w_dm m (w_ddays x (m 236) (min q (400 - m 236 157)))) j w), some (.int (nI (min q (400 - m 236 157))))) := by
  obtain ⟨d, rfl⟩ : ∃ d, D = d + 1 := ⟨D - 1, by omega⟩
  rw [e_Mo_draws, q_Mo_draws_0]
  have hM := i_S_M hS
  have hda := i_D_da hI
  simp (disch := omega) only [↓bc_234, ↓br_234_6, ↓bc_236, ↓bx_236, bl_236, ↓b_t0, ↓b_t1, ↓b_t2, ↓b_t3, ↓b_t4, ↓b_t5, ↓b_t6, Nat.zero_add, Nat.le_refl, b_rs, b_rn, b_r2, b_ss, b_sn, b_bt, b_bf, b_b0, b_b1, b_bw, b_shl, b_or, b_iv, b_jv, b_sI, b_sJ, ↓z_hl, z_b0, z_b1, z_b2, b_and1c, b_and1z, if_true, if_false, nI_add, pk_mul, b_cl, b_lt, b_le, b_eq, b_eq0, b_le0, b_0lt, b_0le, b_lt0]
  rw [← l_Mo_draws_5]
  refine z_runC (Q := fun r => r = some (b_h (w_dm m (w_ddays x (m 236) (min q (400 - m 236 157)))) j w, some (.int (nI (min q (400 - m 236 157)))))) (fun k L h => ∃ n u, k + n = min q (400 - m 236 157) + 1 ∧ n ≤ min q (400 - m 236 157) ∧ L = [.ref 234, .int (nI q), .int (nI x), .int (nI n), u] ∧ h = b_h (w_dm m (w_ddays x (m 236) n)) j w) 10 20 ?_ (min q (400 - m 236 157) + 1) _ _ ⟨0, _, rfl, by omega, rfl, ?_⟩ _ (z_fu (by omega))
  · rintro k L h ⟨n, u, hk, hn, rfl, rfl⟩ f hf
    obtain ⟨g1, g2, g3, g4⟩ := w_ddays_ok (x := x) hS hI h2 h3 n (by omega)
    have e1 := g3 1 (by omega)
    rw [l_Mo_draws_5, q_Mo_draws_5]
    by_cases hn2 : n = min q (400 - m 236 157)
    · left
      subst hn2
      by_cases c : q ≤ 400 - m 236 157
      · rw [if_pos (by rw [b_le (by omega) (by omega)]; omega)]
      · rw [if_neg (by rw [b_le (by omega) (by omega)]; omega)]
        unfold w_dm
        simp (disch := omega) only [g4, ↓bc_234, ↓br_234_6, ↓bc_236, ↓bx_236, bl_236, ↓b_t0, ↓b_t1, ↓b_t2, ↓b_t3, ↓b_t4, ↓b_t5, ↓b_t6, Nat.zero_add, Nat.le_refl, b_rs, b_rn, b_r2, b_ss, b_sn, b_bt, b_bf, b_b0, b_b1, b_bw, b_shl, b_or, b_iv, b_jv, b_sI, b_sJ, ↓z_hl, z_b0, z_b1, z_b2, b_and1c, b_and1z, if_true, if_false, nI_add, pk_mul, b_cl, b_lt, b_le, b_eq, b_eq0, b_le0, b_0lt, b_0le, b_lt0]
        rw [if_pos (by omega)]
    · right
      refine ⟨k - 1, [.ref 234, .int (nI q), .int (nI x), .int (nI (n + 1)), .int (nI (m 236 1))], _, f - m 236 1, by omega, ⟨n + 1, _, by omega, by omega, rfl, rfl⟩, by omega, ?_⟩
      rw [if_neg (by rw [b_le (by omega) (by omega)]; omega)]
      have p157 : w_dm m (w_ddays x (m 236) n) 236 157 = m 236 157 + n := by rw [w_dm_s, g4]
      simp (disch := omega) only [p157, ↓bc_234, ↓br_234_6, ↓bc_236, ↓bx_236, bl_236, ↓b_t0, ↓b_t1, ↓b_t2, ↓b_t3, ↓b_t4, ↓b_t5, ↓b_t6, Nat.zero_add, Nat.le_refl, b_rs, b_rn, b_r2, b_ss, b_sn, b_bt, b_bf, b_b0, b_b1, b_bw, b_shl, b_or, b_iv, b_jv, b_sI, b_sJ, ↓z_hl, z_b0, z_b1, z_b2, b_and1c, b_and1z, if_true, if_false, nI_add, pk_mul, b_cl, b_lt, b_le, b_eq, b_eq0, b_le0, b_0lt, b_0le, b_lt0]
      rw [if_neg (by omega)]
      rw [← l_Mo_draws_16]
      obtain ⟨f2, rfl⟩ : ∃ f2, f = f2 + m 236 1 := ⟨f - m 236 1, by omega⟩
      rw [show f2 + m 236 1 + 1 = f2 + 1 + m 236 1 by omega]
      refine Eq.trans (b := a_go X tx (a_ex X tx a_T d) k_Mo_draws_0 (f2 + 1) 16 [.ref 234, .int (nI q), .int (nI x), .int (nI n), .int (nI (m 236 1))] (b_h (w_dm m (w_acts (w_ddays x (m 236) n).1 (w_ddays x (m 236) n).2 (m 236 1))) j w)) (z_inner (fun i => [.ref 234, .int (nI q), .int (nI x), .int (nI n), .int (nI i)]) (fun i => b_h (w_dm m (w_acts (w_ddays x (m 236) n).1 (w_ddays x (m 236) n).2 i)) j w) (m 236 1) ?_ (f2 + 1)) ?_
      · intro i hi f3
        rw [l_Mo_draws_16, q_Mo_draws_16]
        obtain ⟨k1, k2, k3⟩ := w_acts_ok (x := (w_ddays x (m 236) n).1) g1 g2 (by rw [g3 2 (by omega)]; exact h2) (by rw [g3 3 (by omega)]; exact h3) i (by omega)
        have p1 : w_dm m (w_acts (w_ddays x (m 236) n).1 (w_ddays x (m 236) n).2 i) 236 1 = m 236 1 := by rw [w_dm_s, k3 1 (by omega), e1]
        have s1 := s_Mo_drawsMan (X := X) (tx := tx) (D := d) (m := w_dm m (w_acts (w_ddays x (m 236) n).1 (w_ddays x (m 236) n).2 i)) (j := j) (w := w) (by rw [w_dm_s]; exact k1) (by rw [w_dm_s]; exact k2) (by rw [w_dm_s, k3 2 (by omega), g3 2 (by omega)]; exact h2) (by rw [w_dm_s, k3 3 (by omega), g3 3 (by omega)]; exact h3) (by omega) (q := i) (by rw [p1]; exact hi)
        rw [w_dm_x, w_dm_s] at s1
        have s2 := s1.trans (show _ = some (b_h (w_dm (w_dm m (w_acts (w_ddays x (m 236) n).1 (w_ddays x (m 236) n).2 i)) (w_act (w_acts (w_ddays x (m 236) n).1 (w_ddays x (m 236) n).2 i).1 (w_acts (w_ddays x (m 236) n).1 (w_ddays x (m 236) n).2 i).2 i)) j w, none) from rfl)
        rw [w_dm2] at s2
        simp (disch := omega) only [p1, s2, ↓bc_234, ↓br_234_6, ↓bc_236, ↓bx_236, bl_236, ↓b_t0, ↓b_t1, ↓b_t2, ↓b_t3, ↓b_t4, ↓b_t5, ↓b_t6, Nat.zero_add, Nat.le_refl, b_rs, b_rn, b_r2, b_ss, b_sn, b_bt, b_bf, b_b0, b_b1, b_bw, b_shl, b_or, b_iv, b_jv, b_sI, b_sJ, ↓z_hl, z_b0, z_b1, z_b2, b_and1c, b_and1z, if_true, if_false, nI_add, pk_mul, b_cl, b_lt, b_le, b_eq, b_eq0, b_le0, b_0lt, b_0le, b_lt0]
        rw [if_neg (by omega)]
        rfl
      · rw [l_Mo_draws_16, q_Mo_draws_16]
        obtain ⟨k1, k2, k3⟩ := w_acts_ok (x := (w_ddays x (m 236) n).1) g1 g2 (by rw [g3 2 (by omega)]; exact h2) (by rw [g3 3 (by omega)]; exact h3) (m 236 1) (by omega)
        have p1 : w_dm m (w_acts (w_ddays x (m 236) n).1 (w_ddays x (m 236) n).2 (m 236 1)) 236 1 = m 236 1 := by rw [w_dm_s, k3 1 (by omega), e1]
        have s1 := s_Mo_day (X := X) (tx := tx) (D := d) (m := w_dm m (w_acts (w_ddays x (m 236) n).1 (w_ddays x (m 236) n).2 (m 236 1))) (j := j) (w := w) (by rw [w_dm_s]; exact k1) (by rw [w_dm_s]; exact k2) (by omega)
        rw [w_dm_s] at s1
        simp (disch := omega) only [p1, s1, ↓bc_234, ↓br_234_6, ↓bc_236, ↓bx_236, bl_236, ↓b_t0, ↓b_t1, ↓b_t2, ↓b_t3, ↓b_t4, ↓b_t5, ↓b_t6, Nat.zero_add, Nat.le_refl, b_rs, b_rn, b_r2, b_ss, b_sn, b_bt, b_bf, b_b0, b_b1, b_bw, b_shl, b_or, b_iv, b_jv, b_sI, b_sJ, ↓z_hl, z_b0, z_b1, z_b2, b_and1c, b_and1z, if_true, if_false, nI_add, pk_mul, b_cl, b_lt, b_le, b_eq, b_eq0, b_le0, b_0lt, b_0le, b_lt0]
        rw [show f2 + m 236 1 - m 236 1 = f2 by omega]
        congr 1
        unfold w_dm
        rw [b_r2]
        show _ = b_h (b_r (b_r m 234 (b_s (m 234) 40 (w_dday (w_ddays x (m 236) n).1 (w_ddays x (m 236) n).2).1)) 236 (w_dday (w_ddays x (m 236) n).1 (w_ddays x (m 236) n).2).2) j w
        unfold w_dday
        rw [e1]
  · unfold w_dm
    show _ = b_h (b_r (b_r m 234 (b_s (m 234) 40 x)) 236 (m 236)) j w
    rw [b_ri (m := b_r m 234 _) (c := 236) (b_rn (by decide))]
