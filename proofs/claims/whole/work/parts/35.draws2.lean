/-! THE CLASS: days by draws -/
/-- a loop by a measure, from one place to another -/
theorem z_runT {go : Nat → Nat → List Value → A_H → A_R} {Q : A_R → Prop} (V : Nat → Nat → List Value → A_H → Prop) (F : Nat)
    (hs : ∀ k t L h, V k t L h → ∀ f, F ≤ f → Q (go (f + 1) t L h) ∨ ∃ k2 t2 L2 h2, k2 < k ∧ V k2 t2 L2 h2 ∧ (go (f + 1) t L h = go f t2 L2 h2 ∨ go (f + 1) t L h = go (f + 1) t2 L2 h2)) : ∀ k t L h, V k t L h → ∀ f, F + k < f → Q (go f t L h) := by
  intro k
  induction k using Nat.strongRecOn with
  | _ k ih =>
    intro t L h hv f hf
    obtain ⟨g, rfl⟩ : ∃ g, f = g + 1 := ⟨f - 1, by omega⟩
    rcases hs k t L h hv g (by omega) with h1 | ⟨k2, t2, L2, h2, h3, h4, h5 | h5⟩
    · exact h1
    · rw [h5]; exact ih k2 h3 t2 L2 h2 h4 g (by omega)
    · rw [h5]; exact ih k2 h3 t2 L2 h2 h4 (g + 1) (by omega)
theorem s_Dr_draw {X : Nat × (Nat → Int32)} {tx : List Int32} {D : Nat} {m j : Nat → Nat → Nat} {w : (Nat × Nat) × Bool} (hD : 1 ≤ D) {n : Nat} (h0 : 0 < n) (hn : n < 2147483648) : a_ex X tx a_T D 146 [.ref 176, .int (nI n)] (b_h m j w) = some ((b_h (b_r m 176 (b_s (m 176) 0 (w_seed (m 176 0)))) j w), some (.int (nI (w_rnd (w_seed (m 176 0)) n)))) := by
  obtain ⟨d, rfl⟩ : ∃ d, D = d + 1 := ⟨D - 1, by omega⟩
  rw [e_Dr_draw, q_Dr_draw_0]
  simp (disch := omega) only [b_ushr8, ↓bc_176, ↓b_t0, ↓b_t1, ↓b_t2, ↓b_t3, ↓b_t4, ↓b_t5, ↓b_t6, Nat.zero_add, Nat.le_refl, b_rs, b_rn, b_r2, b_ss, b_sn, b_bt, b_bf, b_b0, b_b1, b_bw, b_shl, b_or, b_iv, b_jv, b_sI, b_sJ, ↓z_hl, z_b0, z_b1, z_b2, b_and1c, b_and1z, if_true, if_false, nI_add, pk_mul, b_cl, b_lt, b_le, b_eq, b_eq0, b_le0, b_0lt, b_0le, b_lt0]
  have h1 : (m 176 0 * 1103515245 + 12345) % 4294967296 / 256 < 2147483648 := by omega
  rw [if_neg (by omega), if_neg (by omega), pk_rem h1 h0 hn, w_rnd_eq, w_seed_eq]
def z_fd (lo hi : Nat) (m m2 : Nat → Nat → Nat) : Prop := ∀ c, c < lo ∨ hi < c → c ≠ 176 → m2 c = m c
theorem z_fd_fr {lo hi : Nat} {m m2 : Nat → Nat → Nat} {f : Nat → Nat} (h : z_fr lo hi (b_r m 176 f) m2) : z_fd lo hi m m2 := fun c h1 h2 => by rw [h c h1, b_rn h2]
theorem z_fd_of {lo hi : Nat} {m m2 : Nat → Nat → Nat} (h : z_fr lo hi m m2) : z_fd lo hi m m2 := fun c h1 _ => h c h1
theorem z_fd_tr {lo hi : Nat} {m m2 m3 : Nat → Nat → Nat} (h1 : z_fd lo hi m m2) (h2 : z_fd lo hi m2 m3) : z_fd lo hi m m3 := fun c hc hn => (h2 c hc hn).trans (h1 c hc hn)
theorem z_fd_s {lo hi : Nat} {m : Nat → Nat → Nat} {f : Nat → Nat} : z_fd lo hi m (b_r m 176 f) := fun c _ hn => b_rn hn
theorem c_Fz {m m2 : Nat → Nat → Nat} {a : Nat} {s r : Nat → Nat} (ha : a = 26 ∨ a = 38) (hm : z_fd a (a + 11) m m2) (hs : ∀ i, i < 157 → r i = s i) (hS : i_S s) (h : c_F m 4 s) : c_F m2 4 r := c_F_ext (fun c h1 h2 => hm c (by omega) (by omega)) hs hS h
theorem c_A_seed26 {m : Nat → Nat → Nat} {f s : Nat → Nat} (h : c_A m 26 s) : c_A (b_r m 176 f) 26 s := by
  unfold c_A at h ⊢
  simp (disch := omega) only [b_rn]
  exact h
theorem s_Dr_act26 {X : Nat × (Nat → Int32)} {tx : List Int32} {D : Nat} {m j : Nat → Nat → Nat} {w : (Nat × Nat) × Bool} {s : Nat → Nat} (hF : c_F m 4 s) (hA : c_A m 26 s) (hS : i_S s) (hI : i_D s) (h2 : 0 < s 2) (h3 : 0 < s 3) (hD : 5 ≤ D) {q : Nat} (hq : q < s 1) :
    ∃ m2, a_ex X tx a_T D 148 [.ref 176, .ref 26, .int (nI q)] (b_h m j w) = some (b_h m2 j w, none) ∧ z_fd 26 37 m m2 ∧ m2 176 0 = (w_act (m 176 0) s q).1 ∧ c_A m2 26 (w_act (m 176 0) s q).2 := by
  have hE := i_S_E hS
  have hT := i_S_T hS
  have hM := i_S_M hS
  have r1 : w_rnd (w_seed (m 176 0)) 3 < 4294967296 := Nat.lt_trans (w_rnd_lt (by decide)) (by decide)
  have r2 := w_rnd_lt (x := w_seed (w_seed (m 176 0))) h3
  have r3 := w_rnd_lt (x := w_seed (w_seed (w_seed (m 176 0)))) h2
  have fE := c_F4_E hF
  have fT := c_F4_T hF
  obtain ⟨d, rfl⟩ : ∃ d, D = d + 1 := ⟨D - 1, by omega⟩
  rw [e_Dr_act, q_Dr_act_0]
  unfold w_act
  by_cases c1 : w_rnd (w_seed (m 176 0)) 3 = 0
  · rw [if_pos c1]
    have p1 : c_F (b_r m 176 (b_s (m 176) 0 (w_seed (w_seed (m 176 0))))) 4 s := c_F_ext (fun c h1 h2 => b_rn (by omega)) (fun _ _ => rfl) hS hF
    have p2 := c_A_seed26 (f := b_s (m 176) 0 (w_seed (w_seed (m 176 0)))) hA
    by_cases c2 : w_whyBuy s q (w_rnd (w_seed (w_seed (m 176 0))) (s 3)) = 0
    · obtain ⟨m2, k1, k2, k3⟩ := s_Af_sell26 (X := X) (tx := tx) (D := d) (j := j) (w := w) p1 p2 hS hI (by omega) hq r2 c2
      refine ⟨m2, ?_, z_fd_fr k2, ?_, ?_⟩
      · simp (disch := omega) only [s_Dr_draw, b_s2, c1, fE, k1, ↓bc_176, ↓bc_26, ↓br_26_0, ↓bc_4, ↓b_t0, ↓b_t1, ↓b_t2, ↓b_t3, ↓b_t4, ↓b_t5, ↓b_t6, Nat.zero_add, Nat.le_refl, b_rs, b_rn, b_r2, b_ss, b_sn, b_bt, b_bf, b_b0, b_b1, b_bw, b_shl, b_or, b_iv, b_jv, b_sI, b_sJ, ↓z_hl, z_b0, z_b1, z_b2, b_and1c, b_and1z, if_true, if_false, nI_add, pk_mul, b_cl, b_lt, b_le, b_eq, b_eq0, b_le0, b_0lt, b_0le, b_lt0]
      · rw [k2 176 (by omega), b_rs, b_ss]
      · rw [if_pos c2]; exact k3
    · have k1 := s_Af_sellN26 (X := X) (tx := tx) (D := d) (j := j) (w := w) p1 p2 hS hI (by omega) hq r2 c2
      refine ⟨b_r m 176 (b_s (m 176) 0 (w_seed (w_seed (m 176 0)))), ?_, z_fd_s, by rw [b_rs, b_ss], by rw [if_neg c2]; exact p2⟩
      simp (disch := omega) only [s_Dr_draw, b_s2, c1, fE, k1, ↓bc_176, ↓bc_26, ↓br_26_0, ↓bc_4, ↓b_t0, ↓b_t1, ↓b_t2, ↓b_t3, ↓b_t4, ↓b_t5, ↓b_t6, Nat.zero_add, Nat.le_refl, b_rs, b_rn, b_r2, b_ss, b_sn, b_bt, b_bf, b_b0, b_b1, b_bw, b_shl, b_or, b_iv, b_jv, b_sI, b_sJ, ↓z_hl, z_b0, z_b1, z_b2, b_and1c, b_and1z, if_true, if_false, nI_add, pk_mul, b_cl, b_lt, b_le, b_eq, b_eq0, b_le0, b_0lt, b_0le, b_lt0]
  · rw [if_neg c1]
    by_cases c3 : w_rnd (w_seed (m 176 0)) 3 = 1
    · rw [if_pos c3]
      have p1 : c_F (b_r m 176 (b_s (m 176) 0 (w_seed (w_seed (w_seed (m 176 0)))))) 4 s := c_F_ext (fun c h1 h2 => b_rn (by omega)) (fun _ _ => rfl) hS hF
      have p2 := c_A_seed26 (f := b_s (m 176) 0 (w_seed (w_seed (w_seed (m 176 0))))) hA
      by_cases c2 : w_whyPut s q (w_rnd (w_seed (w_seed (m 176 0))) (s 3)) (w_rnd (w_seed (w_seed (w_seed (m 176 0)))) (s 2)) = 0
      · obtain ⟨m2, k1, k2, k3⟩ := s_Af_lay26 (X := X) (tx := tx) (D := d) (j := j) (w := w) p1 p2 hS hI (by omega) hq r2 r3 c2
        refine ⟨m2, ?_, z_fd_fr k2, ?_, ?_⟩
        · simp (disch := omega) only [s_Dr_draw, b_s2, c1, c3, fE, fT, k1, Nat.one_ne_zero, ↓bc_176, ↓bc_26, ↓br_26_0, ↓bc_4, ↓b_t0, ↓b_t1, ↓b_t2, ↓b_t3, ↓b_t4, ↓b_t5, ↓b_t6, Nat.zero_add, Nat.le_refl, b_rs, b_rn, b_r2, b_ss, b_sn, b_bt, b_bf, b_b0, b_b1, b_bw, b_shl, b_or, b_iv, b_jv, b_sI, b_sJ, ↓z_hl, z_b0, z_b1, z_b2, b_and1c, b_and1z, if_true, if_false, nI_add, pk_mul, b_cl, b_lt, b_le, b_eq, b_eq0, b_le0, b_0lt, b_0le, b_lt0]
        · rw [k2 176 (by omega), b_rs, b_ss]
        · rw [if_pos c2]; exact k3
      · have k1 := s_Af_layN26 (X := X) (tx := tx) (D := d) (j := j) (w := w) p1 p2 hS hI (by omega) hq r2 r3 c2
        refine ⟨b_r m 176 (b_s (m 176) 0 (w_seed (w_seed (w_seed (m 176 0))))), ?_, z_fd_s, by rw [b_rs, b_ss], by rw [if_neg c2]; exact p2⟩
        simp (disch := omega) only [s_Dr_draw, b_s2, c1, c3, fE, fT, k1, Nat.one_ne_zero, ↓bc_176, ↓bc_26, ↓br_26_0, ↓bc_4, ↓b_t0, ↓b_t1, ↓b_t2, ↓b_t3, ↓b_t4, ↓b_t5, ↓b_t6, Nat.zero_add, Nat.le_refl, b_rs, b_rn, b_r2, b_ss, b_sn, b_bt, b_bf, b_b0, b_b1, b_bw, b_shl, b_or, b_iv, b_jv, b_sI, b_sJ, ↓z_hl, z_b0, z_b1, z_b2, b_and1c, b_and1z, if_true, if_false, nI_add, pk_mul, b_cl, b_lt, b_le, b_eq, b_eq0, b_le0, b_0lt, b_0le, b_lt0]
    · rw [if_neg c3]
      refine ⟨b_r m 176 (b_s (m 176) 0 (w_seed (m 176 0))), ?_, z_fd_s, by rw [b_rs, b_ss], c_A_seed26 hA⟩
      simp (disch := omega) only [s_Dr_draw, b_s2, c1, c3, ↓bc_176, ↓bc_26, ↓br_26_0, ↓bc_4, ↓b_t0, ↓b_t1, ↓b_t2, ↓b_t3, ↓b_t4, ↓b_t5, ↓b_t6, Nat.zero_add, Nat.le_refl, b_rs, b_rn, b_r2, b_ss, b_sn, b_bt, b_bf, b_b0, b_b1, b_bw, b_shl, b_or, b_iv, b_jv, b_sI, b_sJ, ↓z_hl, z_b0, z_b1, z_b2, b_and1c, b_and1z, if_true, if_false, nI_add, pk_mul, b_cl, b_lt, b_le, b_eq, b_eq0, b_le0, b_0lt, b_0le, b_lt0]
theorem s_Dr_live26 {X : Nat × (Nat → Int32)} {tx : List Int32} {D : Nat} {m j : Nat → Nat → Nat} {w : (Nat × Nat) × Bool} {s : Nat → Nat} (hF : c_F m 4 s) (hA : c_A m 26 s) (hS : i_S s) (hI : i_D s) (h2 : 0 < s 2) (h3 : 0 < s 3) (hD : 6 ≤ D) {N x : Nat} (hN : s 157 + N ≤ 400) :
    ∃ m2, a_ex X tx a_T D 147 [.ref 176, .ref 26, .int (nI N), .int (nI x)] (b_h m j w) = some (b_h m2 j w, none) ∧ z_fd 26 37 m m2 ∧ c_A m2 26 (w_ddays x s N).2 := by
  have hM := i_S_M hS
  obtain ⟨d, rfl⟩ : ∃ d, D = d + 1 := ⟨D - 1, by omega⟩
  rw [e_Dr_live, q_Dr_live_0]
  simp (disch := omega) only [↓bc_176, ↓bc_26, ↓br_26_0, ↓bc_4, ↓b_t0, ↓b_t1, ↓b_t2, ↓b_t3, ↓b_t4, ↓b_t5, ↓b_t6, Nat.zero_add, Nat.le_refl, b_rs, b_rn, b_r2, b_ss, b_sn, b_bt, b_bf, b_b0, b_b1, b_bw, b_shl, b_or, b_iv, b_jv, b_sI, b_sJ, ↓z_hl, z_b0, z_b1, z_b2, b_and1c, b_and1z, if_true, if_false, nI_add, pk_mul, b_cl, b_lt, b_le, b_eq, b_eq0, b_le0, b_0lt, b_0le, b_lt0]
  rw [← l_Dr_live_5]
  refine z_runT (Q := fun r => ∃ m2, r = some (b_h m2 j w, none) ∧ z_fd 26 37 m m2 ∧ c_A m2 26 (w_ddays x s N).2) (fun k t L h => (∃ n u m3, t = 5 ∧ k = (N - n) * (s 1 + 2) ∧ n ≤ N ∧ L = [.ref 176, .ref 26, .int (nI N), .int (nI x), .int (nI n), u] ∧ h = b_h m3 j w ∧ z_fd 26 37 m m3 ∧ m3 176 0 = (w_ddays x s n).1 ∧ c_A m3 26 (w_ddays x s n).2) ∨ (∃ n i m3, t = 10 ∧ k + 1 + i = (N - n) * (s 1 + 2) ∧ n < N ∧ i ≤ s 1 ∧ L = [.ref 176, .ref 26, .int (nI N), .int (nI x), .int (nI n), .int (nI i)] ∧ h = b_h m3 j w ∧ z_fd 26 37 m m3 ∧ m3 176 0 = (w_acts (w_ddays x s n).1 (w_ddays x s n).2 i).1 ∧ c_A m3 26 (w_acts (w_ddays x s n).1 (w_ddays x s n).2 i).2)) 0 ?_ (N * (s 1 + 2)) 5 _ _ (Or.inl ⟨0, _, b_r m 176 (b_s (m 176) 0 x), rfl, rfl, by omega, rfl, rfl, z_fd_s, by rw [b_rs, b_ss]; rfl, c_A_seed26 hA⟩) _ (z_fu (by
    have : N * (s 1 + 2) ≤ 400 * 8 := Nat.mul_le_mul (by omega) (by omega)
    omega))
  rintro k t L h (⟨n, u, m3, rfl, hk, hn, rfl, rfl, hfr, hx, hA3⟩ | ⟨n, i, m3, rfl, hk, hn, hi, rfl, rfl, hfr, hx, hA3⟩) f _
  · rw [l_Dr_live_5, q_Dr_live_5]
    by_cases c : n = N
    · left
      subst c
      rw [if_pos (by rw [b_le (by omega) (by omega)]; omega)]
      exact ⟨m3, rfl, hfr, hA3⟩
    · right
      rw [if_neg (by rw [b_le (by omega) (by omega)]; omega), ← l_Dr_live_10]
      have hk2 : (N - n) * (s 1 + 2) = (N - (n + 1)) * (s 1 + 2) + (s 1 + 2) := by
        rw [show N - n = (N - (n + 1)) + 1 by omega, Nat.add_mul, Nat.one_mul]
      exact ⟨k - 1, 10, _, _, by omega, Or.inr ⟨n, 0, m3, rfl, by omega, by omega, by omega, rfl, rfl, hfr, hx, hA3⟩, Or.inr rfl⟩
  · obtain ⟨g1, g2, g3, g4⟩ := w_ddays_ok (x := x) hS hI h2 h3 n (by omega)
    have e1 := g3 1 (by omega)
    have e2 := g3 2 (by omega)
    have e3 := g3 3 (by omega)
    obtain ⟨k1, k2, k3⟩ := w_acts_ok (x := (w_ddays x s n).1) g1 g2 (by rw [e2]; exact h2) (by rw [e3]; exact h3) i (by rw [e1]; exact hi)
    have hF3 : c_F m3 4 (w_acts (w_ddays x s n).1 (w_ddays x s n).2 i).2 := c_Fz (by decide) hfr (fun z hz => by rw [k3 z (by omega), g3 z (by omega)]) hS hF
    have fM := c_F4_M hF3
    rw [k3 1 (by omega), e1] at fM
    right
    by_cases c : i = s 1
    · subst c
      obtain ⟨m4, q1, q2, q3⟩ := s_Af_passDays26 (X := X) (tx := tx) (D := d) (j := j) (w := w) hF3 hA3 k1 k2 (by omega) (q := 1) (by rw [k3 157 (by omega), g4]; omega)
      have hk2 : (N - n) * (s 1 + 2) = (N - (n + 1)) * (s 1 + 2) + (s 1 + 2) := by
        rw [show N - n = (N - (n + 1)) + 1 by omega, Nat.add_mul, Nat.one_mul]
      refine ⟨(N - (n + 1)) * (s 1 + 2), 5, _, _, by omega, Or.inl ⟨n + 1, .int (nI (s 1)), m4, rfl, rfl, by omega, rfl, rfl, z_fd_tr hfr (z_fd_of q2), ?_, ?_⟩, Or.inl ?_⟩
      · rw [q2 176 (by omega), hx]
        show _ = (w_dday (w_ddays x s n).1 (w_ddays x s n).2).1
        unfold w_dday
        rw [e1]
      · show c_A m4 26 (w_dday (w_ddays x s n).1 (w_ddays x s n).2).2
        unfold w_dday
        rw [e1]
        exact q3
      · rw [l_Dr_live_10, q_Dr_live_10]
        simp (disch := omega) only [fM, q1, ↓bc_176, ↓bc_26, ↓br_26_0, ↓bc_4, ↓b_t0, ↓b_t1, ↓b_t2, ↓b_t3, ↓b_t4, ↓b_t5, ↓b_t6, Nat.zero_add, Nat.le_refl, b_rs, b_rn, b_r2, b_ss, b_sn, b_bt, b_bf, b_b0, b_b1, b_bw, b_shl, b_or, b_iv, b_jv, b_sI, b_sJ, ↓z_hl, z_b0, z_b1, z_b2, b_and1c, b_and1z, if_true, if_false, nI_add, pk_mul, b_cl, b_lt, b_le, b_eq, b_eq0, b_le0, b_0lt, b_0le, b_lt0]
    · obtain ⟨m4, q1, q2, q3, q4⟩ := s_Dr_act26 (X := X) (tx := tx) (D := d) (j := j) (w := w) hF3 hA3 k1 k2 (by rw [k3 2 (by omega), e2]; exact h2) (by rw [k3 3 (by omega), e3]; exact h3) (by omega) (q := i) (by rw [k3 1 (by omega), e1]; omega)
      rw [hx] at q3 q4
      have hk2 : (N - n) * (s 1 + 2) = (N - (n + 1)) * (s 1 + 2) + (s 1 + 2) := by
        rw [show N - n = (N - (n + 1)) + 1 by omega, Nat.add_mul, Nat.one_mul]
      refine ⟨k - 1, 10, _, _, by omega, Or.inr ⟨n, i + 1, m4, rfl, by omega, hn, by omega, rfl, rfl, z_fd_tr hfr q2, q3, q4⟩, Or.inl ?_⟩
      rw [l_Dr_live_10, q_Dr_live_10]
      simp (disch := omega) only [fM, q1, ↓bc_176, ↓bc_26, ↓br_26_0, ↓bc_4, ↓b_t0, ↓b_t1, ↓b_t2, ↓b_t3, ↓b_t4, ↓b_t5, ↓b_t6, Nat.zero_add, Nat.le_refl, b_rs, b_rn, b_r2, b_ss, b_sn, b_bt, b_bf, b_b0, b_b1, b_bw, b_shl, b_or, b_iv, b_jv, b_sI, b_sJ, ↓z_hl, z_b0, z_b1, z_b2, b_and1c, b_and1z, if_true, if_false, nI_add, pk_mul, b_cl, b_lt, b_le, b_eq, b_eq0, b_le0, b_0lt, b_0le, b_lt0]
      rw [if_neg (by omega)]
theorem c_A_seed38 {m : Nat → Nat → Nat} {f s : Nat → Nat} (h : c_A m 38 s) : c_A (b_r m 176 f) 38 s := by
  unfold c_A at h ⊢
  simp (disch := omega) only [b_rn]
  exact h
theorem s_Dr_act38 {X : Nat × (Nat → Int32)} {tx : List Int32} {D : Nat} {m j : Nat → Nat → Nat} {w : (Nat × Nat) × Bool} {s : Nat → Nat} (hF : c_F m 4 s) (hA : c_A m 38 s) (hS : i_S s) (hI : i_D s) (h2 : 0 < s 2) (h3 : 0 < s 3) (hD : 5 ≤ D) {q : Nat} (hq : q < s 1) :
    ∃ m2, a_ex X tx a_T D 148 [.ref 176, .ref 38, .int (nI q)] (b_h m j w) = some (b_h m2 j w, none) ∧ z_fd 38 49 m m2 ∧ m2 176 0 = (w_act (m 176 0) s q).1 ∧ c_A m2 38 (w_act (m 176 0) s q).2 := by
  have hE := i_S_E hS
  have hT := i_S_T hS
  have hM := i_S_M hS
  have r1 : w_rnd (w_seed (m 176 0)) 3 < 4294967296 := Nat.lt_trans (w_rnd_lt (by decide)) (by decide)
  have r2 := w_rnd_lt (x := w_seed (w_seed (m 176 0))) h3
  have r3 := w_rnd_lt (x := w_seed (w_seed (w_seed (m 176 0)))) h2
  have fE := c_F4_E hF
  have fT := c_F4_T hF
  obtain ⟨d, rfl⟩ : ∃ d, D = d + 1 := ⟨D - 1, by omega⟩
  rw [e_Dr_act, q_Dr_act_0]
  unfold w_act
  by_cases c1 : w_rnd (w_seed (m 176 0)) 3 = 0
  · rw [if_pos c1]
    have p1 : c_F (b_r m 176 (b_s (m 176) 0 (w_seed (w_seed (m 176 0))))) 4 s := c_F_ext (fun c h1 h2 => b_rn (by omega)) (fun _ _ => rfl) hS hF
    have p2 := c_A_seed38 (f := b_s (m 176) 0 (w_seed (w_seed (m 176 0)))) hA
    by_cases c2 : w_whyBuy s q (w_rnd (w_seed (w_seed (m 176 0))) (s 3)) = 0
    · obtain ⟨m2, k1, k2, k3⟩ := s_Af_sell38 (X := X) (tx := tx) (D := d) (j := j) (w := w) p1 p2 hS hI (by omega) hq r2 c2
      refine ⟨m2, ?_, z_fd_fr k2, ?_, ?_⟩
      · simp (disch := omega) only [s_Dr_draw, b_s2, c1, fE, k1, ↓bc_176, ↓bc_38, ↓br_38_0, ↓bc_4, ↓b_t0, ↓b_t1, ↓b_t2, ↓b_t3, ↓b_t4, ↓b_t5, ↓b_t6, Nat.zero_add, Nat.le_refl, b_rs, b_rn, b_r2, b_ss, b_sn, b_bt, b_bf, b_b0, b_b1, b_bw, b_shl, b_or, b_iv, b_jv, b_sI, b_sJ, ↓z_hl, z_b0, z_b1, z_b2, b_and1c, b_and1z, if_true, if_false, nI_add, pk_mul, b_cl, b_lt, b_le, b_eq, b_eq0, b_le0, b_0lt, b_0le, b_lt0]
      · rw [k2 176 (by omega), b_rs, b_ss]
      · rw [if_pos c2]; exact k3
    · have k1 := s_Af_sellN38 (X := X) (tx := tx) (D := d) (j := j) (w := w) p1 p2 hS hI (by omega) hq r2 c2
      refine ⟨b_r m 176 (b_s (m 176) 0 (w_seed (w_seed (m 176 0)))), ?_, z_fd_s, by rw [b_rs, b_ss], by rw [if_neg c2]; exact p2⟩
      simp (disch := omega) only [s_Dr_draw, b_s2, c1, fE, k1, ↓bc_176, ↓bc_38, ↓br_38_0, ↓bc_4, ↓b_t0, ↓b_t1, ↓b_t2, ↓b_t3, ↓b_t4, ↓b_t5, ↓b_t6, Nat.zero_add, Nat.le_refl, b_rs, b_rn, b_r2, b_ss, b_sn, b_bt, b_bf, b_b0, b_b1, b_bw, b_shl, b_or, b_iv, b_jv, b_sI, b_sJ, ↓z_hl, z_b0, z_b1, z_b2, b_and1c, b_and1z, if_true, if_false, nI_add, pk_mul, b_cl, b_lt, b_le, b_eq, b_eq0, b_le0, b_0lt, b_0le, b_lt0]
  · rw [if_neg c1]
    by_cases c3 : w_rnd (w_seed (m 176 0)) 3 = 1
    · rw [if_pos c3]
      have p1 : c_F (b_r m 176 (b_s (m 176) 0 (w_seed (w_seed (w_seed (m 176 0)))))) 4 s := c_F_ext (fun c h1 h2 => b_rn (by omega)) (fun _ _ => rfl) hS hF
      have p2 := c_A_seed38 (f := b_s (m 176) 0 (w_seed (w_seed (w_seed (m 176 0))))) hA
      by_cases c2 : w_whyPut s q (w_rnd (w_seed (w_seed (m 176 0))) (s 3)) (w_rnd (w_seed (w_seed (w_seed (m 176 0)))) (s 2)) = 0
      · obtain ⟨m2, k1, k2, k3⟩ := s_Af_lay38 (X := X) (tx := tx) (D := d) (j := j) (w := w) p1 p2 hS hI (by omega) hq r2 r3 c2
        refine ⟨m2, ?_, z_fd_fr k2, ?_, ?_⟩
        · simp (disch := omega) only [s_Dr_draw, b_s2, c1, c3, fE, fT, k1, Nat.one_ne_zero, ↓bc_176, ↓bc_38, ↓br_38_0, ↓bc_4, ↓b_t0, ↓b_t1, ↓b_t2, ↓b_t3, ↓b_t4, ↓b_t5, ↓b_t6, Nat.zero_add, Nat.le_refl, b_rs, b_rn, b_r2, b_ss, b_sn, b_bt, b_bf, b_b0, b_b1, b_bw, b_shl, b_or, b_iv, b_jv, b_sI, b_sJ, ↓z_hl, z_b0, z_b1, z_b2, b_and1c, b_and1z, if_true, if_false, nI_add, pk_mul, b_cl, b_lt, b_le, b_eq, b_eq0, b_le0, b_0lt, b_0le, b_lt0]
        · rw [k2 176 (by omega), b_rs, b_ss]
        · rw [if_pos c2]; exact k3
      · have k1 := s_Af_layN38 (X := X) (tx := tx) (D := d) (j := j) (w := w) p1 p2 hS hI (by omega) hq r2 r3 c2
        refine ⟨b_r m 176 (b_s (m 176) 0 (w_seed (w_seed (w_seed (m 176 0))))), ?_, z_fd_s, by rw [b_rs, b_ss], by rw [if_neg c2]; exact p2⟩
        simp (disch := omega) only [s_Dr_draw, b_s2, c1, c3, fE, fT, k1, Nat.one_ne_zero, ↓bc_176, ↓bc_38, ↓br_38_0, ↓bc_4, ↓b_t0, ↓b_t1, ↓b_t2, ↓b_t3, ↓b_t4, ↓b_t5, ↓b_t6, Nat.zero_add, Nat.le_refl, b_rs, b_rn, b_r2, b_ss, b_sn, b_bt, b_bf, b_b0, b_b1, b_bw, b_shl, b_or, b_iv, b_jv, b_sI, b_sJ, ↓z_hl, z_b0, z_b1, z_b2, b_and1c, b_and1z, if_true, if_false, nI_add, pk_mul, b_cl, b_lt, b_le, b_eq, b_eq0, b_le0, b_0lt, b_0le, b_lt0]
    · rw [if_neg c3]
      refine ⟨b_r m 176 (b_s (m 176) 0 (w_seed (m 176 0))), ?_, z_fd_s, by rw [b_rs, b_ss], c_A_seed38 hA⟩
      simp (disch := omega) only [s_Dr_draw, b_s2, c1, c3, ↓bc_176, ↓bc_38, ↓br_38_0, ↓bc_4, ↓b_t0, ↓b_t1, ↓b_t2, ↓b_t3, ↓b_t4, ↓b_t5, ↓b_t6, Nat.zero_add, Nat.le_refl, b_rs, b_rn, b_r2, b_ss, b_sn, b_bt, b_bf, b_b0, b_b1, b_bw, b_shl, b_or, b_iv, b_jv, b_sI, b_sJ, ↓z_hl, z_b0, z_b1, z_b2, b_and1c, b_and1z, if_true, if_false, nI_add, pk_mul, b_cl, b_lt, b_le, b_eq, b_eq0, b_le0, b_0lt, b_0le, b_lt0]
theorem s_Dr_live38 {X : Nat × (Nat → Int32)} {tx : List Int32} {D : Nat} {m j : Nat → Nat → Nat} {w : (Nat × Nat) × Bool} {s : Nat → Nat} (hF : c_F m 4 s) (hA : c_A m 38 s) (hS : i_S s) (hI : i_D s) (h2 : 0 < s 2) (h3 : 0 < s 3) (hD : 6 ≤ D) {N x : Nat} (hN : s 157 + N ≤ 400) :
    ∃ m2, a_ex X tx a_T D 147 [.ref 176, .ref 38, .int (nI N), .int (nI x)] (b_h m j w) = some (b_h m2 j w, none) ∧ z_fd 38 49 m m2 ∧ c_A m2 38 (w_ddays x s N).2 := by
  have hM := i_S_M hS
  obtain ⟨d, rfl⟩ : ∃ d, D = d + 1 := ⟨D - 1, by omega⟩
  rw [e_Dr_live, q_Dr_live_0]
  simp (disch := omega) only [↓bc_176, ↓bc_38, ↓br_38_0, ↓bc_4, ↓b_t0, ↓b_t1, ↓b_t2, ↓b_t3, ↓b_t4, ↓b_t5, ↓b_t6, Nat.zero_add, Nat.le_refl, b_rs, b_rn, b_r2, b_ss, b_sn, b_bt, b_bf, b_b0, b_b1, b_bw, b_shl, b_or, b_iv, b_jv, b_sI, b_sJ, ↓z_hl, z_b0, z_b1, z_b2, b_and1c, b_and1z, if_true, if_false, nI_add, pk_mul, b_cl, b_lt, b_le, b_eq, b_eq0, b_le0, b_0lt, b_0le, b_lt0]
  rw [← l_Dr_live_5]
  refine z_runT (Q := fun r => ∃ m2, r = some (b_h m2 j w, none) ∧ z_fd 38 49 m m2 ∧ c_A m2 38 (w_ddays x s N).2) (fun k t L h => (∃ n u m3, t = 5 ∧ k = (N - n) * (s 1 + 2) ∧ n ≤ N ∧ L = [.ref 176, .ref 38, .int (nI N), .int (nI x), .int (nI n), u] ∧ h = b_h m3 j w ∧ z_fd 38 49 m m3 ∧ m3 176 0 = (w_ddays x s n).1 ∧ c_A m3 38 (w_ddays x s n).2) ∨ (∃ n i m3, t = 10 ∧ k + 1 + i = (N - n) * (s 1 + 2) ∧ n < N ∧ i ≤ s 1 ∧ L = [.ref 176, .ref 38, .int (nI N), .int (nI x), .int (nI n), .int (nI i)] ∧ h = b_h m3 j w ∧ z_fd 38 49 m m3 ∧ m3 176 0 = (w_acts (w_ddays x s n).1 (w_ddays x s n).2 i).1 ∧ c_A m3 38 (w_acts (w_ddays x s n).1 (w_ddays x s n).2 i).2)) 0 ?_ (N * (s 1 + 2)) 5 _ _ (Or.inl ⟨0, _, b_r m 176 (b_s (m 176) 0 x), rfl, rfl, by omega, rfl, rfl, z_fd_s, by rw [b_rs, b_ss]; rfl, c_A_seed38 hA⟩) _ (z_fu (by
    have : N * (s 1 + 2) ≤ 400 * 8 := Nat.mul_le_mul (by omega) (by omega)
    omega))
  rintro k t L h (⟨n, u, m3, rfl, hk, hn, rfl, rfl, hfr, hx, hA3⟩ | ⟨n, i, m3, rfl, hk, hn, hi, rfl, rfl, hfr, hx, hA3⟩) f _
  · rw [l_Dr_live_5, q_Dr_live_5]
    by_cases c : n = N
    · left
      subst c
      rw [if_pos (by rw [b_le (by omega) (by omega)]; omega)]
      exact ⟨m3, rfl, hfr, hA3⟩
    · right
      rw [if_neg (by rw [b_le (by omega) (by omega)]; omega), ← l_Dr_live_10]
      have hk2 : (N - n) * (s 1 + 2) = (N - (n + 1)) * (s 1 + 2) + (s 1 + 2) := by
        rw [show N - n = (N - (n + 1)) + 1 by omega, Nat.add_mul, Nat.one_mul]
      exact ⟨k - 1, 10, _, _, by omega, Or.inr ⟨n, 0, m3, rfl, by omega, by omega, by omega, rfl, rfl, hfr, hx, hA3⟩, Or.inr rfl⟩
  · obtain ⟨g1, g2, g3, g4⟩ := w_ddays_ok (x := x) hS hI h2 h3 n (by omega)
    have e1 := g3 1 (by omega)
    have e2 := g3 2 (by omega)
    have e3 := g3 3 (by omega)
    obtain ⟨k1, k2, k3⟩ := w_acts_ok (x := (w_ddays x s n).1) g1 g2 (by rw [e2]; exact h2) (by rw [e3]; exact h3) i (by rw [e1]; exact hi)
    have hF3 : c_F m3 4 (w_acts (w_ddays x s n).1 (w_ddays x s n).2 i).2 := c_Fz (by decide) hfr (fun z hz => by rw [k3 z (by omega), g3 z (by omega)]) hS hF
    have fM := c_F4_M hF3
    rw [k3 1 (by omega), e1] at fM
    right
    by_cases c : i = s 1
    · subst c
      obtain ⟨m4, q1, q2, q3⟩ := s_Af_passDays38 (X := X) (tx := tx) (D := d) (j := j) (w := w) hF3 hA3 k1 k2 (by omega) (q := 1) (by rw [k3 157 (by omega), g4]; omega)
      have hk2 : (N - n) * (s 1 + 2) = (N - (n + 1)) * (s 1 + 2) + (s 1 + 2) := by
        rw [show N - n = (N - (n + 1)) + 1 by omega, Nat.add_mul, Nat.one_mul]
      refine ⟨(N - (n + 1)) * (s 1 + 2), 5, _, _, by omega, Or.inl ⟨n + 1, .int (nI (s 1)), m4, rfl, rfl, by omega, rfl, rfl, z_fd_tr hfr (z_fd_of q2), ?_, ?_⟩, Or.inl ?_⟩
      · rw [q2 176 (by omega), hx]
        show _ = (w_dday (w_ddays x s n).1 (w_ddays x s n).2).1
        unfold w_dday
        rw [e1]
      · show c_A m4 38 (w_dday (w_ddays x s n).1 (w_ddays x s n).2).2
        unfold w_dday
        rw [e1]
        exact q3
      · rw [l_Dr_live_10, q_Dr_live_10]
        simp (disch := omega) only [fM, q1, ↓bc_176, ↓bc_38, ↓br_38_0, ↓bc_4, ↓b_t0, ↓b_t1, ↓b_t2, ↓b_t3, ↓b_t4, ↓b_t5, ↓b_t6, Nat.zero_add, Nat.le_refl, b_rs, b_rn, b_r2, b_ss, b_sn, b_bt, b_bf, b_b0, b_b1, b_bw, b_shl, b_or, b_iv, b_jv, b_sI, b_sJ, ↓z_hl, z_b0, z_b1, z_b2, b_and1c, b_and1z, if_true, if_false, nI_add, pk_mul, b_cl, b_lt, b_le, b_eq, b_eq0, b_le0, b_0lt, b_0le, b_lt0]
    · obtain ⟨m4, q1, q2, q3, q4⟩ := s_Dr_act38 (X := X) (tx := tx) (D := d) (j := j) (w := w) hF3 hA3 k1 k2 (by rw [k3 2 (by omega), e2]; exact h2) (by rw [k3 3 (by omega), e3]; exact h3) (by omega) (q := i) (by rw [k3 1 (by omega), e1]; omega)
      rw [hx] at q3 q4
      have hk2 : (N - n) * (s 1 + 2) = (N - (n + 1)) * (s 1 + 2) + (s 1 + 2) := by
        rw [show N - n = (N - (n + 1)) + 1 by omega, Nat.add_mul, Nat.one_mul]
      refine ⟨k - 1, 10, _, _, by omega, Or.inr ⟨n, i + 1, m4, rfl, by omega, hn, by omega, rfl, rfl, z_fd_tr hfr q2, q3, q4⟩, Or.inl ?_⟩
      rw [l_Dr_live_10, q_Dr_live_10]
      simp (disch := omega) only [fM, q1, ↓bc_176, ↓bc_38, ↓br_38_0, ↓bc_4, ↓b_t0, ↓b_t1, ↓b_t2, ↓b_t3, ↓b_t4, ↓b_t5, ↓b_t6, Nat.zero_add, Nat.le_refl, b_rs, b_rn, b_r2, b_ss, b_sn, b_bt, b_bf, b_b0, b_b1, b_bw, b_shl, b_or, b_iv, b_jv, b_sI, b_sJ, ↓z_hl, z_b0, z_b1, z_b2, b_and1c, b_and1z, if_true, if_false, nI_add, pk_mul, b_cl, b_lt, b_le, b_eq, b_eq0, b_le0, b_0lt, b_0le, b_lt0]
      rw [if_neg (by omega)]
