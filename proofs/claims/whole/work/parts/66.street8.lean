/-! MATCHES: the loop that fills the rests -/
section ST5
variable {X : Nat × (Nat → Int32)} {tx : List Int32} {d : Nat} {m j : Nat → Nat → Nat} {w : (Nat × Nat) × Bool} {s : Nat → Nat}
theorem s_Ma_rests (hF : c_F m 4 s) (hA : c_A m 26 s) (hS : i_S s) (hI : i_D s) (hD : 4 ≤ d) {set : Nat} {u0 : Value} (h3 : m 167 3 = w_ndn s set (s 2)) (h4 : ∀ t, t < s 2 → w_nd s set t = true → m 168 (w_ndn s set t) = t ∧ m 169 (w_ndn s set t) = w_mayOf s true t) : ∀ F, 0 + 2 ^ s 3 < F → ∃ m3 x f, a_go X tx (a_ex X tx a_T d) k_Ma_leastCoin_0 F 12 [.ref 167, .int (nI set), .int (nI (w_pd (2 ^ s 3))), u0] (b_h m j w) = a_go X tx (a_ex X tx a_T d) k_Ma_leastCoin_0 (f + 1) 12 [.ref 167, .int (nI set), .int (nI 4294967295), x] (b_h m3 j w) ∧ z_fr 170 170 m m3 ∧ ∀ v, v < 2 ^ s 3 → w_rs s set (m3 170) v := by
  have hT := i_S_T hS
  have hE := i_S_E hS
  have hP : 2 ^ s 3 ≤ 1024 := Nat.pow_le_pow_right (n := 2) (by decide) hE
  refine z_run (Q := fun r => ∃ m3 x f, r = a_go X tx (a_ex X tx a_T d) k_Ma_leastCoin_0 (f + 1) 12 [.ref 167, .int (nI set), .int (nI 4294967295), x] (b_h m3 j w) ∧ z_fr 170 170 m m3 ∧ ∀ v, v < 2 ^ s 3 → w_rs s set (m3 170) v) (fun k L h => ∃ n m3 x, k = n ∧ n ≤ 2 ^ s 3 ∧ L = [.ref 167, .int (nI set), .int (nI (w_pd n)), x] ∧ h = b_h m3 j w ∧ z_fr 170 170 m m3 ∧ ∀ v, n ≤ v → v < 2 ^ s 3 → w_rs s set (m3 170) v) 0 ?_ (2 ^ s 3) _ _ ⟨2 ^ s 3, m, u0, rfl, Nat.le_refl _, rfl, rfl, z_fr_rf, fun v h1 h2 => absurd h2 (by omega)⟩
  rintro k L h ⟨n, m3, x, rfl, hn, rfl, rfl, hm, hv⟩ f _
  by_cases c : k = 0
  · left
    subst c
    exact ⟨m3, x, f, rfl, hm, fun v h2 => hv v (Nat.zero_le _) h2⟩
  · right
    obtain ⟨u, rfl⟩ : ∃ u, k = u + 1 := ⟨k - 1, by omega⟩
    have e1 : w_pd (u + 1) = u := rfl
    have hF3 : c_F m3 4 s := c_F_ext (fun c p1 p2 => hm c (by omega)) (fun _ _ => rfl) hS hF
    have hA3 : c_A m3 26 s := c_A_ext (fun c p1 p2 => hm c (by omega)) hA
    have g3 : m3 167 3 = w_ndn s set (s 2) := by rw [hm 167 (by omega)]; exact h3
    have hN : w_ndn s set (s 2) ≤ s 2 := w_ndn_le
    have hpc := w_pc_le u
    have x1 : nI u + nI 4294967295 = nI (w_pd u) := b_pd (by omega)
    have x2 : nI (u + 4294967295) = nI (w_pd u) := by rw [← x1, nI_add]
    rw [e1, l_Ma_leastCoin_12, q_Ma_leastCoin_12]
    by_cases c2 : w_pc u < w_ndn s set (s 2)
    · obtain ⟨t, t1, t2, t3⟩ := z_sum_inv (s 2) _ c2
      have t4 : w_ndn s set t = w_pc u := t3
      have hm9 : m3 169 (w_pc u) = w_enders s t := by rw [hm 169 (by omega), ← t4, (h4 t t1 t2).2]; rfl
      have hb : ∀ e, e < s 3 → u.testBit e = false → m3 170 (u ||| 2 ^ e) = 4294967295 ∨ m3 170 (u ||| 2 ^ e) ≤ 100000 := fun e he hb => by
        have hu2 : u ||| 2 ^ e < 2 ^ s 3 := Nat.or_lt_two_pow (by omega) (Nat.pow_lt_pow_right (by decide) he)
        have hp2 := w_pc_or e (by omega) u (by omega) hb
        have h2 : u ≤ u ||| 2 ^ e := Nat.left_le_or
        have h5 : u ≠ u ||| 2 ^ e := fun g => by rw [← g] at hp2; omega
        exact w_rs_b hE hT (fun e he => i_D_pr hI e he) (hv _ (by omega) hu2) (Or.inr (w_ndn_hit (by omega)))
      have s1 := s_Ma_leastRest (X := X) (tx := tx) (D := d) (m := m3) (j := j) (w := w) hF3 hA3 hS hI (by omega) (u := u) (turn := w_pc u) (t := t) (by omega) (by omega) (by omega) hm9 hb
      have e5 := w_rs_step (set := set) (u := u) (t := t) (f := m3 170) hE hT (fun e he => i_D_pr hI e he) (by omega) t1 t2 t4 (fun v v1 v2 => hv v (by omega) v2)
      refine ⟨u, [.ref 167, .int (nI set), .int (nI (w_pd u)), .int (nI (w_pc u))], b_h (b_r m3 170 (b_s (m3 170) u (w_lsc s t u (m3 170) (s 3)))) j w, by omega, ⟨u, _, _, rfl, by omega, rfl, rfl, z_fr_r hm (by omega), fun v v1 v2 => ?_⟩, ?_⟩
      · rw [b_rs]
        by_cases c3 : v = u
        · subst c3
          refine ⟨fun g => absurd g (by omega), fun a a1 a2 => ?_⟩
          rw [b_ss, e5]
          by_cases c4 : a ≤ t
          · rw [w_stv_skip t c4 (by omega) (by omega)]
          · have := w_ndn_lt t2 (show t < a by omega)
            omega
        · have := hv v (by omega) v2
          unfold w_rs at this ⊢
          rw [b_sn c3]
          exact this
      · simp (disch := omega) only [s_Ji_bitCount, g3, s1, x1, x2, ↓bc_167, ↓br_167_0, ↓bc_4, ↓br_167_5, ↓bc_170, ↓bx_170, bl_170, ↓b_t0, ↓b_t1, ↓b_t2, ↓b_t3, ↓b_t4, ↓b_t5, ↓b_t6, Nat.zero_add, Nat.le_refl, b_rs, b_rn, b_r2, b_ss, b_sn, b_bt, b_bf, b_b0, b_b1, b_bw, b_shl, b_or, b_iv, b_jv, b_sI, b_sJ, ↓z_hl, z_b0, z_b1, z_b2, b_and1c, b_and1z, if_true, if_false, nI_add, pk_mul, b_cl, b_lt, b_le, b_eq, b_eq0, b_le0, b_0lt, b_0le, b_lt0]
        rw [if_pos c2]
    · refine ⟨u, [.ref 167, .int (nI set), .int (nI (w_pd u)), .int (nI (w_pc u))], b_h (b_r m3 170 (b_s (m3 170) u 0)) j w, by omega, ⟨u, _, _, rfl, by omega, rfl, rfl, z_fr_r hm (by omega), fun v v1 v2 => ?_⟩, ?_⟩
      · rw [b_rs]
        by_cases c3 : v = u
        · subst c3
          refine ⟨fun _ => by rw [b_ss], fun a a1 a2 => ?_⟩
          have h6 : w_ndn s set a ≤ w_ndn s set (s 2) := z_sum_le_n (s 2) a1
          rw [b_ss, w_stv_none a1 (by omega)]
          rfl
        · have := hv v (by omega) v2
          unfold w_rs at this ⊢
          rw [b_sn c3]
          exact this
      · simp (disch := omega) only [s_Ji_bitCount, g3, x1, x2, ↓bc_167, ↓br_167_0, ↓bc_4, ↓br_167_5, ↓bc_170, ↓bx_170, bl_170, ↓b_t0, ↓b_t1, ↓b_t2, ↓b_t3, ↓b_t4, ↓b_t5, ↓b_t6, Nat.zero_add, Nat.le_refl, b_rs, b_rn, b_r2, b_ss, b_sn, b_bt, b_bf, b_b0, b_b1, b_bw, b_shl, b_or, b_iv, b_jv, b_sI, b_sJ, ↓z_hl, z_b0, z_b1, z_b2, b_and1c, b_and1z, if_true, if_false, nI_add, pk_mul, b_cl, b_lt, b_le, b_eq, b_eq0, b_le0, b_0lt, b_0le, b_lt0]
        rw [if_neg c2]
end ST5
