/-! MATCHES: street -/
def w_ends (s : Nat → Nat) (e t : Nat) : Bool := w_fit s e t && decide (w_would s e t = w_open s t)
theorem z_sum_min {f g : Nat → Nat} : ∀ n, z_sum (fun k => min (f k) (g k)) n ≤ z_sum f n ∧ (z_sum (fun k => min (f k) (g k)) n = z_sum f n ↔ ∀ k, k < n → f k ≤ g k)
  | 0 => ⟨Nat.le_refl _, ⟨fun _ k hk => absurd hk (Nat.not_lt_zero k), fun _ => rfl⟩⟩
  | n + 1 => by
    obtain ⟨h1, h2⟩ := z_sum_min (f := f) (g := g) n
    have e1 : z_sum (fun k => min (f k) (g k)) (n + 1) = z_sum (fun k => min (f k) (g k)) n + min (f n) (g n) := rfl
    have e2 : z_sum f (n + 1) = z_sum f n + f n := rfl
    rw [e1, e2]
    refine ⟨by omega, ⟨fun h k hk => ?_, fun h => ?_⟩⟩
    · by_cases c : k = n
      · rw [c]; omega
      · exact h2.mp (by omega) k (by omega)
    · have h3 := h2.mpr (fun k hk => h k (by omega))
      have h4 := h n (by omega)
      omega
section SR
variable {X : Nat × (Nat → Int32)} {tx : List Int32} {D : Nat} {m j : Nat → Nat → Nat} {w : (Nat × Nat) × Bool} {s : Nat → Nat}
theorem s_Mo_endsAt (hS : i_S (m 236)) (hI : i_D (m 236)) (hD : 4 ≤ D) {e t : Nat} (he : e < m 236 3) (ht : t < m 236 2) : a_ex X tx a_T D 268 [.ref 234, .int (nI e), .int (nI t)] (b_h m j w) = some ((b_h m j w), some (.int (nI (b_b (w_ends (m 236) e t))))) := by
  obtain ⟨d, rfl⟩ : ∃ d, D = d + 1 := ⟨D - 1, by omega⟩
  rw [e_Mo_endsAt, q_Mo_endsAt_0]
  have hT := i_S_T hS
  have hE := i_S_E hS
  unfold w_ends
  cases hf : w_fit (m 236) e t with
  | false =>
    simp (disch := omega) only [s_Mo_doesFit hS hI, hf, ↓bc_234, ↓br_234_6, ↓bc_236, ↓bx_236, bl_236, ↓b_t0, ↓b_t1, ↓b_t2, ↓b_t3, ↓b_t4, ↓b_t5, ↓b_t6, Nat.zero_add, Nat.le_refl, b_rs, b_rn, b_r2, b_ss, b_sn, b_bt, b_bf, b_b0, b_b1, b_bw, b_shl, b_or, b_iv, b_jv, b_sI, b_sJ, ↓z_hl, z_b0, z_b1, z_b2, b_and1c, b_and1z, if_true, if_false, nI_add, pk_mul, b_cl, b_lt, b_le, b_eq, b_eq0, b_le0, b_0lt, b_0le, b_lt0]
    rfl
  | true =>
    simp (disch := omega) only [s_Mo_doesFit hS hI, hf, Nat.one_ne_zero, ↓bc_234, ↓br_234_6, ↓bc_236, ↓bx_236, bl_236, ↓b_t0, ↓b_t1, ↓b_t2, ↓b_t3, ↓b_t4, ↓b_t5, ↓b_t6, Nat.zero_add, Nat.le_refl, b_rs, b_rn, b_r2, b_ss, b_sn, b_bt, b_bf, b_b0, b_b1, b_bw, b_shl, b_or, b_iv, b_jv, b_sI, b_sJ, ↓z_hl, z_b0, z_b1, z_b2, b_and1c, b_and1z, if_true, if_false, nI_add, pk_mul, b_cl, b_lt, b_le, b_eq, b_eq0, b_le0, b_0lt, b_0le, b_lt0]
    rw [← l_Mo_endsAt_9, Bool.true_and]
    refine (z_alls (r0 := some ((b_h m j w), some (.int (nI (0))))) (r1 := some ((b_h m j w), some (.int (nI (1))))) (fun n => [.ref 234, .int (nI e), .int (nI t), .int (nI n)]) (fun n => (b_h m j w)) (fun k => decide (m 236 (177 + 6 * t + k) ≤ m 236 (87 + 6 * e + k))) (6) (0) ?_ ?_ _ (z_fu (by omega))).trans ?_
    · intro n hn f _
      have h1 := i_D_op hI t (by omega) n (by omega)
      have h2 := i_S_cl hS e (by omega) n (by omega)
      rw [l_Mo_endsAt_9, q_Mo_endsAt_9]
      simp (disch := omega) only [s_Mo_closed, ↓bc_234, ↓br_234_6, ↓bc_236, ↓bx_236, bl_236, ↓b_t0, ↓b_t1, ↓b_t2, ↓b_t3, ↓b_t4, ↓b_t5, ↓b_t6, Nat.zero_add, Nat.le_refl, b_rs, b_rn, b_r2, b_ss, b_sn, b_bt, b_bf, b_b0, b_b1, b_bw, b_shl, b_or, b_iv, b_jv, b_sI, b_sJ, ↓z_hl, z_b0, z_b1, z_b2, b_and1c, b_and1z, if_true, if_false, nI_add, pk_mul, b_cl, b_lt, b_le, b_eq, b_eq0, b_le0, b_0lt, b_0le, b_lt0]
      rw [if_neg (by omega)]
      by_cases c : m 236 (177 + 6 * t + n) ≤ m 236 (87 + 6 * e + n)
      · rw [if_pos c, if_pos (decide_eq_true c)]
      · rw [if_neg c, if_neg (by rw [decide_eq_true_eq]; exact c)]
    · intro f _
      rw [l_Mo_endsAt_9, q_Mo_endsAt_9]
      simp (disch := omega) only [↓bc_234, ↓br_234_6, ↓bc_236, ↓bx_236, bl_236, ↓b_t0, ↓b_t1, ↓b_t2, ↓b_t3, ↓b_t4, ↓b_t5, ↓b_t6, Nat.zero_add, Nat.le_refl, b_rs, b_rn, b_r2, b_ss, b_sn, b_bt, b_bf, b_b0, b_b1, b_bw, b_shl, b_or, b_iv, b_jv, b_sI, b_sJ, ↓z_hl, z_b0, z_b1, z_b2, b_and1c, b_and1z, if_true, if_false, nI_add, pk_mul, b_cl, b_lt, b_le, b_eq, b_eq0, b_le0, b_0lt, b_0le, b_lt0]
    · have h3 := (z_sum_min (f := fun k => m 236 (177 + 6 * t + k)) (g := fun k => m 236 (87 + 6 * e + k)) 6).2
      have h4 : z_all (fun k => decide (m 236 (177 + 6 * t + k) ≤ m 236 (87 + 6 * e + k))) 6 = decide (w_would (m 236) e t = w_open (m 236) t) := by
        rw [Bool.eq_iff_iff, z_all_iff, decide_eq_true_eq]
        constructor
        · intro h
          exact h3.mpr (fun k hk => of_decide_eq_true (h k hk))
        · intro h k hk
          exact decide_eq_true (h3.mp h k hk)
      rw [h4]
      cases decide (w_would (m 236) e t = w_open (m 236) t) <;> rfl
end SR
/-- the least coin, when u is given and e endings are looked at -/
def w_lst (s : Nat → Nat) (t u : Nat) (g : Nat → Nat) : Nat → Nat
  | 0 => 1000000
  | e + 1 => if u.testBit e = false ∧ w_ends s e t = true then min (w_lst s t u g e) (s (251 + e) + g (u ||| 2 ^ e)) else w_lst s t u g e
/-- the least coin for the last things -/
def w_stv (s : Nat → Nat) (set : Nat) : Nat → Nat → Nat
  | 0, _ => 0
  | k + 1, u => if w_nd s set (s 2 - (k + 1)) = true then w_lst s (s 2 - (k + 1)) u (w_stv s set k) (s 3) else w_stv s set k u
theorem w_lst_le {s : Nat → Nat} {t u : Nat} {g : Nat → Nat} : ∀ e, w_lst s t u g e ≤ 1000000
  | 0 => Nat.le_refl _
  | e + 1 => by
    have := w_lst_le (s := s) (t := t) (u := u) (g := g) e
    unfold w_lst
    split <;> omega
theorem w_stv_le {s : Nat → Nat} {set : Nat} : ∀ k u, w_stv s set k u ≤ 1000000
  | 0, _ => Nat.zero_le _
  | k + 1, u => by
    unfold w_stv
    split
    · exact w_lst_le _
    · exact w_stv_le k u
def w_pd (n : Nat) : Nat := if n = 0 then 4294967295 else n - 1
theorem b_pd {n : Nat} (h : n < 4294967296) : nI n + nI 4294967295 = nI (w_pd n) := by
  rw [nI_add]
  unfold w_pd
  by_cases c : n = 0
  · rw [if_pos c, c]
  · rw [if_neg c]
    have e1 : n + 4294967295 = (n - 1) + 4294967296 := by omega
    rw [e1]
    unfold nI
    apply Int32.toBitVec_inj.mp
    apply BitVec.eq_of_toNat_eq
    rw [Int32.toBitVec_ofNat', Int32.toBitVec_ofNat', BitVec.toNat_ofNat, BitVec.toNat_ofNat]
    omega
theorem b_pd2 {n : Nat} (h : n < 4294967296) : nI n - nI 1 = nI (w_pd n) := by
  unfold w_pd
  by_cases c : n = 0
  · rw [if_pos c, c]; exact b_pred0
  · rw [if_neg c, b_sub (by omega)]
