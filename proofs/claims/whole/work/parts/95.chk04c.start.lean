/-! THE LAW'S WALK, out of its run -/
def s_pf (o : A_O) : Bool := match o.2.1 with
  | .putfield _ => false
  | _ => true
theorem s_c1 {nw : List Cond} {tn : A_N} {own nm nm2 : String} {rz : Nat} {all r : List A_O} {o : A_O} (h : s_pf o = true) : a_c1 nw tn own nm rz all r o.1 o.2.1 o.2.2 = a_c1 nw tn own nm2 rz all r o.1 o.2.1 o.2.2 := by
  obtain ⟨pc, i, aux⟩ := o
  cases i <;> first | rfl | cases h
theorem s_co {nw : List Cond} {tn : A_N} {own nm nm2 : String} {rz : Nat} {cc : ByteArray} {all : List A_O} : ∀ r : List A_O, r.all s_pf = true → a_co nw tn own nm rz cc all r = true → a_co nw tn own nm2 rz cc all r = true := by
  intro r
  induction r with
  | nil => intro _ h; exact h
  | cons o r ih =>
    intro h1 h2
    rw [List.all_cons, Bool.and_eq_true] at h1
    unfold a_co at h2 ⊢
    rw [Bool.and_eq_true, Bool.and_eq_true] at h2 ⊢
    exact ⟨⟨h2.1.1, by rw [s_c1 (nm2 := nm) h1.1]; exact h2.1.2⟩, ih h1.2 h2.2⟩
theorem s_pf_law : k_La_law_0.all s_pf = true := by decide +kernel
/-- the heap behind the constructors, as numbers -/
noncomputable def s_m (c k : Nat) : Nat := (i_hC.2.1 c k).toUInt32.toNat
noncomputable def s_j (c k : Nat) : Nat := (i_hC.2.2.1 c k).toUInt64.toNat
theorem s_nI (x : Int32) : nI x.toUInt32.toNat = x := by
  unfold nI
  show UInt32.toInt32 (UInt32.ofNat x.toUInt32.toNat) = x
  rw [UInt32.ofNat_toNat]
  rfl
theorem s_lN (x : Int64) : lN x.toUInt64.toNat = x := by
  unfold lN
  show UInt64.toInt64 (UInt64.ofNat x.toUInt64.toNat) = x
  first | rw [UInt64.ofNat_toNat] | simp
  rfl
theorem s_hC : i_hC = b_h s_m s_j i_hC.2.2.2 := by
  have e1 : (fun c k => nI (s_m c k)) = i_hC.2.1 := by funext c k; exact s_nI _
  have e2 : (fun c k => lN (s_j c k)) = i_hC.2.2.1 := by funext c k; exact s_lN _
  unfold b_h
  rw [e1, e2, ← i_c4]
theorem s_mv {c k v : Nat} (hv : v < 4294967296) (h : i_at i_hC c k v = true) : s_m c k = v := by
  have h := of_decide_eq_true h
  unfold s_m
  rw [h]
  show (Int32.ofNat v).toUInt32.toNat = v
  show (UInt32.ofNat v).toNat = v
  first | rw [UInt32.toNat_ofNat'] | simp
  exact Nat.mod_eq_of_lt hv
theorem s_jv {c k v : Nat} (hv : v < 18446744073709551616) (h : i_hC.2.2.1 c k = lN v) : s_j c k = v := by
  unfold s_j
  rw [h]
  show (UInt64.ofNat v).toNat = v
  first | rw [UInt64.toNat_ofNat'] | simp
  exact Nat.mod_eq_of_lt hv
theorem s_cv : ∀ k, k < 19 → w_conv (w_wl k) = i_cv (i_wl.getD k 0) 8 ∧ w_wl k = i_wl.getD k 0 ∧ i_wl.getD k 0 < 18446744073709551616 ∧ i_cv (i_wl.getD k 0) 8 < 18446744073709551616 := by
  have key : ∀ n L, L < 32 ^ n → w_conv L = i_cv L n := by
    intro n
    induction n with
    | zero =>
      intro L h
      have h0 : L = 0 := by
        have : L < 1 := h
        omega
      subst h0
      first | exact w_conv_0 | (unfold w_conv; rfl)
    | succ n ih =>
      intro L h
      unfold w_conv i_cv
      by_cases c : L = 0
      · rw [dif_pos c, if_pos c]
      · rw [dif_neg c, if_neg c, ih (L / 32) (by
          have : L < 32 ^ n * 32 := by rw [← Nat.pow_succ]; exact h
          exact Nat.div_lt_of_lt_mul (by rw [Nat.mul_comm]; exact this))]
  intro k hk
  have h1 : w_wl k = i_wl.getD k 0 := rfl
  have h2 : ∀ k, k < 19 → i_wl.getD k 0 < 32 ^ 8 ∧ i_wl.getD k 0 < 18446744073709551616 ∧ i_cv (i_wl.getD k 0) 8 < 18446744073709551616 := by decide +kernel
  obtain ⟨h3, h4, h5⟩ := h2 k hk
  exact ⟨by rw [h1]; exact key 8 _ h3, h1, h4, h5⟩
theorem s_words : w_words s_j := by
  intro k hk
  have h := List.all_eq_true.mp i_c6 k (List.mem_range.mpr hk)
  rw [Bool.and_eq_true, decide_eq_true_eq, decide_eq_true_eq] at h
  obtain ⟨h1, h2, h3, h4⟩ := s_cv k hk
  exact ⟨by rw [h2]; exact s_jv h3 h.1, by rw [h1]; exact s_jv h4 h.2⟩
theorem s_zs {c n : Nat} (h : i_zs i_hC c n = true) : ∀ k, k < n → s_m c k = 0 := fun k hk => s_mv (by decide) (List.all_eq_true.mp h k (List.mem_range.mpr hk))
theorem s_R : r_R s_m s_j := by
  have hc := i_c5
  simp only [i_chk, Bool.and_eq_true] at hc
  obtain ⟨c1, c2, c3, c4, c5, c6, c7, c8, c9, c10, c11, c12, c13, c14, c15, c16, c17, c18, c19, c20, c21, c22, c23, c24, c25, c26, c27, c28, c29, c30, c31⟩ := hc
  have z : ∀ k, k < 533 → s_m 236 k = if k = 4 then 1 else 0 := fun k hk => s_mv (by by_cases e : k = 4 <;> simp [e]) (List.all_eq_true.mp c1 k (List.mem_range.mpr hk))
  have z0 : ∀ k, k < 533 → k ≠ 4 → s_m 236 k = 0 := fun k hk he => by rw [z k hk, if_neg he]
  have z4 : s_m 236 4 = 1 := by rw [z 4 (by decide), if_pos rfl]
  have y10 := s_zs c2
  have y13 := s_zs c3
  have y14 := s_zs c4
  have y4 : ∀ k, k < 7 → s_m 4 k = if k = 5 then 1 else 0 := fun k hk => s_mv (by by_cases e : k = 5 <;> simp [e]) (List.all_eq_true.mp c5 k (List.mem_range.mpr hk))
  have y40 : ∀ k, k < 7 → k ≠ 5 → s_m 4 k = 0 := fun k hk he => by rw [y4 k hk, if_neg he]
  have y26 := s_mv (by decide) c6
  have y30 := s_zs c7
  have a0 := z0 0 (by decide) (by decide)
  have a1 := z0 1 (by decide) (by decide)
  have a2 := z0 2 (by decide) (by decide)
  have a3 := z0 3 (by decide) (by decide)
  have zsum : ∀ (f : Nat → Nat) (n : Nat), (∀ i, i < n → f i = 0) → z_sum f n = 0 := by
    intro f n
    induction n with
    | zero => intro _; rfl
    | succ n ih =>
      intro h
      show z_sum f n + f n = 0
      rw [ih (fun i hi => h i (by omega)), h n (by omega)]
  have tb : ∀ e, (s_m 236 281).testBit e = false := fun e => by rw [z0 281 (by decide) (by decide)]; exact Nat.zero_testBit e
  refine ⟨?_, ?_, ?_, ?_, ?_, ?_, ?_, ?_, ?_, ?_, ?_, ?_, ?_, ?_, ?_, s_words, ?_⟩
  · unfold i_S
    rw [a0, a1, a2, a3, z4]
    refine ⟨by decide, by decide, by decide, by decide, by decide, fun i hi => by rw [z0 _ (by omega) (by omega)]; decide, fun i _ hi => z0 _ (by omega) (by omega), fun t ht => absurd ht (Nat.not_lt_zero _), fun t ht k hk => by rw [z0 _ (by omega) (by omega)]; decide, fun t ht k _ hk => z0 _ (by omega) (by omega), fun t _ ht k hk => z0 _ (by omega) (by omega), fun e he => absurd he (Nat.not_lt_zero _), fun e he => by rw [z0 _ (by omega) (by omega)]; decide, fun e he k hk => by rw [z0 _ (by omega) (by omega)]; decide, fun e he k _ hk => z0 _ (by omega) (by omega), fun e he => by rw [z0 _ (by omega) (by omega)]; decide⟩
  · unfold i_D
    rw [a0, a1, a2, a3, z0 157 (by decide) (by decide), z0 158 (by decide) (by decide), z0 281 (by decide) (by decide)]
    refine ⟨by decide, by rw [zsum _ _ (fun i hi => z0 _ (by omega) (by omega))]; decide, fun i _ hi => z0 _ (by omega) (by omega), fun t ht k hk => by rw [z0 _ (by omega) (by omega)]; decide, fun t ht k _ hk => z0 _ (by omega) (by omega), fun t _ ht k hk => z0 _ (by omega) (by omega), fun e he => absurd he (Nat.not_lt_zero _), fun e he => by rw [z0 _ (by omega) (by omega)]; decide, fun e he => absurd he (Nat.not_lt_zero _), fun e he => absurd he (Nat.not_lt_zero _), fun e he => absurd he (Nat.not_lt_zero _), by decide, fun e he => (by rw [Nat.zero_testBit] at he; cases he), fun e he => absurd he (Nat.not_lt_zero _), fun e he k hk => by rw [z0 _ (by omega) (by omega)]; decide, fun e he k _ hk => z0 _ (by omega) (by omega), fun t ht => absurd ht (Nat.not_lt_zero _), fun t ht => absurd ht (Nat.not_lt_zero _), rfl⟩
  · unfold c_F
    rw [a0, a1, a2, a3, z4]
    refine ⟨y40 0 (by decide) (by decide), y40 1 (by decide) (by decide), y40 2 (by decide) (by decide), y40 3 (by decide) (by decide), by rw [y4 5 (by decide), if_pos rfl], fun i hi => absurd hi (Nat.not_lt_zero _), fun i hi => absurd hi (Nat.not_lt_zero _), fun t ht k hk => (y10 _ (by omega)).trans (z0 _ (by omega) (by omega)).symm, fun e he => absurd he (Nat.not_lt_zero _), fun e he => absurd he (Nat.not_lt_zero _), fun e he k hk => (y13 _ (by omega)).trans (z0 _ (by omega) (by omega)).symm, fun e he => (y14 _ (by omega)).trans (z0 _ (by omega) (by omega)).symm⟩
  · unfold c_A
    rw [a0, a1, a3]
    refine ⟨by rw [y26, z0 157 (by decide) (by decide)], fun i hi => absurd hi (Nat.not_lt_zero _), fun i hi => absurd hi (Nat.not_lt_zero _), fun i hi => absurd hi (Nat.not_lt_zero _), fun t ht k hk => (y30 _ (by omega)).trans (z0 _ (by omega) (by omega)).symm, fun i hi => absurd hi (Nat.not_lt_zero _), fun i hi => absurd hi (Nat.not_lt_zero _), fun i hi => absurd hi (Nat.not_lt_zero _), fun i hi => absurd hi (Nat.not_lt_zero _), fun i hi => absurd hi (Nat.not_lt_zero _), fun i hi => absurd hi (Nat.not_lt_zero _), fun i hi => absurd hi (Nat.not_lt_zero _)⟩
  · rw [s_mv (by decide) c8, s_mv (by decide) c9]
    exact ⟨rfl, by decide, fun i hi => absurd hi (Nat.not_lt_zero _)⟩
  · show s_m 0 14 = s_m 234 15
    unfold s_m
    rw [of_decide_eq_true c10]
  · unfold r_N
    rw [y40 6 (by decide) (by decide), a0, a1, a2, a3]
    refine ⟨rfl, fun i hi => absurd hi (Nat.not_lt_zero _), fun q hq n hn => ?_, fun i hi => absurd hi (Nat.not_lt_zero _)⟩
    rw [z0 q (by omega) (by omega)] at hn
    exact absurd hn (Nat.not_lt_zero _)
  · unfold r_P
    rw [s_mv (by decide) c11, s_mv (by decide) c12, s_mv (by decide) c13]
    exact ⟨by decide, rfl, by decide, fun r hr => absurd hr (Nat.not_lt_zero _)⟩
  · unfold r_C
    rw [s_mv (by decide) c14, s_mv (by decide) c15]
    refine ⟨by decide, z0 352 (by decide) (by decide), ⟨fun _ => rfl, fun _ => rfl⟩, by decide, fun i hi => absurd hi (Nat.not_lt_zero _), fun i hi => absurd hi (Nat.not_lt_zero _), fun i hi => ?_, fun h => absurd h (Nat.lt_irrefl _)⟩
    have : i = 0 := by omega
    subst this
    exact Nat.zero_le _
  · rw [s_mv (by decide) c16, s_mv (by decide) c17]
    exact ⟨rfl, by decide, fun h => absurd rfl h⟩
  · rw [s_mv (by decide) c18, s_mv (by decide) c19]
    exact ⟨by decide, Or.inl ⟨rfl, rfl⟩, fun k hk => absurd hk (Nat.not_lt_zero _)⟩
  · rw [s_mv (by decide) c20]
    refine ⟨Or.inl rfl, fun t ht => ?_⟩
    rw [s_mv (by decide) (List.all_eq_true.mp c21 t (List.mem_range.mpr ht)), if_neg (fun h => h.1 rfl)]
  · rw [s_mv (by decide) c22, s_mv (by decide) c23]
    exact ⟨by decide, by rw [if_pos rfl]⟩
  · rw [s_mv (by decide) c24, s_mv (by decide) c25]
    exact ⟨by decide, by rw [if_pos rfl]⟩
  · rw [s_mv (by decide) c26, s_mv (by decide) c27]
    exact ⟨by decide, by rw [if_pos rfl]⟩
  · intro k hk
    rcases (show k = 0 ∨ k = 1 by omega) with rfl | rfl
    · exact ⟨(s_mv (by decide) c28).trans (s_mv (by decide) c30).symm, by rw [s_mv (by decide) c30]; decide, fun h => absurd (s_mv (by decide) c30) h⟩
    · exact ⟨(s_mv (by decide) c29).trans (s_mv (by decide) c31).symm, by rw [s_mv (by decide) c31]; decide, fun h => absurd (s_mv (by decide) c31) h⟩
