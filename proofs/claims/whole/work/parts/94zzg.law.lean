/-! THE LAW'S LOOP: its machine, pieces -/
/-- a call of the law's thing or ending that throws -/
noncomputable def lz_T (X : Nat × (Nat → Int32)) (d yC : Nat) (vs : List Value) (h : A_H) : A_R := match a_lo vs 5 with
  | [.ref x, .int p0, .int p1, .ref _, _] => a_kc h x 11 (match a_ex X a_tx a_T (d + 1) yC [.ref x, .int p0, .int p1] h with
    | some (h1, some (.retAddr 0)) => some (h1, some (.int 1))
    | _ => none)
  | _ => none
noncomputable def lz_M (X : Nat × (Nat → Int32)) (d : Nat) (y : Nat) (vs : List Value) (h : A_H) : A_R := if y = 151 ∨ y = 207 then a_ex i_X0 a_tx a_T (d + 2) y vs h else (match a_ex X a_tx a_T (d + 2) y vs h with
  | some r => some r
  | none => if y = 316 then lz_T X d 156 vs h else if y = 317 then lz_T X d 158 vs h else none)
theorem lz_M_some {X : Nat × (Nat → Int32)} {d y : Nat} {vs : List Value} {h : A_H} {r : A_H × Option Value} (h1 : y ≠ 151) (h2 : y ≠ 207) (hr : a_ex X a_tx a_T (d + 2) y vs h = some r) : lz_M X d y vs h = some r := by
  unfold lz_M
  rw [if_neg (fun c => c.elim h1 h2), hr]
theorem lz_num (x : Int32) : ∃ a, a < 4294967296 ∧ x = nI a := by
  refine ⟨x.toUInt32.toNat, x.toUInt32.toNat_lt, ?_⟩
  unfold nI
  show x = UInt32.toInt32 (UInt32.ofNat x.toUInt32.toNat)
  rw [UInt32.ofNat_toNat]
  rfl
theorem lz_lnum (x : Int64) : ∃ a, lN a = x := by
  refine ⟨x.toUInt64.toNat, ?_⟩
  unfold lN
  show UInt64.toInt64 (UInt64.ofNat x.toUInt64.toNat) = x
  first | rw [UInt64.ofNat_toNat] | simp
  rfl
theorem lz_bl {X : Nat × (Nat → Int32)} (hX : X.1 < 4000) : Nat.blt X.1 4000 = true := by simp only [Nat.blt_eq]; exact hX
theorem lz_in {X : Nat × (Nat → Int32)} (hX : X.1 < 4000) {k : Nat} (hk : k < X.1) : a_in (nI k) (a_xn X) = true := by
  unfold a_xn
  rw [if_pos hX]
  exact z_in hk (by omega)
/-- one round of the loop -/
def lz_P (X : Nat × (Nat → Int32)) (ag : Nat → List Value → A_H → A_R) (n : Nat) (m j : Nat → Nat → Nat) (w : (Nat × Nat) × Bool) (u5 u6 : Value) : Prop :=
  ∃ m2 j2 w2 v5 v6, a_rn X a_tx (lz_M X 39) ag k_La_law_13 0 [.retAddr 1, .ref 0, .ref 234, .ref 257, .int (nI (6 * n)), u5, u6] [] (b_h m j w) = ag 13 [.retAddr 1, .ref 0, .ref 234, .ref 257, .int (nI (6 * n + 6)), v5, v6] (b_h m2 j2 w2) ∧ r_R m2 j2 ∧ w2.1.1 ≤ w.1.1 + 8 ∧ w2.1.2 ≤ w.1.2 + 40
theorem r_R_257 {m j j2 : Nat → Nat → Nat} (hj : ∀ c, c ≠ 257 → j2 c = j c) (h : r_R m j) : r_R m j2 := by
  obtain ⟨h1, h2, h3, h4, h5, h6, h7, h8, h9, h10, h11, h12, h13, h14, h15, h16, h17⟩ := h
  refine ⟨h1, h2, h3, h4, h5, h6, by rw [hj 5 (by decide), hj 239 (by decide)]; exact h7, h8, h9, h10, h11, h12, h13, h14, h15, fun k hk => by rw [hj 3 (by decide), hj 240 (by decide)]; exact h16 k hk, fun k hk => ?_⟩
  obtain ⟨g1, g2, g3⟩ := h17 k hk
  refine ⟨g1, g2, fun hn => ?_⟩
  have e1 : w_imN j2 k = w_imN j k := by unfold w_imN; rw [hj 255 (by decide)]
  rw [e1]
  exact r_I_ext (fun _ _ _ => rfl) (hj _ (by omega)) (g3 hn)
