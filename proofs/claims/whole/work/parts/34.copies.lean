/-! COPIES: affairs, facts, sentences -/
def b_isaf (a : Nat) : Prop := a = 26 ∨ a = 38 ∨ a = 52 ∨ a = 64 ∨ a = 76 ∨ a = 88 ∨ a = 100 ∨ a = 112 ∨ a = 124 ∨ a = 136 ∨ a = 190 ∨ a = 218
theorem b_af_kc {m j : Nat → Nat → Nat} {w : (Nat × Nat) × Bool} {a : Nat} {r : A_R} (h : b_isaf a) : a_kc (b_h m j w) a 0 r = r := by
  rcases h with rfl | rfl | rfl | rfl | rfl | rfl | rfl | rfl | rfl | rfl | rfl | rfl <;> exact z_id rfl
theorem b_af_rf1 {m j : Nat → Nat → Nat} {w : (Nat × Nat) × Bool} {a : Nat} {f : Nat → A_R} (h : b_isaf a) : a_fo (a_rf (b_h m j w) a 2) f = f (a + 1) := by
  rcases h with rfl | rfl | rfl | rfl | rfl | rfl | rfl | rfl | rfl | rfl | rfl | rfl <;> exact z_id rfl
theorem b_af_kc1 {m j : Nat → Nat → Nat} {w : (Nat × Nat) × Bool} {a : Nat} {r : A_R} (h : b_isaf a) : a_kc (b_h m j w) (a + 1) 100 r = r := by
  rcases h with rfl | rfl | rfl | rfl | rfl | rfl | rfl | rfl | rfl | rfl | rfl | rfl <;> exact z_id rfl
theorem b_af_ln1 {m j : Nat → Nat → Nat} {w : (Nat × Nat) × Bool} {a : Nat} (h : b_isaf a) : a_ln (b_h m j w) (a + 1) = 6 := by
  rcases h with rfl | rfl | rfl | rfl | rfl | rfl | rfl | rfl | rfl | rfl | rfl | rfl <;> exact z_id rfl
theorem b_af_cp1 {m j : Nat → Nat → Nat} {w : (Nat × Nat) × Bool} {a b : Nat} {f : A_H → A_R} (ha : b_isaf a) (hb : b_isaf b) : a_cp (b_h m j w) (b + 1) (nI 0) (a + 1) (nI 0) (nI 6) f = f (b_h (b_r m (a + 1) (b_rg (m (a + 1)) 0 6 fun q => m (b + 1) (0 + q))) j w) := b_cp (by rw [b_af_ln1 hb]; decide) (by rw [b_af_ln1 ha]; decide) (by decide) (by decide)
theorem b_af_rf2 {m j : Nat → Nat → Nat} {w : (Nat × Nat) × Bool} {a : Nat} {f : Nat → A_R} (h : b_isaf a) : a_fo (a_rf (b_h m j w) a 3) f = f (a + 2) := by
  rcases h with rfl | rfl | rfl | rfl | rfl | rfl | rfl | rfl | rfl | rfl | rfl | rfl <;> exact z_id rfl
theorem b_af_kc2 {m j : Nat → Nat → Nat} {w : (Nat × Nat) × Bool} {a : Nat} {r : A_R} (h : b_isaf a) : a_kc (b_h m j w) (a + 2) 100 r = r := by
  rcases h with rfl | rfl | rfl | rfl | rfl | rfl | rfl | rfl | rfl | rfl | rfl | rfl <;> exact z_id rfl
theorem b_af_ln2 {m j : Nat → Nat → Nat} {w : (Nat × Nat) × Bool} {a : Nat} (h : b_isaf a) : a_ln (b_h m j w) (a + 2) = 6 := by
  rcases h with rfl | rfl | rfl | rfl | rfl | rfl | rfl | rfl | rfl | rfl | rfl | rfl <;> exact z_id rfl
theorem b_af_cp2 {m j : Nat → Nat → Nat} {w : (Nat × Nat) × Bool} {a b : Nat} {f : A_H → A_R} (ha : b_isaf a) (hb : b_isaf b) : a_cp (b_h m j w) (b + 2) (nI 0) (a + 2) (nI 0) (nI 6) f = f (b_h (b_r m (a + 2) (b_rg (m (a + 2)) 0 6 fun q => m (b + 2) (0 + q))) j w) := b_cp (by rw [b_af_ln2 hb]; decide) (by rw [b_af_ln2 ha]; decide) (by decide) (by decide)
theorem b_af_rf3 {m j : Nat → Nat → Nat} {w : (Nat × Nat) × Bool} {a : Nat} {f : Nat → A_R} (h : b_isaf a) : a_fo (a_rf (b_h m j w) a 4) f = f (a + 3) := by
  rcases h with rfl | rfl | rfl | rfl | rfl | rfl | rfl | rfl | rfl | rfl | rfl | rfl <;> exact z_id rfl
theorem b_af_kc3 {m j : Nat → Nat → Nat} {w : (Nat × Nat) × Bool} {a : Nat} {r : A_R} (h : b_isaf a) : a_kc (b_h m j w) (a + 3) 100 r = r := by
  rcases h with rfl | rfl | rfl | rfl | rfl | rfl | rfl | rfl | rfl | rfl | rfl | rfl <;> exact z_id rfl
theorem b_af_ln3 {m j : Nat → Nat → Nat} {w : (Nat × Nat) × Bool} {a : Nat} (h : b_isaf a) : a_ln (b_h m j w) (a + 3) = 6 := by
  rcases h with rfl | rfl | rfl | rfl | rfl | rfl | rfl | rfl | rfl | rfl | rfl | rfl <;> exact z_id rfl
theorem b_af_cp3 {m j : Nat → Nat → Nat} {w : (Nat × Nat) × Bool} {a b : Nat} {f : A_H → A_R} (ha : b_isaf a) (hb : b_isaf b) : a_cp (b_h m j w) (b + 3) (nI 0) (a + 3) (nI 0) (nI 6) f = f (b_h (b_r m (a + 3) (b_rg (m (a + 3)) 0 6 fun q => m (b + 3) (0 + q))) j w) := b_cp (by rw [b_af_ln3 hb]; decide) (by rw [b_af_ln3 ha]; decide) (by decide) (by decide)
theorem b_af_rf4 {m j : Nat → Nat → Nat} {w : (Nat × Nat) × Bool} {a : Nat} {f : Nat → A_R} (h : b_isaf a) : a_fo (a_rf (b_h m j w) a 5) f = f (a + 4) := by
  rcases h with rfl | rfl | rfl | rfl | rfl | rfl | rfl | rfl | rfl | rfl | rfl | rfl <;> exact z_id rfl
theorem b_af_kc4 {m j : Nat → Nat → Nat} {w : (Nat × Nat) × Bool} {a : Nat} {r : A_R} (h : b_isaf a) : a_kc (b_h m j w) (a + 4) 100 r = r := by
  rcases h with rfl | rfl | rfl | rfl | rfl | rfl | rfl | rfl | rfl | rfl | rfl | rfl <;> exact z_id rfl
theorem b_af_ln4 {m j : Nat → Nat → Nat} {w : (Nat × Nat) × Bool} {a : Nat} (h : b_isaf a) : a_ln (b_h m j w) (a + 4) = 48 := by
  rcases h with rfl | rfl | rfl | rfl | rfl | rfl | rfl | rfl | rfl | rfl | rfl | rfl <;> exact z_id rfl
theorem b_af_cp4 {m j : Nat → Nat → Nat} {w : (Nat × Nat) × Bool} {a b : Nat} {f : A_H → A_R} (ha : b_isaf a) (hb : b_isaf b) : a_cp (b_h m j w) (b + 4) (nI 0) (a + 4) (nI 0) (nI 48) f = f (b_h (b_r m (a + 4) (b_rg (m (a + 4)) 0 48 fun q => m (b + 4) (0 + q))) j w) := b_cp (by rw [b_af_ln4 hb]; decide) (by rw [b_af_ln4 ha]; decide) (by decide) (by decide)
theorem b_af_rf5 {m j : Nat → Nat → Nat} {w : (Nat × Nat) × Bool} {a : Nat} {f : Nat → A_R} (h : b_isaf a) : a_fo (a_rf (b_h m j w) a 6) f = f (a + 5) := by
  rcases h with rfl | rfl | rfl | rfl | rfl | rfl | rfl | rfl | rfl | rfl | rfl | rfl <;> exact z_id rfl
theorem b_af_kc5 {m j : Nat → Nat → Nat} {w : (Nat × Nat) × Bool} {a : Nat} {r : A_R} (h : b_isaf a) : a_kc (b_h m j w) (a + 5) 100 r = r := by
  rcases h with rfl | rfl | rfl | rfl | rfl | rfl | rfl | rfl | rfl | rfl | rfl | rfl <;> exact z_id rfl
theorem b_af_ln5 {m j : Nat → Nat → Nat} {w : (Nat × Nat) × Bool} {a : Nat} (h : b_isaf a) : a_ln (b_h m j w) (a + 5) = 10 := by
  rcases h with rfl | rfl | rfl | rfl | rfl | rfl | rfl | rfl | rfl | rfl | rfl | rfl <;> exact z_id rfl
theorem b_af_cp5 {m j : Nat → Nat → Nat} {w : (Nat × Nat) × Bool} {a b : Nat} {f : A_H → A_R} (ha : b_isaf a) (hb : b_isaf b) : a_cp (b_h m j w) (b + 5) (nI 0) (a + 5) (nI 0) (nI 10) f = f (b_h (b_r m (a + 5) (b_rg (m (a + 5)) 0 10 fun q => m (b + 5) (0 + q))) j w) := b_cp (by rw [b_af_ln5 hb]; decide) (by rw [b_af_ln5 ha]; decide) (by decide) (by decide)
theorem b_af_rf6 {m j : Nat → Nat → Nat} {w : (Nat × Nat) × Bool} {a : Nat} {f : Nat → A_R} (h : b_isaf a) : a_fo (a_rf (b_h m j w) a 7) f = f (a + 6) := by
  rcases h with rfl | rfl | rfl | rfl | rfl | rfl | rfl | rfl | rfl | rfl | rfl | rfl <;> exact z_id rfl
theorem b_af_kc6 {m j : Nat → Nat → Nat} {w : (Nat × Nat) × Bool} {a : Nat} {r : A_R} (h : b_isaf a) : a_kc (b_h m j w) (a + 6) 100 r = r := by
  rcases h with rfl | rfl | rfl | rfl | rfl | rfl | rfl | rfl | rfl | rfl | rfl | rfl <;> exact z_id rfl
theorem b_af_ln6 {m j : Nat → Nat → Nat} {w : (Nat × Nat) × Bool} {a : Nat} (h : b_isaf a) : a_ln (b_h m j w) (a + 6) = 10 := by
  rcases h with rfl | rfl | rfl | rfl | rfl | rfl | rfl | rfl | rfl | rfl | rfl | rfl <;> exact z_id rfl
theorem b_af_cp6 {m j : Nat → Nat → Nat} {w : (Nat × Nat) × Bool} {a b : Nat} {f : A_H → A_R} (ha : b_isaf a) (hb : b_isaf b) : a_cp (b_h m j w) (b + 6) (nI 0) (a + 6) (nI 0) (nI 10) f = f (b_h (b_r m (a + 6) (b_rg (m (a + 6)) 0 10 fun q => m (b + 6) (0 + q))) j w) := b_cp (by rw [b_af_ln6 hb]; decide) (by rw [b_af_ln6 ha]; decide) (by decide) (by decide)
theorem b_af_rf7 {m j : Nat → Nat → Nat} {w : (Nat × Nat) × Bool} {a : Nat} {f : Nat → A_R} (h : b_isaf a) : a_fo (a_rf (b_h m j w) a 8) f = f (a + 7) := by
  rcases h with rfl | rfl | rfl | rfl | rfl | rfl | rfl | rfl | rfl | rfl | rfl | rfl <;> exact z_id rfl
theorem b_af_kc7 {m j : Nat → Nat → Nat} {w : (Nat × Nat) × Bool} {a : Nat} {r : A_R} (h : b_isaf a) : a_kc (b_h m j w) (a + 7) 100 r = r := by
  rcases h with rfl | rfl | rfl | rfl | rfl | rfl | rfl | rfl | rfl | rfl | rfl | rfl <;> exact z_id rfl
theorem b_af_ln7 {m j : Nat → Nat → Nat} {w : (Nat × Nat) × Bool} {a : Nat} (h : b_isaf a) : a_ln (b_h m j w) (a + 7) = 10 := by
  rcases h with rfl | rfl | rfl | rfl | rfl | rfl | rfl | rfl | rfl | rfl | rfl | rfl <;> exact z_id rfl
theorem b_af_cp7 {m j : Nat → Nat → Nat} {w : (Nat × Nat) × Bool} {a b : Nat} {f : A_H → A_R} (ha : b_isaf a) (hb : b_isaf b) : a_cp (b_h m j w) (b + 7) (nI 0) (a + 7) (nI 0) (nI 10) f = f (b_h (b_r m (a + 7) (b_rg (m (a + 7)) 0 10 fun q => m (b + 7) (0 + q))) j w) := b_cp (by rw [b_af_ln7 hb]; decide) (by rw [b_af_ln7 ha]; decide) (by decide) (by decide)
theorem b_af_rf8 {m j : Nat → Nat → Nat} {w : (Nat × Nat) × Bool} {a : Nat} {f : Nat → A_R} (h : b_isaf a) : a_fo (a_rf (b_h m j w) a 9) f = f (a + 8) := by
  rcases h with rfl | rfl | rfl | rfl | rfl | rfl | rfl | rfl | rfl | rfl | rfl | rfl <;> exact z_id rfl
theorem b_af_kc8 {m j : Nat → Nat → Nat} {w : (Nat × Nat) × Bool} {a : Nat} {r : A_R} (h : b_isaf a) : a_kc (b_h m j w) (a + 8) 100 r = r := by
  rcases h with rfl | rfl | rfl | rfl | rfl | rfl | rfl | rfl | rfl | rfl | rfl | rfl <;> exact z_id rfl
theorem b_af_ln8 {m j : Nat → Nat → Nat} {w : (Nat × Nat) × Bool} {a : Nat} (h : b_isaf a) : a_ln (b_h m j w) (a + 8) = 10 := by
  rcases h with rfl | rfl | rfl | rfl | rfl | rfl | rfl | rfl | rfl | rfl | rfl | rfl <;> exact z_id rfl
theorem b_af_cp8 {m j : Nat → Nat → Nat} {w : (Nat × Nat) × Bool} {a b : Nat} {f : A_H → A_R} (ha : b_isaf a) (hb : b_isaf b) : a_cp (b_h m j w) (b + 8) (nI 0) (a + 8) (nI 0) (nI 10) f = f (b_h (b_r m (a + 8) (b_rg (m (a + 8)) 0 10 fun q => m (b + 8) (0 + q))) j w) := b_cp (by rw [b_af_ln8 hb]; decide) (by rw [b_af_ln8 ha]; decide) (by decide) (by decide)
theorem b_af_rf9 {m j : Nat → Nat → Nat} {w : (Nat × Nat) × Bool} {a : Nat} {f : Nat → A_R} (h : b_isaf a) : a_fo (a_rf (b_h m j w) a 10) f = f (a + 9) := by
  rcases h with rfl | rfl | rfl | rfl | rfl | rfl | rfl | rfl | rfl | rfl | rfl | rfl <;> exact z_id rfl
theorem b_af_kc9 {m j : Nat → Nat → Nat} {w : (Nat × Nat) × Bool} {a : Nat} {r : A_R} (h : b_isaf a) : a_kc (b_h m j w) (a + 9) 100 r = r := by
  rcases h with rfl | rfl | rfl | rfl | rfl | rfl | rfl | rfl | rfl | rfl | rfl | rfl <;> exact z_id rfl
theorem b_af_ln9 {m j : Nat → Nat → Nat} {w : (Nat × Nat) × Bool} {a : Nat} (h : b_isaf a) : a_ln (b_h m j w) (a + 9) = 10 := by
  rcases h with rfl | rfl | rfl | rfl | rfl | rfl | rfl | rfl | rfl | rfl | rfl | rfl <;> exact z_id rfl
theorem b_af_cp9 {m j : Nat → Nat → Nat} {w : (Nat × Nat) × Bool} {a b : Nat} {f : A_H → A_R} (ha : b_isaf a) (hb : b_isaf b) : a_cp (b_h m j w) (b + 9) (nI 0) (a + 9) (nI 0) (nI 10) f = f (b_h (b_r m (a + 9) (b_rg (m (a + 9)) 0 10 fun q => m (b + 9) (0 + q))) j w) := b_cp (by rw [b_af_ln9 hb]; decide) (by rw [b_af_ln9 ha]; decide) (by decide) (by decide)
theorem b_af_rf10 {m j : Nat → Nat → Nat} {w : (Nat × Nat) × Bool} {a : Nat} {f : Nat → A_R} (h : b_isaf a) : a_fo (a_rf (b_h m j w) a 11) f = f (a + 10) := by
  rcases h with rfl | rfl | rfl | rfl | rfl | rfl | rfl | rfl | rfl | rfl | rfl | rfl <;> exact z_id rfl
theorem b_af_kc10 {m j : Nat → Nat → Nat} {w : (Nat × Nat) × Bool} {a : Nat} {r : A_R} (h : b_isaf a) : a_kc (b_h m j w) (a + 10) 100 r = r := by
  rcases h with rfl | rfl | rfl | rfl | rfl | rfl | rfl | rfl | rfl | rfl | rfl | rfl <;> exact z_id rfl
theorem b_af_ln10 {m j : Nat → Nat → Nat} {w : (Nat × Nat) × Bool} {a : Nat} (h : b_isaf a) : a_ln (b_h m j w) (a + 10) = 10 := by
  rcases h with rfl | rfl | rfl | rfl | rfl | rfl | rfl | rfl | rfl | rfl | rfl | rfl <;> exact z_id rfl
theorem b_af_cp10 {m j : Nat → Nat → Nat} {w : (Nat × Nat) × Bool} {a b : Nat} {f : A_H → A_R} (ha : b_isaf a) (hb : b_isaf b) : a_cp (b_h m j w) (b + 10) (nI 0) (a + 10) (nI 0) (nI 10) f = f (b_h (b_r m (a + 10) (b_rg (m (a + 10)) 0 10 fun q => m (b + 10) (0 + q))) j w) := b_cp (by rw [b_af_ln10 hb]; decide) (by rw [b_af_ln10 ha]; decide) (by decide) (by decide)
theorem b_af_rf11 {m j : Nat → Nat → Nat} {w : (Nat × Nat) × Bool} {a : Nat} {f : Nat → A_R} (h : b_isaf a) : a_fo (a_rf (b_h m j w) a 12) f = f (a + 11) := by
  rcases h with rfl | rfl | rfl | rfl | rfl | rfl | rfl | rfl | rfl | rfl | rfl | rfl <;> exact z_id rfl
theorem b_af_kc11 {m j : Nat → Nat → Nat} {w : (Nat × Nat) × Bool} {a : Nat} {r : A_R} (h : b_isaf a) : a_kc (b_h m j w) (a + 11) 100 r = r := by
  rcases h with rfl | rfl | rfl | rfl | rfl | rfl | rfl | rfl | rfl | rfl | rfl | rfl <;> exact z_id rfl
theorem b_af_ln11 {m j : Nat → Nat → Nat} {w : (Nat × Nat) × Bool} {a : Nat} (h : b_isaf a) : a_ln (b_h m j w) (a + 11) = 60 := by
  rcases h with rfl | rfl | rfl | rfl | rfl | rfl | rfl | rfl | rfl | rfl | rfl | rfl <;> exact z_id rfl
theorem b_af_cp11 {m j : Nat → Nat → Nat} {w : (Nat × Nat) × Bool} {a b : Nat} {f : A_H → A_R} (ha : b_isaf a) (hb : b_isaf b) : a_cp (b_h m j w) (b + 11) (nI 0) (a + 11) (nI 0) (nI 60) f = f (b_h (b_r m (a + 11) (b_rg (m (a + 11)) 0 60 fun q => m (b + 11) (0 + q))) j w) := b_cp (by rw [b_af_ln11 hb]; decide) (by rw [b_af_ln11 ha]; decide) (by decide) (by decide)
def b_isfa (a : Nat) : Prop := a = 4 ∨ a = 15 ∨ a = 179 ∨ a = 207
theorem b_fa_kc {m j : Nat → Nat → Nat} {w : (Nat × Nat) × Bool} {a : Nat} {r : A_R} (h : b_isfa a) : a_kc (b_h m j w) a 2 r = r := by
  rcases h with rfl | rfl | rfl | rfl <;> exact z_id rfl
theorem b_fa_rf1 {m j : Nat → Nat → Nat} {w : (Nat × Nat) × Bool} {a : Nat} {f : Nat → A_R} (h : b_isfa a) : a_fo (a_rf (b_h m j w) a 7) f = f (a + 1) := by
  rcases h with rfl | rfl | rfl | rfl <;> exact z_id rfl
theorem b_fa_kc1 {m j : Nat → Nat → Nat} {w : (Nat × Nat) × Bool} {a : Nat} {r : A_R} (h : b_isfa a) : a_kc (b_h m j w) (a + 1) 101 r = r := by
  rcases h with rfl | rfl | rfl | rfl <;> exact z_id rfl
theorem b_fa_ln1 {m j : Nat → Nat → Nat} {w : (Nat × Nat) × Bool} {a : Nat} (h : b_isfa a) : a_ln (b_h m j w) (a + 1) = 30 := by
  rcases h with rfl | rfl | rfl | rfl <;> exact z_id rfl
theorem b_fa_cp1 {m j : Nat → Nat → Nat} {w : (Nat × Nat) × Bool} {a b : Nat} {f : A_H → A_R} (ha : b_isfa a) (hb : b_isfa b) : a_cj (b_h m j w) (b + 1) (nI 0) (a + 1) (nI 0) (nI 30) f = f (b_h m (b_r j (a + 1) (b_rg (j (a + 1)) 0 30 fun q => j (b + 1) (0 + q))) w) := b_cj (by rw [b_fa_ln1 hb]; decide) (by rw [b_fa_ln1 ha]; decide) (by decide) (by decide)
theorem b_fa_rf2 {m j : Nat → Nat → Nat} {w : (Nat × Nat) × Bool} {a : Nat} {f : Nat → A_R} (h : b_isfa a) : a_fo (a_rf (b_h m j w) a 8) f = f (a + 2) := by
  rcases h with rfl | rfl | rfl | rfl <;> exact z_id rfl
theorem b_fa_kc2 {m j : Nat → Nat → Nat} {w : (Nat × Nat) × Bool} {a : Nat} {r : A_R} (h : b_isfa a) : a_kc (b_h m j w) (a + 2) 100 r = r := by
  rcases h with rfl | rfl | rfl | rfl <;> exact z_id rfl
theorem b_fa_ln2 {m j : Nat → Nat → Nat} {w : (Nat × Nat) × Bool} {a : Nat} (h : b_isfa a) : a_ln (b_h m j w) (a + 2) = 30 := by
  rcases h with rfl | rfl | rfl | rfl <;> exact z_id rfl
theorem b_fa_cp2 {m j : Nat → Nat → Nat} {w : (Nat × Nat) × Bool} {a b : Nat} {f : A_H → A_R} (ha : b_isfa a) (hb : b_isfa b) : a_cp (b_h m j w) (b + 2) (nI 0) (a + 2) (nI 0) (nI 30) f = f (b_h (b_r m (a + 2) (b_rg (m (a + 2)) 0 30 fun q => m (b + 2) (0 + q))) j w) := b_cp (by rw [b_fa_ln2 hb]; decide) (by rw [b_fa_ln2 ha]; decide) (by decide) (by decide)
theorem b_fa_rf3 {m j : Nat → Nat → Nat} {w : (Nat × Nat) × Bool} {a : Nat} {f : Nat → A_R} (h : b_isfa a) : a_fo (a_rf (b_h m j w) a 9) f = f (a + 3) := by
  rcases h with rfl | rfl | rfl | rfl <;> exact z_id rfl
theorem b_fa_kc3 {m j : Nat → Nat → Nat} {w : (Nat × Nat) × Bool} {a : Nat} {r : A_R} (h : b_isfa a) : a_kc (b_h m j w) (a + 3) 100 r = r := by
  rcases h with rfl | rfl | rfl | rfl <;> exact z_id rfl
theorem b_fa_ln3 {m j : Nat → Nat → Nat} {w : (Nat × Nat) × Bool} {a : Nat} (h : b_isfa a) : a_ln (b_h m j w) (a + 3) = 30 := by
  rcases h with rfl | rfl | rfl | rfl <;> exact z_id rfl
theorem b_fa_cp3 {m j : Nat → Nat → Nat} {w : (Nat × Nat) × Bool} {a b : Nat} {f : A_H → A_R} (ha : b_isfa a) (hb : b_isfa b) : a_cp (b_h m j w) (b + 3) (nI 0) (a + 3) (nI 0) (nI 30) f = f (b_h (b_r m (a + 3) (b_rg (m (a + 3)) 0 30 fun q => m (b + 3) (0 + q))) j w) := b_cp (by rw [b_fa_ln3 hb]; decide) (by rw [b_fa_ln3 ha]; decide) (by decide) (by decide)
theorem b_fa_rf4 {m j : Nat → Nat → Nat} {w : (Nat × Nat) × Bool} {a : Nat} {f : Nat → A_R} (h : b_isfa a) : a_fo (a_rf (b_h m j w) a 10) f = f (a + 4) := by
  rcases h with rfl | rfl | rfl | rfl <;> exact z_id rfl
theorem b_fa_kc4 {m j : Nat → Nat → Nat} {w : (Nat × Nat) × Bool} {a : Nat} {r : A_R} (h : b_isfa a) : a_kc (b_h m j w) (a + 4) 100 r = r := by
  rcases h with rfl | rfl | rfl | rfl <;> exact z_id rfl
theorem b_fa_ln4 {m j : Nat → Nat → Nat} {w : (Nat × Nat) × Bool} {a : Nat} (h : b_isfa a) : a_ln (b_h m j w) (a + 4) = 6 := by
  rcases h with rfl | rfl | rfl | rfl <;> exact z_id rfl
theorem b_fa_cp4 {m j : Nat → Nat → Nat} {w : (Nat × Nat) × Bool} {a b : Nat} {f : A_H → A_R} (ha : b_isfa a) (hb : b_isfa b) : a_cp (b_h m j w) (b + 4) (nI 0) (a + 4) (nI 0) (nI 6) f = f (b_h (b_r m (a + 4) (b_rg (m (a + 4)) 0 6 fun q => m (b + 4) (0 + q))) j w) := b_cp (by rw [b_fa_ln4 hb]; decide) (by rw [b_fa_ln4 ha]; decide) (by decide) (by decide)
theorem b_fa_rf5 {m j : Nat → Nat → Nat} {w : (Nat × Nat) × Bool} {a : Nat} {f : Nat → A_R} (h : b_isfa a) : a_fo (a_rf (b_h m j w) a 11) f = f (a + 5) := by
  rcases h with rfl | rfl | rfl | rfl <;> exact z_id rfl
theorem b_fa_kc5 {m j : Nat → Nat → Nat} {w : (Nat × Nat) × Bool} {a : Nat} {r : A_R} (h : b_isfa a) : a_kc (b_h m j w) (a + 5) 100 r = r := by
  rcases h with rfl | rfl | rfl | rfl <;> exact z_id rfl
theorem b_fa_ln5 {m j : Nat → Nat → Nat} {w : (Nat × Nat) × Bool} {a : Nat} (h : b_isfa a) : a_ln (b_h m j w) (a + 5) = 8 := by
  rcases h with rfl | rfl | rfl | rfl <;> exact z_id rfl
theorem b_fa_cp5 {m j : Nat → Nat → Nat} {w : (Nat × Nat) × Bool} {a b : Nat} {f : A_H → A_R} (ha : b_isfa a) (hb : b_isfa b) : a_cp (b_h m j w) (b + 5) (nI 0) (a + 5) (nI 0) (nI 8) f = f (b_h (b_r m (a + 5) (b_rg (m (a + 5)) 0 8 fun q => m (b + 5) (0 + q))) j w) := b_cp (by rw [b_fa_ln5 hb]; decide) (by rw [b_fa_ln5 ha]; decide) (by decide) (by decide)
theorem b_fa_rf6 {m j : Nat → Nat → Nat} {w : (Nat × Nat) × Bool} {a : Nat} {f : Nat → A_R} (h : b_isfa a) : a_fo (a_rf (b_h m j w) a 12) f = f (a + 6) := by
  rcases h with rfl | rfl | rfl | rfl <;> exact z_id rfl
theorem b_fa_kc6 {m j : Nat → Nat → Nat} {w : (Nat × Nat) × Bool} {a : Nat} {r : A_R} (h : b_isfa a) : a_kc (b_h m j w) (a + 6) 100 r = r := by
  rcases h with rfl | rfl | rfl | rfl <;> exact z_id rfl
theorem b_fa_ln6 {m j : Nat → Nat → Nat} {w : (Nat × Nat) × Bool} {a : Nat} (h : b_isfa a) : a_ln (b_h m j w) (a + 6) = 48 := by
  rcases h with rfl | rfl | rfl | rfl <;> exact z_id rfl
theorem b_fa_cp6 {m j : Nat → Nat → Nat} {w : (Nat × Nat) × Bool} {a b : Nat} {f : A_H → A_R} (ha : b_isfa a) (hb : b_isfa b) : a_cp (b_h m j w) (b + 6) (nI 0) (a + 6) (nI 0) (nI 48) f = f (b_h (b_r m (a + 6) (b_rg (m (a + 6)) 0 48 fun q => m (b + 6) (0 + q))) j w) := b_cp (by rw [b_fa_ln6 hb]; decide) (by rw [b_fa_ln6 ha]; decide) (by decide) (by decide)
theorem b_fa_rf7 {m j : Nat → Nat → Nat} {w : (Nat × Nat) × Bool} {a : Nat} {f : Nat → A_R} (h : b_isfa a) : a_fo (a_rf (b_h m j w) a 13) f = f (a + 7) := by
  rcases h with rfl | rfl | rfl | rfl <;> exact z_id rfl
theorem b_fa_kc7 {m j : Nat → Nat → Nat} {w : (Nat × Nat) × Bool} {a : Nat} {r : A_R} (h : b_isfa a) : a_kc (b_h m j w) (a + 7) 100 r = r := by
  rcases h with rfl | rfl | rfl | rfl <;> exact z_id rfl
theorem b_fa_ln7 {m j : Nat → Nat → Nat} {w : (Nat × Nat) × Bool} {a : Nat} (h : b_isfa a) : a_ln (b_h m j w) (a + 7) = 10 := by
  rcases h with rfl | rfl | rfl | rfl <;> exact z_id rfl
theorem b_fa_cp7 {m j : Nat → Nat → Nat} {w : (Nat × Nat) × Bool} {a b : Nat} {f : A_H → A_R} (ha : b_isfa a) (hb : b_isfa b) : a_cp (b_h m j w) (b + 7) (nI 0) (a + 7) (nI 0) (nI 10) f = f (b_h (b_r m (a + 7) (b_rg (m (a + 7)) 0 10 fun q => m (b + 7) (0 + q))) j w) := b_cp (by rw [b_fa_ln7 hb]; decide) (by rw [b_fa_ln7 ha]; decide) (by decide) (by decide)
theorem b_fa_rf8 {m j : Nat → Nat → Nat} {w : (Nat × Nat) × Bool} {a : Nat} {f : Nat → A_R} (h : b_isfa a) : a_fo (a_rf (b_h m j w) a 14) f = f (a + 8) := by
  rcases h with rfl | rfl | rfl | rfl <;> exact z_id rfl
theorem b_fa_kc8 {m j : Nat → Nat → Nat} {w : (Nat × Nat) × Bool} {a : Nat} {r : A_R} (h : b_isfa a) : a_kc (b_h m j w) (a + 8) 100 r = r := by
  rcases h with rfl | rfl | rfl | rfl <;> exact z_id rfl
theorem b_fa_ln8 {m j : Nat → Nat → Nat} {w : (Nat × Nat) × Bool} {a : Nat} (h : b_isfa a) : a_ln (b_h m j w) (a + 8) = 10 := by
  rcases h with rfl | rfl | rfl | rfl <;> exact z_id rfl
theorem b_fa_cp8 {m j : Nat → Nat → Nat} {w : (Nat × Nat) × Bool} {a b : Nat} {f : A_H → A_R} (ha : b_isfa a) (hb : b_isfa b) : a_cp (b_h m j w) (b + 8) (nI 0) (a + 8) (nI 0) (nI 10) f = f (b_h (b_r m (a + 8) (b_rg (m (a + 8)) 0 10 fun q => m (b + 8) (0 + q))) j w) := b_cp (by rw [b_fa_ln8 hb]; decide) (by rw [b_fa_ln8 ha]; decide) (by decide) (by decide)
theorem b_fa_rf9 {m j : Nat → Nat → Nat} {w : (Nat × Nat) × Bool} {a : Nat} {f : Nat → A_R} (h : b_isfa a) : a_fo (a_rf (b_h m j w) a 15) f = f (a + 9) := by
  rcases h with rfl | rfl | rfl | rfl <;> exact z_id rfl
theorem b_fa_kc9 {m j : Nat → Nat → Nat} {w : (Nat × Nat) × Bool} {a : Nat} {r : A_R} (h : b_isfa a) : a_kc (b_h m j w) (a + 9) 100 r = r := by
  rcases h with rfl | rfl | rfl | rfl <;> exact z_id rfl
theorem b_fa_ln9 {m j : Nat → Nat → Nat} {w : (Nat × Nat) × Bool} {a : Nat} (h : b_isfa a) : a_ln (b_h m j w) (a + 9) = 60 := by
  rcases h with rfl | rfl | rfl | rfl <;> exact z_id rfl
theorem b_fa_cp9 {m j : Nat → Nat → Nat} {w : (Nat × Nat) × Bool} {a b : Nat} {f : A_H → A_R} (ha : b_isfa a) (hb : b_isfa b) : a_cp (b_h m j w) (b + 9) (nI 0) (a + 9) (nI 0) (nI 60) f = f (b_h (b_r m (a + 9) (b_rg (m (a + 9)) 0 60 fun q => m (b + 9) (0 + q))) j w) := b_cp (by rw [b_fa_ln9 hb]; decide) (by rw [b_fa_ln9 ha]; decide) (by decide) (by decide)
theorem b_fa_rf10 {m j : Nat → Nat → Nat} {w : (Nat × Nat) × Bool} {a : Nat} {f : Nat → A_R} (h : b_isfa a) : a_fo (a_rf (b_h m j w) a 16) f = f (a + 10) := by
  rcases h with rfl | rfl | rfl | rfl <;> exact z_id rfl
theorem b_fa_kc10 {m j : Nat → Nat → Nat} {w : (Nat × Nat) × Bool} {a : Nat} {r : A_R} (h : b_isfa a) : a_kc (b_h m j w) (a + 10) 100 r = r := by
  rcases h with rfl | rfl | rfl | rfl <;> exact z_id rfl
theorem b_fa_ln10 {m j : Nat → Nat → Nat} {w : (Nat × Nat) × Bool} {a : Nat} (h : b_isfa a) : a_ln (b_h m j w) (a + 10) = 10 := by
  rcases h with rfl | rfl | rfl | rfl <;> exact z_id rfl
theorem b_fa_cp10 {m j : Nat → Nat → Nat} {w : (Nat × Nat) × Bool} {a b : Nat} {f : A_H → A_R} (ha : b_isfa a) (hb : b_isfa b) : a_cp (b_h m j w) (b + 10) (nI 0) (a + 10) (nI 0) (nI 10) f = f (b_h (b_r m (a + 10) (b_rg (m (a + 10)) 0 10 fun q => m (b + 10) (0 + q))) j w) := b_cp (by rw [b_fa_ln10 hb]; decide) (by rw [b_fa_ln10 ha]; decide) (by decide) (by decide)
def b_isse (a : Nat) : Prop := a = 148 ∨ a = 152 ∨ a = 202 ∨ a = 230
theorem b_se_kc {m j : Nat → Nat → Nat} {w : (Nat × Nat) × Bool} {a : Nat} {r : A_R} (h : b_isse a) : a_kc (b_h m j w) a 9 r = r := by
  rcases h with rfl | rfl | rfl | rfl <;> exact z_id rfl
theorem b_se_rf1 {m j : Nat → Nat → Nat} {w : (Nat × Nat) × Bool} {a : Nat} {f : Nat → A_R} (h : b_isse a) : a_fo (a_rf (b_h m j w) a 2) f = f (a + 1) := by
  rcases h with rfl | rfl | rfl | rfl <;> exact z_id rfl
theorem b_se_kc1 {m j : Nat → Nat → Nat} {w : (Nat × Nat) × Bool} {a : Nat} {r : A_R} (h : b_isse a) : a_kc (b_h m j w) (a + 1) 100 r = r := by
  rcases h with rfl | rfl | rfl | rfl <;> exact z_id rfl
theorem b_se_ln1 {m j : Nat → Nat → Nat} {w : (Nat × Nat) × Bool} {a : Nat} (h : b_isse a) : a_ln (b_h m j w) (a + 1) = 40 := by
  rcases h with rfl | rfl | rfl | rfl <;> exact z_id rfl
theorem b_se_cp1 {m j : Nat → Nat → Nat} {w : (Nat × Nat) × Bool} {a b : Nat} {f : A_H → A_R} (ha : b_isse a) (hb : b_isse b) : a_cp (b_h m j w) (b + 1) (nI 0) (a + 1) (nI 0) (nI 40) f = f (b_h (b_r m (a + 1) (b_rg (m (a + 1)) 0 40 fun q => m (b + 1) (0 + q))) j w) := b_cp (by rw [b_se_ln1 hb]; decide) (by rw [b_se_ln1 ha]; decide) (by decide) (by decide)
theorem b_se_rf2 {m j : Nat → Nat → Nat} {w : (Nat × Nat) × Bool} {a : Nat} {f : Nat → A_R} (h : b_isse a) : a_fo (a_rf (b_h m j w) a 3) f = f (a + 2) := by
  rcases h with rfl | rfl | rfl | rfl <;> exact z_id rfl
theorem b_se_kc2 {m j : Nat → Nat → Nat} {w : (Nat × Nat) × Bool} {a : Nat} {r : A_R} (h : b_isse a) : a_kc (b_h m j w) (a + 2) 100 r = r := by
  rcases h with rfl | rfl | rfl | rfl <;> exact z_id rfl
theorem b_se_ln2 {m j : Nat → Nat → Nat} {w : (Nat × Nat) × Bool} {a : Nat} (h : b_isse a) : a_ln (b_h m j w) (a + 2) = 40 := by
  rcases h with rfl | rfl | rfl | rfl <;> exact z_id rfl
theorem b_se_cp2 {m j : Nat → Nat → Nat} {w : (Nat × Nat) × Bool} {a b : Nat} {f : A_H → A_R} (ha : b_isse a) (hb : b_isse b) : a_cp (b_h m j w) (b + 2) (nI 0) (a + 2) (nI 0) (nI 40) f = f (b_h (b_r m (a + 2) (b_rg (m (a + 2)) 0 40 fun q => m (b + 2) (0 + q))) j w) := b_cp (by rw [b_se_ln2 hb]; decide) (by rw [b_se_ln2 ha]; decide) (by decide) (by decide)
theorem b_se_rf3 {m j : Nat → Nat → Nat} {w : (Nat × Nat) × Bool} {a : Nat} {f : Nat → A_R} (h : b_isse a) : a_fo (a_rf (b_h m j w) a 4) f = f (a + 3) := by
  rcases h with rfl | rfl | rfl | rfl <;> exact z_id rfl
theorem b_se_kc3 {m j : Nat → Nat → Nat} {w : (Nat × Nat) × Bool} {a : Nat} {r : A_R} (h : b_isse a) : a_kc (b_h m j w) (a + 3) 100 r = r := by
  rcases h with rfl | rfl | rfl | rfl <;> exact z_id rfl
theorem b_se_ln3 {m j : Nat → Nat → Nat} {w : (Nat × Nat) × Bool} {a : Nat} (h : b_isse a) : a_ln (b_h m j w) (a + 3) = 40 := by
  rcases h with rfl | rfl | rfl | rfl <;> exact z_id rfl
theorem b_se_cp3 {m j : Nat → Nat → Nat} {w : (Nat × Nat) × Bool} {a b : Nat} {f : A_H → A_R} (ha : b_isse a) (hb : b_isse b) : a_cp (b_h m j w) (b + 3) (nI 0) (a + 3) (nI 0) (nI 40) f = f (b_h (b_r m (a + 3) (b_rg (m (a + 3)) 0 40 fun q => m (b + 3) (0 + q))) j w) := b_cp (by rw [b_se_ln3 hb]; decide) (by rw [b_se_ln3 ha]; decide) (by decide) (by decide)
/-- the affairs a are as the affairs b -/
def w_cpA (m : Nat → Nat → Nat) (a b : Nat) : Nat → Nat → Nat := b_r (b_r (b_r (b_r (b_r (b_r (b_r (b_r (b_r (b_r (b_r (b_r m a (b_s (m a) 1 (m b 1))) (a + 1) (b_rg (m (a + 1)) 0 6 fun q => m (b + 1) q)) (a + 2) (b_rg (m (a + 2)) 0 6 fun q => m (b + 2) q)) (a + 3) (b_rg (m (a + 3)) 0 6 fun q => m (b + 3) q)) (a + 4) (b_rg (m (a + 4)) 0 48 fun q => m (b + 4) q)) (a + 5) (b_rg (m (a + 5)) 0 10 fun q => m (b + 5) q)) (a + 6) (b_rg (m (a + 6)) 0 10 fun q => m (b + 6) q)) (a + 7) (b_rg (m (a + 7)) 0 10 fun q => m (b + 7) q)) (a + 8) (b_rg (m (a + 8)) 0 10 fun q => m (b + 8) q)) (a + 9) (b_rg (m (a + 9)) 0 10 fun q => m (b + 9) q)) (a + 10) (b_rg (m (a + 10)) 0 10 fun q => m (b + 10) q)) (a + 11) (b_rg (m (a + 11)) 0 60 fun q => m (b + 11) q)
theorem s_Af_copy {X : Nat × (Nat → Int32)} {tx : List Int32} {D : Nat} {m j : Nat → Nat → Nat} {w : (Nat × Nat) × Bool} {a b : Nat} (ha : b_isaf a) (hb : b_isaf b) (hab : a + 12 ≤ b ∨ b + 12 ≤ a) (hD : 1 ≤ D) : a_ex X tx a_T D 47 [.ref a, .ref b] (b_h m j w) = some (b_h (w_cpA m a b) j w, none) := by
  obtain ⟨d, rfl⟩ : ∃ d, D = d + 1 := ⟨D - 1, by omega⟩
  rw [e_Af_copy, q_Af_copy_0]
  unfold w_cpA
  simp (disch := omega) only [↓b_af_kc ha, ↓b_af_kc hb, ↓b_af_rf1 ha, ↓b_af_rf1 hb, ↓b_af_rf2 ha, ↓b_af_rf2 hb, ↓b_af_rf3 ha, ↓b_af_rf3 hb, ↓b_af_rf4 ha, ↓b_af_rf4 hb, ↓b_af_rf5 ha, ↓b_af_rf5 hb, ↓b_af_rf6 ha, ↓b_af_rf6 hb, ↓b_af_rf7 ha, ↓b_af_rf7 hb, ↓b_af_rf8 ha, ↓b_af_rf8 hb, ↓b_af_rf9 ha, ↓b_af_rf9 hb, ↓b_af_rf10 ha, ↓b_af_rf10 hb, ↓b_af_rf11 ha, ↓b_af_rf11 hb, ↓b_af_kc1 ha, ↓b_af_kc1 hb, ↓b_af_kc2 ha, ↓b_af_kc2 hb, ↓b_af_kc3 ha, ↓b_af_kc3 hb, ↓b_af_kc4 ha, ↓b_af_kc4 hb, ↓b_af_kc5 ha, ↓b_af_kc5 hb, ↓b_af_kc6 ha, ↓b_af_kc6 hb, ↓b_af_kc7 ha, ↓b_af_kc7 hb, ↓b_af_kc8 ha, ↓b_af_kc8 hb, ↓b_af_kc9 ha, ↓b_af_kc9 hb, ↓b_af_kc10 ha, ↓b_af_kc10 hb, ↓b_af_kc11 ha, ↓b_af_kc11 hb, ↓b_af_cp1 ha hb, ↓b_af_cp2 ha hb, ↓b_af_cp3 ha hb, ↓b_af_cp4 ha hb, ↓b_af_cp5 ha hb, ↓b_af_cp6 ha hb, ↓b_af_cp7 ha hb, ↓b_af_cp8 ha hb, ↓b_af_cp9 ha hb, ↓b_af_cp10 ha hb, ↓b_af_cp11 ha hb, ↓b_t0, ↓b_t1, ↓b_t2, ↓b_t3, ↓b_t4, ↓b_t5, ↓b_t6, Nat.zero_add, Nat.le_refl, b_rs, b_rn, b_r2, b_ss, b_sn, b_bt, b_bf, b_b0, b_b1, b_bw, b_shl, b_or, b_iv, b_jv, b_sI, b_sJ, ↓z_hl, z_b0, z_b1, z_b2, b_and1c, b_and1z, if_true, if_false, nI_add, pk_mul, b_cl, b_lt, b_le, b_eq, b_eq0, b_le0, b_0lt, b_0le, b_lt0]
/-- the facts a are as the facts b -/
def w_cpF (m : Nat → Nat → Nat) (a b : Nat) : Nat → Nat → Nat := b_r (b_r (b_r (b_r (b_r (b_r (b_r (b_r (b_r (b_r m a (b_s (b_s (b_s (b_s (b_s (b_s (b_s (m a) 0 (m b 0)) 1 (m b 1)) 2 (m b 2)) 3 (m b 3)) 4 (m b 4)) 5 (m b 5)) 6 (m b 6))) (a + 2) (b_rg (m (a + 2)) 0 30 fun q => m (b + 2) q)) (a + 3) (b_rg (m (a + 3)) 0 30 fun q => m (b + 3) q)) (a + 4) (b_rg (m (a + 4)) 0 6 fun q => m (b + 4) q)) (a + 5) (b_rg (m (a + 5)) 0 8 fun q => m (b + 5) q)) (a + 6) (b_rg (m (a + 6)) 0 48 fun q => m (b + 6) q)) (a + 7) (b_rg (m (a + 7)) 0 10 fun q => m (b + 7) q)) (a + 8) (b_rg (m (a + 8)) 0 10 fun q => m (b + 8) q)) (a + 9) (b_rg (m (a + 9)) 0 60 fun q => m (b + 9) q)) (a + 10) (b_rg (m (a + 10)) 0 10 fun q => m (b + 10) q)
def w_cpN (j : Nat → Nat → Nat) (a b : Nat) : Nat → Nat → Nat := b_r j (a + 1) (b_rg (j (a + 1)) 0 30 fun q => j (b + 1) q)
theorem s_Fa_copy {X : Nat × (Nat → Int32)} {tx : List Int32} {D : Nat} {m j : Nat → Nat → Nat} {w : (Nat × Nat) × Bool} {a b : Nat} (ha : b_isfa a) (hb : b_isfa b) (hab : a + 11 ≤ b ∨ b + 11 ≤ a) (hD : 1 ≤ D) : a_ex X tx a_T D 19 [.ref a, .ref b] (b_h m j w) = some (b_h (w_cpF m a b) (w_cpN j a b) w, none) := by
  obtain ⟨d, rfl⟩ : ∃ d, D = d + 1 := ⟨D - 1, by omega⟩
  rw [e_Fa_copy, q_Fa_copy_0]
  unfold w_cpF w_cpN
  simp (disch := omega) only [↓b_fa_kc ha, ↓b_fa_kc hb, ↓b_fa_rf1 ha, ↓b_fa_rf1 hb, ↓b_fa_rf2 ha, ↓b_fa_rf2 hb, ↓b_fa_rf3 ha, ↓b_fa_rf3 hb, ↓b_fa_rf4 ha, ↓b_fa_rf4 hb, ↓b_fa_rf5 ha, ↓b_fa_rf5 hb, ↓b_fa_rf6 ha, ↓b_fa_rf6 hb, ↓b_fa_rf7 ha, ↓b_fa_rf7 hb, ↓b_fa_rf8 ha, ↓b_fa_rf8 hb, ↓b_fa_rf9 ha, ↓b_fa_rf9 hb, ↓b_fa_rf10 ha, ↓b_fa_rf10 hb, ↓b_fa_kc1 ha, ↓b_fa_kc1 hb, ↓b_fa_kc2 ha, ↓b_fa_kc2 hb, ↓b_fa_kc3 ha, ↓b_fa_kc3 hb, ↓b_fa_kc4 ha, ↓b_fa_kc4 hb, ↓b_fa_kc5 ha, ↓b_fa_kc5 hb, ↓b_fa_kc6 ha, ↓b_fa_kc6 hb, ↓b_fa_kc7 ha, ↓b_fa_kc7 hb, ↓b_fa_kc8 ha, ↓b_fa_kc8 hb, ↓b_fa_kc9 ha, ↓b_fa_kc9 hb, ↓b_fa_kc10 ha, ↓b_fa_kc10 hb, ↓b_fa_cp1 ha hb, ↓b_fa_cp2 ha hb, ↓b_fa_cp3 ha hb, ↓b_fa_cp4 ha hb, ↓b_fa_cp5 ha hb, ↓b_fa_cp6 ha hb, ↓b_fa_cp7 ha hb, ↓b_fa_cp8 ha hb, ↓b_fa_cp9 ha hb, ↓b_fa_cp10 ha hb, ↓b_t0, ↓b_t1, ↓b_t2, ↓b_t3, ↓b_t4, ↓b_t5, ↓b_t6, Nat.zero_add, Nat.le_refl, b_rs, b_rn, b_r2, b_ss, b_sn, b_bt, b_bf, b_b0, b_b1, b_bw, b_shl, b_or, b_iv, b_jv, b_sI, b_sJ, ↓z_hl, z_b0, z_b1, z_b2, b_and1c, b_and1z, if_true, if_false, nI_add, pk_mul, b_cl, b_lt, b_le, b_eq, b_eq0, b_le0, b_0lt, b_0le, b_lt0]
/-- the sentence a is as the sentence b -/
def w_cpS (m : Nat → Nat → Nat) (a b : Nat) : Nat → Nat → Nat := b_r (b_r (b_r (b_r m a (b_s (b_s (m a) 0 (m b 0)) 1 (m b 1))) (a + 1) (b_rg (m (a + 1)) 0 40 fun q => m (b + 1) q)) (a + 2) (b_rg (m (a + 2)) 0 40 fun q => m (b + 2) q)) (a + 3) (b_rg (m (a + 3)) 0 40 fun q => m (b + 3) q)
theorem s_Se_copy {X : Nat × (Nat → Int32)} {tx : List Int32} {D : Nat} {m j : Nat → Nat → Nat} {w : (Nat × Nat) × Bool} {a b : Nat} (ha : b_isse a) (hb : b_isse b) (hab : a + 4 ≤ b ∨ b + 4 ≤ a) (hD : 1 ≤ D) : a_ex X tx a_T D 86 [.ref a, .ref b] (b_h m j w) = some (b_h (w_cpS m a b) j w, none) := by
  obtain ⟨d, rfl⟩ : ∃ d, D = d + 1 := ⟨D - 1, by omega⟩
  rw [e_Se_copy, q_Se_copy_0]
  unfold w_cpS
  simp (disch := omega) only [↓b_se_kc ha, ↓b_se_kc hb, ↓b_se_rf1 ha, ↓b_se_rf1 hb, ↓b_se_rf2 ha, ↓b_se_rf2 hb, ↓b_se_rf3 ha, ↓b_se_rf3 hb, ↓b_se_kc1 ha, ↓b_se_kc1 hb, ↓b_se_kc2 ha, ↓b_se_kc2 hb, ↓b_se_kc3 ha, ↓b_se_kc3 hb, ↓b_se_cp1 ha hb, ↓b_se_cp2 ha hb, ↓b_se_cp3 ha hb, ↓b_t0, ↓b_t1, ↓b_t2, ↓b_t3, ↓b_t4, ↓b_t5, ↓b_t6, Nat.zero_add, Nat.le_refl, b_rs, b_rn, b_r2, b_ss, b_sn, b_bt, b_bf, b_b0, b_b1, b_bw, b_shl, b_or, b_iv, b_jv, b_sI, b_sJ, ↓z_hl, z_b0, z_b1, z_b2, b_and1c, b_and1z, if_true, if_false, nI_add, pk_mul, b_cl, b_lt, b_le, b_eq, b_eq0, b_le0, b_0lt, b_0le, b_lt0]
theorem w_cpA_fr {m : Nat → Nat → Nat} {a b : Nat} : z_fr a (a + 11) m (w_cpA m a b) := by
  unfold w_cpA
  exact z_fr_r (z_fr_r (z_fr_r (z_fr_r (z_fr_r (z_fr_r (z_fr_r (z_fr_r (z_fr_r (z_fr_r (z_fr_r (z_fr_r z_fr_rf (by omega)) (by omega)) (by omega)) (by omega)) (by omega)) (by omega)) (by omega)) (by omega)) (by omega)) (by omega)) (by omega)) (by omega)
theorem c_A_cp {m : Nat → Nat → Nat} {a b : Nat} {s : Nat → Nat} (hab : a + 12 ≤ b ∨ b + 12 ≤ a) (hS : i_S s) (h : c_A m b s) : c_A (w_cpA m a b) a s := by
  have hE := i_S_E hS
  have hM := i_S_M hS
  have hK := i_S_K hS
  unfold c_A at h ⊢
  unfold w_cpA
  simp (disch := omega) only [b_rs, b_rn, b_ss]
  obtain ⟨h1, h2, h3, h4, h5, h6, h7, h8, h9, h10, h11, h12⟩ := h
  refine ⟨h1, ?_, ?_, ?_, ?_, ?_, ?_, ?_, ?_, ?_, ?_, ?_⟩
  · intro i hi; rw [b_rgi (by omega) (by omega)]; exact h2 i hi
  · intro i hi; rw [b_rgi (by omega) (by omega)]; exact h3 i hi
  · intro i hi; rw [b_rgi (by omega) (by omega)]; exact h4 i hi
  · intro t ht k hk; rw [b_rgi (by omega) (by omega)]; exact h5 t ht k hk
  · intro i hi; rw [b_rgi (by omega) (by omega)]; exact h6 i hi
  · intro i hi; rw [b_rgi (by omega) (by omega)]; exact h7 i hi
  · intro i hi; rw [b_rgi (by omega) (by omega)]; exact h8 i hi
  · intro i hi; rw [b_rgi (by omega) (by omega)]; exact h9 i hi
  · intro i hi; rw [b_rgi (by omega) (by omega)]; exact h10 i hi
  · intro i hi; rw [b_rgi (by omega) (by omega)]; exact h11 i hi
  · intro i hi hp k hk; rw [b_rgi (by omega) (by omega)]; exact h12 i hi hp k hk
theorem w_cpF_fr {m : Nat → Nat → Nat} {a b : Nat} : z_fr a (a + 10) m (w_cpF m a b) := by
  unfold w_cpF
  exact z_fr_r (z_fr_r (z_fr_r (z_fr_r (z_fr_r (z_fr_r (z_fr_r (z_fr_r (z_fr_r (z_fr_r z_fr_rf (by omega)) (by omega)) (by omega)) (by omega)) (by omega)) (by omega)) (by omega)) (by omega)) (by omega)) (by omega)
theorem w_cpN_fr {m : Nat → Nat → Nat} {a b : Nat} : z_fr (a + 1) (a + 1) m (w_cpN m a b) := by
  unfold w_cpN
  exact z_fr_r z_fr_rf (by omega)
theorem c_F_cp {m : Nat → Nat → Nat} {a b : Nat} {s : Nat → Nat} (hab : a + 11 ≤ b ∨ b + 11 ≤ a) (hS : i_S s) (h : c_F m b s) : c_F (w_cpF m a b) a s := by
  have hE := i_S_E hS
  have hM := i_S_M hS
  have hT := i_S_T hS
  unfold c_F at h ⊢
  unfold w_cpF
  simp (disch := omega) only [b_rs, b_rn, b_ss, b_sn]
  obtain ⟨h1, h2, h3, h4, h5, h6, h7, h8, h9, h10, h11, h12⟩ := h
  refine ⟨h1, h2, h3, h4, h5, ?_, ?_, ?_, ?_, ?_, ?_, ?_⟩
  · intro i hi; rw [b_rgi (by omega) (by omega)]; exact h6 i hi
  · intro i hi; rw [b_rgi (by omega) (by omega)]; exact h7 i hi
  · intro t ht k hk; rw [b_rgi (by omega) (by omega)]; exact h8 t ht k hk
  · intro i hi; rw [b_rgi (by omega) (by omega)]; exact h9 i hi
  · intro i hi; rw [b_rgi (by omega) (by omega)]; exact h10 i hi
  · intro i hi k hk; rw [b_rgi (by omega) (by omega)]; exact h11 i hi k hk
  · intro i hi; rw [b_rgi (by omega) (by omega)]; exact h12 i hi
theorem w_cpS_fr {m : Nat → Nat → Nat} {a b : Nat} : z_fr a (a + 3) m (w_cpS m a b) := by
  unfold w_cpS
  exact z_fr_r (z_fr_r (z_fr_r (z_fr_r z_fr_rf (by omega)) (by omega)) (by omega)) (by omega)
