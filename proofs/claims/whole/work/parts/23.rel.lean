/-! WHAT HOLDS OF A STATE: s is the reference's row of 533 -/
def i_S (s : Nat → Nat) : Prop :=
  (s 0 ≤ 6) ∧
  (s 1 ≤ 6) ∧
  (s 2 ≤ 8) ∧
  (s 3 ≤ 10) ∧
  (s 4 ≤ 9) ∧
  (∀ i, i < 6 → s (5 + i) ≤ 999) ∧
  (∀ i, s 1 ≤ i → i < 6 → s (5 + i) = 0) ∧
  (∀ t, t < s 2 → s (11 + t) < s 1) ∧
  (∀ t, t < 8 → ∀ k, k < 6 → s (19 + 6 * t + k) ≤ 9) ∧
  (∀ t, t < 8 → ∀ k, s 0 ≤ k → k < 6 → s (19 + 6 * t + k) = 0) ∧
  (∀ t, s 2 ≤ t → t < 8 → ∀ k, k < 6 → s (19 + 6 * t + k) = 0) ∧
  (∀ e, e < s 3 → s (67 + e) < s 1) ∧
  (∀ e, e < 10 → s (77 + e) ≤ 99) ∧
  (∀ e, e < 10 → ∀ k, k < 6 → s (87 + 6 * e + k) ≤ 9) ∧
  (∀ e, e < 10 → ∀ k, s 0 ≤ k → k < 6 → s (87 + 6 * e + k) = 0) ∧
  (∀ e, e < 10 → s (147 + e) ≤ 60)
theorem i_S_K {s : Nat → Nat} (h : i_S s) : s 0 ≤ 6 := h.1
theorem i_S_M {s : Nat → Nat} (h : i_S s) : s 1 ≤ 6 := h.2.1
theorem i_S_T {s : Nat → Nat} (h : i_S s) : s 2 ≤ 8 := h.2.2.1
theorem i_S_E {s : Nat → Nat} (h : i_S s) : s 3 ≤ 10 := h.2.2.2.1
theorem i_S_U {s : Nat → Nat} (h : i_S s) : s 4 ≤ 9 := h.2.2.2.2.1
theorem i_S_ct {s : Nat → Nat} (h : i_S s) : ∀ i, i < 6 → s (5 + i) ≤ 999 := h.2.2.2.2.2.1
theorem i_S_cz {s : Nat → Nat} (h : i_S s) : ∀ i, s 1 ≤ i → i < 6 → s (5 + i) = 0 := h.2.2.2.2.2.2.1
theorem i_S_wh {s : Nat → Nat} (h : i_S s) : ∀ t, t < s 2 → s (11 + t) < s 1 := h.2.2.2.2.2.2.2.1
theorem i_S_ot {s : Nat → Nat} (h : i_S s) : ∀ t, t < 8 → ∀ k, k < 6 → s (19 + 6 * t + k) ≤ 9 := h.2.2.2.2.2.2.2.2.1
theorem i_S_otk {s : Nat → Nat} (h : i_S s) : ∀ t, t < 8 → ∀ k, s 0 ≤ k → k < 6 → s (19 + 6 * t + k) = 0 := h.2.2.2.2.2.2.2.2.2.1
theorem i_S_ott {s : Nat → Nat} (h : i_S s) : ∀ t, s 2 ≤ t → t < 8 → ∀ k, k < 6 → s (19 + 6 * t + k) = 0 := h.2.2.2.2.2.2.2.2.2.2.1
theorem i_S_ht {s : Nat → Nat} (h : i_S s) : ∀ e, e < s 3 → s (67 + e) < s 1 := h.2.2.2.2.2.2.2.2.2.2.2.1
theorem i_S_pt {s : Nat → Nat} (h : i_S s) : ∀ e, e < 10 → s (77 + e) ≤ 99 := h.2.2.2.2.2.2.2.2.2.2.2.2.1
theorem i_S_cl {s : Nat → Nat} (h : i_S s) : ∀ e, e < 10 → ∀ k, k < 6 → s (87 + 6 * e + k) ≤ 9 := h.2.2.2.2.2.2.2.2.2.2.2.2.2.1
theorem i_S_clk {s : Nat → Nat} (h : i_S s) : ∀ e, e < 10 → ∀ k, s 0 ≤ k → k < 6 → s (87 + 6 * e + k) = 0 := h.2.2.2.2.2.2.2.2.2.2.2.2.2.2.1
theorem i_S_fd {s : Nat → Nat} (h : i_S s) : ∀ e, e < 10 → s (147 + e) ≤ 60 := h.2.2.2.2.2.2.2.2.2.2.2.2.2.2.2
def i_D (s : Nat → Nat) : Prop :=
  (s 157 ≤ 400) ∧
  (z_sum (fun i => s (159 + i)) 6 ≤ 5994) ∧
  (∀ i, s 1 ≤ i → i < 6 → s (159 + i) = 0) ∧
  (∀ t, t < 8 → ∀ k, k < 6 → s (177 + 6 * t + k) ≤ 99) ∧
  (∀ t, t < 8 → ∀ k, s 0 ≤ k → k < 6 → s (177 + 6 * t + k) = 0) ∧
  (∀ t, s 2 ≤ t → t < 8 → ∀ k, k < 6 → s (177 + 6 * t + k) = 0) ∧
  (∀ e, e < s 3 → s (241 + e) = 4294967295 ∨ s (241 + e) < s 1) ∧
  (∀ e, e < 10 → s (251 + e) ≤ 99) ∧
  (∀ e, e < s 3 → s (261 + e) ≤ s 2) ∧
  (∀ e, e < s 3 → (s (261 + e) = 0 ↔ s (241 + e) ≠ 4294967295)) ∧
  (∀ e, e < s 3 → s (241 + e) = 4294967295 → s (271 + e) ≤ s 157) ∧
  (s 281 < 1024) ∧
  (∀ e, (s 281).testBit e = true → e < s 3 ∧ s (241 + e) = 4294967295 ∧ 0 < s (147 + e)) ∧
  (∀ e, e < s 3 → s (241 + e) = 4294967295 → 0 < s (147 + e) → (s 281).testBit e = false → s 157 + 1 ≤ s (271 + e) + s (147 + e)) ∧
  (∀ e, e < 10 → ∀ k, k < 6 → s (292 + 6 * e + k) ≤ 9) ∧
  (∀ e, e < 10 → ∀ k, s 0 ≤ k → k < 6 → s (292 + 6 * e + k) = 0) ∧
  (∀ t, t < s 2 → s (225 + t) = z_sum (fun e => if s (261 + e) = t + 1 then 1 else 0) (s 3)) ∧
  (∀ t, t < s 2 → s (233 + t) = z_sum (fun e => if s (261 + e) = t + 1 then b_b ((s 281).testBit e) else 0) (s 3)) ∧
  (s 158 = z_sum (fun e => b_b ((s 281).testBit e)) (s 3))
theorem i_D_da {s : Nat → Nat} (h : i_D s) : s 157 ≤ 400 := h.1
theorem i_D_co {s : Nat → Nat} (h : i_D s) : z_sum (fun i => s (159 + i)) 6 ≤ 5994 := h.2.1
theorem i_D_coz {s : Nat → Nat} (h : i_D s) : ∀ i, s 1 ≤ i → i < 6 → s (159 + i) = 0 := h.2.2.1
theorem i_D_op {s : Nat → Nat} (h : i_D s) : ∀ t, t < 8 → ∀ k, k < 6 → s (177 + 6 * t + k) ≤ 99 := h.2.2.2.1
theorem i_D_opk {s : Nat → Nat} (h : i_D s) : ∀ t, t < 8 → ∀ k, s 0 ≤ k → k < 6 → s (177 + 6 * t + k) = 0 := h.2.2.2.2.1
theorem i_D_opt {s : Nat → Nat} (h : i_D s) : ∀ t, s 2 ≤ t → t < 8 → ∀ k, k < 6 → s (177 + 6 * t + k) = 0 := h.2.2.2.2.2.1
theorem i_D_ha {s : Nat → Nat} (h : i_D s) : ∀ e, e < s 3 → s (241 + e) = 4294967295 ∨ s (241 + e) < s 1 := h.2.2.2.2.2.2.1
theorem i_D_pr {s : Nat → Nat} (h : i_D s) : ∀ e, e < 10 → s (251 + e) ≤ 99 := h.2.2.2.2.2.2.2.1
theorem i_D_pu {s : Nat → Nat} (h : i_D s) : ∀ e, e < s 3 → s (261 + e) ≤ s 2 := h.2.2.2.2.2.2.2.2.1
theorem i_D_pz {s : Nat → Nat} (h : i_D s) : ∀ e, e < s 3 → (s (261 + e) = 0 ↔ s (241 + e) ≠ 4294967295) := h.2.2.2.2.2.2.2.2.2.1
theorem i_D_po {s : Nat → Nat} (h : i_D s) : ∀ e, e < s 3 → s (241 + e) = 4294967295 → s (271 + e) ≤ s 157 := h.2.2.2.2.2.2.2.2.2.2.1
theorem i_D_we {s : Nat → Nat} (h : i_D s) : s 281 < 1024 := h.2.2.2.2.2.2.2.2.2.2.2.1
theorem i_D_wp {s : Nat → Nat} (h : i_D s) : ∀ e, (s 281).testBit e = true → e < s 3 ∧ s (241 + e) = 4294967295 ∧ 0 < s (147 + e) := h.2.2.2.2.2.2.2.2.2.2.2.2.1
theorem i_D_wa {s : Nat → Nat} (h : i_D s) : ∀ e, e < s 3 → s (241 + e) = 4294967295 → 0 < s (147 + e) → (s 281).testBit e = false → s 157 + 1 ≤ s (271 + e) + s (147 + e) := h.2.2.2.2.2.2.2.2.2.2.2.2.2.1
theorem i_D_sh {s : Nat → Nat} (h : i_D s) : ∀ e, e < 10 → ∀ k, k < 6 → s (292 + 6 * e + k) ≤ 9 := h.2.2.2.2.2.2.2.2.2.2.2.2.2.2.1
theorem i_D_shk {s : Nat → Nat} (h : i_D s) : ∀ e, e < 10 → ∀ k, s 0 ≤ k → k < 6 → s (292 + 6 * e + k) = 0 := h.2.2.2.2.2.2.2.2.2.2.2.2.2.2.2.1
theorem i_D_pg {s : Nat → Nat} (h : i_D s) : ∀ t, t < s 2 → s (225 + t) = z_sum (fun e => if s (261 + e) = t + 1 then 1 else 0) (s 3) := h.2.2.2.2.2.2.2.2.2.2.2.2.2.2.2.2.1
theorem i_D_wo {s : Nat → Nat} (h : i_D s) : ∀ t, t < s 2 → s (233 + t) = z_sum (fun e => if s (261 + e) = t + 1 then b_b ((s 281).testBit e) else 0) (s 3) := h.2.2.2.2.2.2.2.2.2.2.2.2.2.2.2.2.2.1
theorem i_D_dk {s : Nat → Nat} (h : i_D s) : s 158 = z_sum (fun e => b_b ((s 281).testBit e)) (s 3) := h.2.2.2.2.2.2.2.2.2.2.2.2.2.2.2.2.2.2
/-! the class's facts (cells f, f + 1 ..) hold what s says -/
def c_F (m : Nat → Nat → Nat) (f : Nat) (s : Nat → Nat) : Prop :=
  (m f 0 = s 0) ∧
  (m f 1 = s 1) ∧
  (m f 2 = s 2) ∧
  (m f 3 = s 3) ∧
  (m f 5 = s 4) ∧
  (∀ i, i < s 1 → m (f + 4) i = s (5 + i)) ∧
  (∀ t, t < s 2 → m (f + 5) t = s (11 + t)) ∧
  (∀ t, t < 8 → ∀ k, k < 6 → m (f + 6) (t * 6 + k) = s (19 + 6 * t + k)) ∧
  (∀ e, e < s 3 → m (f + 7) e = s (67 + e)) ∧
  (∀ e, e < s 3 → m (f + 8) e = s (77 + e)) ∧
  (∀ e, e < 10 → ∀ k, k < 6 → m (f + 9) (e * 6 + k) = s (87 + 6 * e + k)) ∧
  (∀ e, e < 10 → m (f + 10) e = s (147 + e))
theorem c_F_K {m : Nat → Nat → Nat} {f : Nat} {s : Nat → Nat} (h : c_F m f s) : m f 0 = s 0 := h.1
theorem c_F_M {m : Nat → Nat → Nat} {f : Nat} {s : Nat → Nat} (h : c_F m f s) : m f 1 = s 1 := h.2.1
theorem c_F_T {m : Nat → Nat → Nat} {f : Nat} {s : Nat → Nat} (h : c_F m f s) : m f 2 = s 2 := h.2.2.1
theorem c_F_E {m : Nat → Nat → Nat} {f : Nat} {s : Nat → Nat} (h : c_F m f s) : m f 3 = s 3 := h.2.2.2.1
theorem c_F_U {m : Nat → Nat → Nat} {f : Nat} {s : Nat → Nat} (h : c_F m f s) : m f 5 = s 4 := h.2.2.2.2.1
theorem c_F_ct {m : Nat → Nat → Nat} {f : Nat} {s : Nat → Nat} (h : c_F m f s) : ∀ i, i < s 1 → m (f + 4) i = s (5 + i) := h.2.2.2.2.2.1
theorem c_F_wh {m : Nat → Nat → Nat} {f : Nat} {s : Nat → Nat} (h : c_F m f s) : ∀ t, t < s 2 → m (f + 5) t = s (11 + t) := h.2.2.2.2.2.2.1
theorem c_F_ot {m : Nat → Nat → Nat} {f : Nat} {s : Nat → Nat} (h : c_F m f s) : ∀ t, t < 8 → ∀ k, k < 6 → m (f + 6) (t * 6 + k) = s (19 + 6 * t + k) := h.2.2.2.2.2.2.2.1
theorem c_F_ht {m : Nat → Nat → Nat} {f : Nat} {s : Nat → Nat} (h : c_F m f s) : ∀ e, e < s 3 → m (f + 7) e = s (67 + e) := h.2.2.2.2.2.2.2.2.1
theorem c_F_pt {m : Nat → Nat → Nat} {f : Nat} {s : Nat → Nat} (h : c_F m f s) : ∀ e, e < s 3 → m (f + 8) e = s (77 + e) := h.2.2.2.2.2.2.2.2.2.1
theorem c_F_cl {m : Nat → Nat → Nat} {f : Nat} {s : Nat → Nat} (h : c_F m f s) : ∀ e, e < 10 → ∀ k, k < 6 → m (f + 9) (e * 6 + k) = s (87 + 6 * e + k) := h.2.2.2.2.2.2.2.2.2.2.1
theorem c_F_fd {m : Nat → Nat → Nat} {f : Nat} {s : Nat → Nat} (h : c_F m f s) : ∀ e, e < 10 → m (f + 10) e = s (147 + e) := h.2.2.2.2.2.2.2.2.2.2.2
/-! its affairs (cells a, a + 1 ..) -/
def c_A (m : Nat → Nat → Nat) (a : Nat) (s : Nat → Nat) : Prop :=
  (m a 1 = s 157) ∧
  (∀ i, i < s 1 → m (a + 1) i = s (159 + i)) ∧
  (∀ i, i < s 1 → m (a + 2) i = s (165 + i)) ∧
  (∀ i, i < s 1 → m (a + 3) i = s (171 + i)) ∧
  (∀ t, t < 8 → ∀ k, k < 6 → m (a + 4) (t * 6 + k) = s (177 + 6 * t + k)) ∧
  (∀ e, e < s 3 → m (a + 5) e = s (241 + e)) ∧
  (∀ e, e < s 3 → m (a + 6) e = s (251 + e)) ∧
  (∀ e, e < s 3 → m (a + 7) e = if s (241 + e) = 4294967295 then s (261 + e) - 1 else 4294967295) ∧
  (∀ e, e < s 3 → m (a + 8) e = if s (241 + e) = 4294967295 then s (271 + e) else 4294967295) ∧
  (∀ e, e < s 3 → m (a + 9) e = b_b ((s 281).testBit e)) ∧
  (∀ e, e < s 3 → m (a + 10) e = s (282 + e)) ∧
  (∀ e, e < s 3 → s (241 + e) = 4294967295 → ∀ k, k < s 0 → m (a + 11) (e * 6 + k) = s (292 + 6 * e + k))
theorem c_A_da {m : Nat → Nat → Nat} {a : Nat} {s : Nat → Nat} (h : c_A m a s) : m a 1 = s 157 := h.1
theorem c_A_co {m : Nat → Nat → Nat} {a : Nat} {s : Nat → Nat} (h : c_A m a s) : ∀ i, i < s 1 → m (a + 1) i = s (159 + i) := h.2.1
theorem c_A_bo {m : Nat → Nat → Nat} {a : Nat} {s : Nat → Nat} (h : c_A m a s) : ∀ i, i < s 1 → m (a + 2) i = s (165 + i) := h.2.2.1
theorem c_A_pp {m : Nat → Nat → Nat} {a : Nat} {s : Nat → Nat} (h : c_A m a s) : ∀ i, i < s 1 → m (a + 3) i = s (171 + i) := h.2.2.2.1
theorem c_A_op {m : Nat → Nat → Nat} {a : Nat} {s : Nat → Nat} (h : c_A m a s) : ∀ t, t < 8 → ∀ k, k < 6 → m (a + 4) (t * 6 + k) = s (177 + 6 * t + k) := h.2.2.2.2.1
theorem c_A_ha {m : Nat → Nat → Nat} {a : Nat} {s : Nat → Nat} (h : c_A m a s) : ∀ e, e < s 3 → m (a + 5) e = s (241 + e) := h.2.2.2.2.2.1
theorem c_A_pr {m : Nat → Nat → Nat} {a : Nat} {s : Nat → Nat} (h : c_A m a s) : ∀ e, e < s 3 → m (a + 6) e = s (251 + e) := h.2.2.2.2.2.2.1
theorem c_A_pl {m : Nat → Nat → Nat} {a : Nat} {s : Nat → Nat} (h : c_A m a s) : ∀ e, e < s 3 → m (a + 7) e = if s (241 + e) = 4294967295 then s (261 + e) - 1 else 4294967295 := h.2.2.2.2.2.2.2.1
theorem c_A_pd {m : Nat → Nat → Nat} {a : Nat} {s : Nat → Nat} (h : c_A m a s) : ∀ e, e < s 3 → m (a + 8) e = if s (241 + e) = 4294967295 then s (271 + e) else 4294967295 := h.2.2.2.2.2.2.2.2.1
theorem c_A_we {m : Nat → Nat → Nat} {a : Nat} {s : Nat → Nat} (h : c_A m a s) : ∀ e, e < s 3 → m (a + 9) e = b_b ((s 281).testBit e) := h.2.2.2.2.2.2.2.2.2.1
theorem c_A_so {m : Nat → Nat → Nat} {a : Nat} {s : Nat → Nat} (h : c_A m a s) : ∀ e, e < s 3 → m (a + 10) e = s (282 + e) := h.2.2.2.2.2.2.2.2.2.2.1
theorem c_A_sh {m : Nat → Nat → Nat} {a : Nat} {s : Nat → Nat} (h : c_A m a s) : ∀ e, e < s 3 → s (241 + e) = 4294967295 → ∀ k, k < s 0 → m (a + 11) (e * 6 + k) = s (292 + 6 * e + k) := h.2.2.2.2.2.2.2.2.2.2.2
theorem c_F4_K {m : Nat → Nat → Nat} {s : Nat → Nat} (h : c_F m 4 s) : m 4 0 = s 0 := c_F_K h
theorem c_F4_M {m : Nat → Nat → Nat} {s : Nat → Nat} (h : c_F m 4 s) : m 4 1 = s 1 := c_F_M h
theorem c_F4_T {m : Nat → Nat → Nat} {s : Nat → Nat} (h : c_F m 4 s) : m 4 2 = s 2 := c_F_T h
theorem c_F4_E {m : Nat → Nat → Nat} {s : Nat → Nat} (h : c_F m 4 s) : m 4 3 = s 3 := c_F_E h
theorem c_F4_U {m : Nat → Nat → Nat} {s : Nat → Nat} (h : c_F m 4 s) : m 4 5 = s 4 := c_F_U h
theorem c_F4_ct {m : Nat → Nat → Nat} {s : Nat → Nat} (h : c_F m 4 s) : ∀ i, i < s 1 → m 8 i = s (5 + i) := c_F_ct h
theorem c_F4_wh {m : Nat → Nat → Nat} {s : Nat → Nat} (h : c_F m 4 s) : ∀ t, t < s 2 → m 9 t = s (11 + t) := c_F_wh h
theorem c_F4_ot {m : Nat → Nat → Nat} {s : Nat → Nat} (h : c_F m 4 s) : ∀ t, t < 8 → ∀ k, k < 6 → m 10 (t * 6 + k) = s (19 + 6 * t + k) := c_F_ot h
theorem c_F4_ht {m : Nat → Nat → Nat} {s : Nat → Nat} (h : c_F m 4 s) : ∀ e, e < s 3 → m 11 e = s (67 + e) := c_F_ht h
theorem c_F4_pt {m : Nat → Nat → Nat} {s : Nat → Nat} (h : c_F m 4 s) : ∀ e, e < s 3 → m 12 e = s (77 + e) := c_F_pt h
theorem c_F4_cl {m : Nat → Nat → Nat} {s : Nat → Nat} (h : c_F m 4 s) : ∀ e, e < 10 → ∀ k, k < 6 → m 13 (e * 6 + k) = s (87 + 6 * e + k) := c_F_cl h
theorem c_F4_fd {m : Nat → Nat → Nat} {s : Nat → Nat} (h : c_F m 4 s) : ∀ e, e < 10 → m 14 e = s (147 + e) := c_F_fd h
theorem c_A26_da {m : Nat → Nat → Nat} {s : Nat → Nat} (h : c_A m 26 s) : m 26 1 = s 157 := c_A_da h
theorem c_A26_co {m : Nat → Nat → Nat} {s : Nat → Nat} (h : c_A m 26 s) : ∀ i, i < s 1 → m 27 i = s (159 + i) := c_A_co h
theorem c_A26_bo {m : Nat → Nat → Nat} {s : Nat → Nat} (h : c_A m 26 s) : ∀ i, i < s 1 → m 28 i = s (165 + i) := c_A_bo h
theorem c_A26_pp {m : Nat → Nat → Nat} {s : Nat → Nat} (h : c_A m 26 s) : ∀ i, i < s 1 → m 29 i = s (171 + i) := c_A_pp h
theorem c_A26_op {m : Nat → Nat → Nat} {s : Nat → Nat} (h : c_A m 26 s) : ∀ t, t < 8 → ∀ k, k < 6 → m 30 (t * 6 + k) = s (177 + 6 * t + k) := c_A_op h
theorem c_A26_ha {m : Nat → Nat → Nat} {s : Nat → Nat} (h : c_A m 26 s) : ∀ e, e < s 3 → m 31 e = s (241 + e) := c_A_ha h
theorem c_A26_pr {m : Nat → Nat → Nat} {s : Nat → Nat} (h : c_A m 26 s) : ∀ e, e < s 3 → m 32 e = s (251 + e) := c_A_pr h
theorem c_A26_pl {m : Nat → Nat → Nat} {s : Nat → Nat} (h : c_A m 26 s) : ∀ e, e < s 3 → m 33 e = if s (241 + e) = 4294967295 then s (261 + e) - 1 else 4294967295 := c_A_pl h
theorem c_A26_pd {m : Nat → Nat → Nat} {s : Nat → Nat} (h : c_A m 26 s) : ∀ e, e < s 3 → m 34 e = if s (241 + e) = 4294967295 then s (271 + e) else 4294967295 := c_A_pd h
theorem c_A26_we {m : Nat → Nat → Nat} {s : Nat → Nat} (h : c_A m 26 s) : ∀ e, e < s 3 → m 35 e = b_b ((s 281).testBit e) := c_A_we h
theorem c_A26_so {m : Nat → Nat → Nat} {s : Nat → Nat} (h : c_A m 26 s) : ∀ e, e < s 3 → m 36 e = s (282 + e) := c_A_so h
theorem c_A26_sh {m : Nat → Nat → Nat} {s : Nat → Nat} (h : c_A m 26 s) : ∀ e, e < s 3 → s (241 + e) = 4294967295 → ∀ k, k < s 0 → m 37 (e * 6 + k) = s (292 + 6 * e + k) := c_A_sh h
theorem c_A38_da {m : Nat → Nat → Nat} {s : Nat → Nat} (h : c_A m 38 s) : m 38 1 = s 157 := c_A_da h
theorem c_A38_co {m : Nat → Nat → Nat} {s : Nat → Nat} (h : c_A m 38 s) : ∀ i, i < s 1 → m 39 i = s (159 + i) := c_A_co h
theorem c_A38_bo {m : Nat → Nat → Nat} {s : Nat → Nat} (h : c_A m 38 s) : ∀ i, i < s 1 → m 40 i = s (165 + i) := c_A_bo h
theorem c_A38_pp {m : Nat → Nat → Nat} {s : Nat → Nat} (h : c_A m 38 s) : ∀ i, i < s 1 → m 41 i = s (171 + i) := c_A_pp h
theorem c_A38_op {m : Nat → Nat → Nat} {s : Nat → Nat} (h : c_A m 38 s) : ∀ t, t < 8 → ∀ k, k < 6 → m 42 (t * 6 + k) = s (177 + 6 * t + k) := c_A_op h
theorem c_A38_ha {m : Nat → Nat → Nat} {s : Nat → Nat} (h : c_A m 38 s) : ∀ e, e < s 3 → m 43 e = s (241 + e) := c_A_ha h
theorem c_A38_pr {m : Nat → Nat → Nat} {s : Nat → Nat} (h : c_A m 38 s) : ∀ e, e < s 3 → m 44 e = s (251 + e) := c_A_pr h
theorem c_A38_pl {m : Nat → Nat → Nat} {s : Nat → Nat} (h : c_A m 38 s) : ∀ e, e < s 3 → m 45 e = if s (241 + e) = 4294967295 then s (261 + e) - 1 else 4294967295 := c_A_pl h
theorem c_A38_pd {m : Nat → Nat → Nat} {s : Nat → Nat} (h : c_A m 38 s) : ∀ e, e < s 3 → m 46 e = if s (241 + e) = 4294967295 then s (271 + e) else 4294967295 := c_A_pd h
theorem c_A38_we {m : Nat → Nat → Nat} {s : Nat → Nat} (h : c_A m 38 s) : ∀ e, e < s 3 → m 47 e = b_b ((s 281).testBit e) := c_A_we h
theorem c_A38_so {m : Nat → Nat → Nat} {s : Nat → Nat} (h : c_A m 38 s) : ∀ e, e < s 3 → m 48 e = s (282 + e) := c_A_so h
theorem c_A38_sh {m : Nat → Nat → Nat} {s : Nat → Nat} (h : c_A m 38 s) : ∀ e, e < s 3 → s (241 + e) = 4294967295 → ∀ k, k < s 0 → m 49 (e * 6 + k) = s (292 + 6 * e + k) := c_A_sh h
