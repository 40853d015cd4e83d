/-! WHAT DEEDS AND DAYS KEEP -/
theorem i_S_ext {s r : Nat → Nat} (h : ∀ i, i < 157 → r i = s i) (hS : i_S s) : i_S r := by
  have e0 := h 0 (by decide)
  have e1 := h 1 (by decide)
  have e2 := h 2 (by decide)
  have e3 := h 3 (by decide)
  have e4 := h 4 (by decide)
  have hT := i_S_T hS
  have hE := i_S_E hS
  unfold i_S
  rw [e0, e1, e2, e3, e4]
  refine ⟨i_S_K hS, i_S_M hS, hT, hE, i_S_U hS, ?_, ?_, ?_, ?_, ?_, ?_, ?_, ?_, ?_, ?_, ?_⟩
  · intro i hi; rw [h _ (by omega)]; exact i_S_ct hS i hi
  · intro i h1 hi; rw [h _ (by omega)]; exact i_S_cz hS i h1 hi
  · intro t ht; rw [h _ (by omega)]; exact i_S_wh hS t ht
  · intro t ht k hk; rw [h _ (by omega)]; exact i_S_ot hS t ht k hk
  · intro t ht k h1 hk; rw [h _ (by omega)]; exact i_S_otk hS t ht k h1 hk
  · intro t h1 ht k hk; rw [h _ (by omega)]; exact i_S_ott hS t h1 ht k hk
  · intro e he; rw [h _ (by omega)]; exact i_S_ht hS e he
  · intro e he; rw [h _ (by omega)]; exact i_S_pt hS e he
  · intro e he k hk; rw [h _ (by omega)]; exact i_S_cl hS e he k hk
  · intro e he k h1 hk; rw [h _ (by omega)]; exact i_S_clk hS e he k h1 hk
  · intro e he; rw [h _ (by omega)]; exact i_S_fd hS e he
theorem z_sum_upd {g : Nat → Nat} {k x : Nat} : ∀ n, k < n → z_sum (b_s g k x) n + g k = z_sum g n + x
  | 0, h => by omega
  | n + 1, h => by
    unfold z_sum
    by_cases e : k = n
    · subst e
      rw [b_ss, z_sum_congr (g := b_s g k x) (k := g) k (fun i hi => b_sn (show i ≠ k by omega))]
      omega
    · have := z_sum_upd (g := g) (k := k) (x := x) n (by omega)
      rw [b_sn (show n ≠ k by omega)]
      omega
theorem z_sum_updf {g r : Nat → Nat} {n k : Nat} (hk : k < n) (h : ∀ i, i < n → i ≠ k → r i = g i) : z_sum r n + g k = z_sum g n + r k := by
  rw [← z_sum_upd (g := g) (k := k) (x := r k) n hk]
  congr 1
  apply z_sum_congr
  intro i hi
  by_cases e : i = k
  · subst e; rw [b_ss]
  · rw [b_sn e, h i hi e]
/-! buying -/
theorem w_buys_lo {s : Nat → Nat} {q e i : Nat} (hi : i < 159 ∨ (171 ≤ i ∧ i < 241) ∨ (251 ≤ i ∧ i < 282) ∨ 292 ≤ i) (hq : q < 6) (he : e < 10) (hh : s (241 + e) < 6) : w_buys s q e i = s i := by
  unfold w_buys
  simp (disch := omega) only [b_sn]
theorem w_buys_ha {s : Nat → Nat} {q e : Nat} (hq : q < 6) (he : e < 10) : w_buys s q e (241 + e) = q := by
  unfold w_buys
  simp (disch := omega) only [b_sn, b_ss]
theorem w_buys_hn {s : Nat → Nat} {q e i : Nat} (hq : q < 6) (hh : s (241 + e) < 6) (he : e < 10) (hi : i < 10) (h : i ≠ e) : w_buys s q e (241 + i) = s (241 + i) := by
  unfold w_buys
  simp (disch := omega) only [b_sn, b_ss]
theorem i_D_buys {s : Nat → Nat} (hS : i_S s) (hI : i_D s) {q e : Nat} (hq : q < s 1) (he : e < s 3) (hw : w_whyBuy s q e = 0) : i_D (w_buys s q e) := by
  have hE := i_S_E hS
  have hM := i_S_M hS
  have hT := i_S_T hS
  obtain ⟨h1, h2, h3⟩ := w_whyBuy0 hI hq he hw
  have u : ∀ i, (i < 159 ∨ (171 ≤ i ∧ i < 241) ∨ (251 ≤ i ∧ i < 282) ∨ 292 ≤ i) → w_buys s q e i = s i := fun i hi => w_buys_lo hi (by omega) (by omega) (by omega)
  have ue : w_buys s q e (241 + e) = q := w_buys_ha (by omega) (by omega)
  have un : ∀ i, i < 10 → i ≠ e → w_buys s q e (241 + i) = s (241 + i) := fun i hi hne => w_buys_hn (by omega) (by omega) (by omega) hi hne
  have uc : ∀ i, i < 6 → i ≠ q → i ≠ s (241 + e) → w_buys s q e (159 + i) = s (159 + i) := by
    intro i hi n1 n2
    unfold w_buys
    simp (disch := omega) only [b_sn]
  have uq : w_buys s q e (159 + q) = s (159 + q) - s (251 + e) := by
    unfold w_buys
    simp (disch := omega) only [b_sn, b_ss]
  have uh : w_buys s q e (159 + s (241 + e)) = s (159 + s (241 + e)) + s (251 + e) := by
    unfold w_buys
    simp (disch := omega) only [b_sn, b_ss]
  have ne : s (241 + e) ≠ 4294967295 := by omega
  have e0 := u 0 (by omega)
  have e1 := u 1 (by omega)
  have e2 := u 2 (by omega)
  have e3 := u 3 (by omega)
  have e5 := u 157 (by omega)
  have e6 := u 281 (by omega)
  have e7 := u 158 (by omega)
  unfold i_D
  rw [e0, e1, e2, e3, e5, e6, e7]
  refine ⟨i_D_da hI, ?_, ?_, ?_, ?_, ?_, ?_, ?_, ?_, ?_, ?_, i_D_we hI, ?_, ?_, ?_, ?_, ?_, ?_, i_D_dk hI⟩
  · have h4 := i_D_co hI
    have h5 := z_sum_updf (g := fun i => s (159 + i)) (r := b_s (fun i => s (159 + i)) q (s (159 + q) - s (251 + e))) (n := 6) (k := q) (by omega) (fun i hi hne => b_sn hne)
    have h6 := z_sum_updf (g := b_s (fun i => s (159 + i)) q (s (159 + q) - s (251 + e))) (r := fun i => w_buys s q e (159 + i)) (n := 6) (k := s (241 + e)) (by omega) (fun i hi hne => by
      by_cases hiq : i = q
      · subst hiq; rw [b_ss]; exact uq
      · rw [b_sn hiq]; exact uc i hi hiq hne)
    simp only [b_ss, b_sn h2, uh] at h5 h6
    omega
  · intro i hi h6
    rw [uc i h6 (by omega) (by omega)]
    exact i_D_coz hI i hi h6
  · intro t ht k hk; rw [u _ (by omega)]; exact i_D_op hI t ht k hk
  · intro t ht k h4 hk; rw [u _ (by omega)]; exact i_D_opk hI t ht k h4 hk
  · intro t h4 ht k hk; rw [u _ (by omega)]; exact i_D_opt hI t h4 ht k hk
  · intro i hi
    by_cases c : i = e
    · subst c; rw [ue]; exact Or.inr hq
    · rw [un i (by omega) c]; exact i_D_ha hI i hi
  · intro i hi; rw [u _ (by omega)]; exact i_D_pr hI i hi
  · intro i hi; rw [u _ (by omega)]; exact i_D_pu hI i hi
  · intro i hi
    rw [u _ (by omega)]
    by_cases c : i = e
    · subst c
      rw [ue]
      have := (i_D_pz hI i hi).mpr ne
      exact ⟨fun _ => by omega, fun _ => this⟩
    · rw [un i (by omega) c]; exact i_D_pz hI i hi
  · intro i hi h4
    by_cases c : i = e
    · subst c; rw [ue] at h4; omega
    · rw [un i (by omega) c] at h4; rw [u _ (by omega)]; exact i_D_po hI i hi h4
  · intro i h4
    obtain ⟨g1, g2, g3⟩ := i_D_wp hI i h4
    by_cases c : i = e
    · subst c; exact absurd g2 ne
    · rw [un i (by omega) c, u _ (by omega)]; exact ⟨g1, g2, g3⟩
  · intro i hi h4
    by_cases c : i = e
    · subst c; rw [ue] at h4; omega
    · rw [un i (by omega) c] at h4; rw [u _ (by omega), u _ (by omega)]; exact i_D_wa hI i hi h4
  · intro i hi k hk; rw [u _ (by omega)]; exact i_D_sh hI i hi k hk
  · intro i hi k h4 hk; rw [u _ (by omega)]; exact i_D_shk hI i hi k h4 hk
  · intro t ht
    rw [u _ (by omega), i_D_pg hI t ht]
    exact z_sum_congr _ (fun i hi => by rw [u _ (by omega)])
  · intro t ht
    rw [u _ (by omega), i_D_wo hI t ht]
    exact z_sum_congr _ (fun i hi => by rw [u _ (by omega)])
/-! putting -/
theorem w_puts_lo {s : Nat → Nat} {q e t i : Nat} (hi : i < 171 ∨ (233 ≤ i ∧ i < 241) ∨ (251 ≤ i ∧ i < 261) ∨ (281 ≤ i ∧ i < 292) ∨ 352 ≤ i) (hq : q < 6) (he : e < 10) (ht : t < 8) : w_puts s q e t i = s i := by
  unfold w_puts w_putn
  simp (disch := omega) only [b_sn, b_rgo]
theorem w_puts_op {s : Nat → Nat} {q e t k : Nat} (hq : q < 6) (he : e < 10) (ht : t < 8) (hk : k < 6) : w_puts s q e t (177 + 6 * t + k) = s (177 + 6 * t + k) - min (s (177 + 6 * t + k)) (s (87 + 6 * e + k)) := by
  unfold w_puts w_putn
  simp (disch := omega) only [b_sn, b_rgo, b_rgk]
theorem w_puts_on {s : Nat → Nat} {q e t u k : Nat} (hq : q < 6) (he : e < 10) (ht : t < 8) (hu : u < 8) (hk : k < 6) (h : u ≠ t) : w_puts s q e t (177 + 6 * u + k) = s (177 + 6 * u + k) := by
  unfold w_puts w_putn
  simp (disch := omega) only [b_sn, b_rgo, b_rgk]
theorem w_puts_sh {s : Nat → Nat} {q e t k : Nat} (hq : q < 6) (he : e < 10) (ht : t < 8) (hk : k < 6) : w_puts s q e t (292 + 6 * e + k) = min (s (177 + 6 * t + k)) (s (87 + 6 * e + k)) := by
  unfold w_puts w_putn
  simp (disch := omega) only [b_sn, b_rgo, b_rgk]
theorem w_puts_sn {s : Nat → Nat} {q e t i k : Nat} (hq : q < 6) (he : e < 10) (ht : t < 8) (hi : i < 10) (hk : k < 6) (h : i ≠ e) : w_puts s q e t (292 + 6 * i + k) = s (292 + 6 * i + k) := by
  unfold w_puts w_putn
  simp (disch := omega) only [b_sn, b_rgo, b_rgk]
theorem w_puts_e {s : Nat → Nat} {q e t : Nat} (hq : q < 6) (he : e < 10) (ht : t < 8) : w_puts s q e t (241 + e) = 4294967295 ∧ w_puts s q e t (261 + e) = t + 1 ∧ w_puts s q e t (271 + e) = s 157 := by
  unfold w_puts w_putn
  simp (disch := omega) only [b_sn, b_ss, and_self]
theorem w_puts_n {s : Nat → Nat} {q e t i : Nat} (hq : q < 6) (he : e < 10) (ht : t < 8) (hi : i < 10) (h : i ≠ e) : w_puts s q e t (241 + i) = s (241 + i) ∧ w_puts s q e t (261 + i) = s (261 + i) ∧ w_puts s q e t (271 + i) = s (271 + i) := by
  unfold w_puts w_putn
  simp (disch := omega) only [b_sn, b_ss, b_rgo, and_self]
theorem w_puts_pg {s : Nat → Nat} {q e t : Nat} (hq : q < 6) (he : e < 10) (ht : t < 8) : w_puts s q e t (225 + t) = s (225 + t) + 1 := by
  unfold w_puts w_putn
  simp (disch := omega) only [b_sn, b_ss]
theorem w_puts_pn {s : Nat → Nat} {q e t u : Nat} (hq : q < 6) (he : e < 10) (ht : t < 8) (hu : u < 8) (h : u ≠ t) : w_puts s q e t (225 + u) = s (225 + u) := by
  unfold w_puts w_putn
  simp (disch := omega) only [b_sn, b_ss, b_rgo]
theorem w_puts_qq {s : Nat → Nat} {q e t : Nat} : w_puts s q e t (171 + q) = s (171 + q) + 1 := by
  unfold w_puts w_putn
  simp (disch := omega) only [b_ss]
theorem w_puts_qn {s : Nat → Nat} {q e t i : Nat} (hi : i < 6) (he : e < 10) (ht : t < 8) (h : i ≠ q) : w_puts s q e t (171 + i) = s (171 + i) := by
  unfold w_puts w_putn
  simp (disch := omega) only [b_sn, b_ss, b_rgo]
theorem w_whyPut0 {s : Nat → Nat} {q e t : Nat} (hw : w_whyPut s q e t = 0) : s (241 + e) = q ∧ s (11 + t) = q ∧ w_fitsRow s e (177 + 6 * t) = true ∧ s (241 + e) ≠ 4294967295 := by
  unfold w_whyPut at hw
  by_cases c1 : s (241 + e) = 4294967295
  · rw [if_pos c1] at hw; cases hw
  · rw [if_neg c1] at hw
    by_cases c2 : s (241 + e) = q ∧ s (11 + t) = q
    · rw [if_pos c2] at hw
      by_cases c3 : w_fitsRow s e (177 + 6 * t) = true
      · exact ⟨c2.1, c2.2, c3, c1⟩
      · rw [if_neg c3] at hw; cases hw
    · rw [if_neg c2] at hw; cases hw
theorem i_D_puts {s : Nat → Nat} (hS : i_S s) (hI : i_D s) {q e t : Nat} (hq : q < s 1) (he : e < s 3) (ht : t < s 2) (ne : s (241 + e) ≠ 4294967295) : i_D (w_puts s q e t) := by
  have hE := i_S_E hS
  have hM := i_S_M hS
  have hT := i_S_T hS
  have u : ∀ i, (i < 171 ∨ (233 ≤ i ∧ i < 241) ∨ (251 ≤ i ∧ i < 261) ∨ (281 ≤ i ∧ i < 292) ∨ 352 ≤ i) → w_puts s q e t i = s i := fun i hi => w_puts_lo hi (by omega) (by omega) (by omega)
  obtain ⟨ue1, ue2, ue3⟩ := w_puts_e (s := s) (q := q) (e := e) (t := t) (by omega) (by omega) (by omega)
  have un : ∀ i, i < 10 → i ≠ e → w_puts s q e t (241 + i) = s (241 + i) ∧ w_puts s q e t (261 + i) = s (261 + i) ∧ w_puts s q e t (271 + i) = s (271 + i) := fun i hi hne => w_puts_n (by omega) (by omega) (by omega) hi hne
  have bf : (s 281).testBit e = false := by
    cases hb : (s 281).testBit e with
    | false => rfl
    | true => exact absurd (i_D_wp hI e hb).2.1 ne
  have z0 : s (261 + e) = 0 := (i_D_pz hI e he).mpr ne
  have e0 := u 0 (by omega)
  have e1 := u 1 (by omega)
  have e2 := u 2 (by omega)
  have e3 := u 3 (by omega)
  have e5 := u 157 (by omega)
  have e6 := u 281 (by omega)
  have e7 := u 158 (by omega)
  unfold i_D
  rw [e0, e1, e2, e3, e5, e6, e7]
  refine ⟨i_D_da hI, ?_, ?_, ?_, ?_, ?_, ?_, ?_, ?_, ?_, ?_, i_D_we hI, ?_, ?_, ?_, ?_, ?_, ?_, i_D_dk hI⟩
  · rw [z_sum_congr _ (fun i hi => u (159 + i) (by omega))]
    exact i_D_co hI
  · intro i hi h6; rw [u _ (by omega)]; exact i_D_coz hI i hi h6
  · intro v hv k hk
    by_cases c : v = t
    · subst c
      rw [w_puts_op (by omega) (by omega) (by omega) hk]
      have := i_D_op hI v hv k hk
      omega
    · rw [w_puts_on (by omega) (by omega) (by omega) hv hk c]
      exact i_D_op hI v hv k hk
  · intro v hv k h4 hk
    by_cases c : v = t
    · subst c
      rw [w_puts_op (by omega) (by omega) (by omega) hk]
      have := i_D_opk hI v hv k h4 hk
      omega
    · rw [w_puts_on (by omega) (by omega) (by omega) hv hk c]
      exact i_D_opk hI v hv k h4 hk
  · intro v h4 hv k hk
    rw [w_puts_on (by omega) (by omega) (by omega) hv hk (by omega)]
    exact i_D_opt hI v h4 hv k hk
  · intro i hi
    by_cases c : i = e
    · subst c; exact Or.inl ue1
    · rw [(un i (by omega) c).1]; exact i_D_ha hI i hi
  · intro i hi; rw [u _ (by omega)]; exact i_D_pr hI i hi
  · intro i hi
    by_cases c : i = e
    · subst c; rw [ue2]; omega
    · rw [(un i (by omega) c).2.1]; exact i_D_pu hI i hi
  · intro i hi
    by_cases c : i = e
    · subst c; rw [ue1, ue2]; exact ⟨fun h => by omega, fun h => absurd rfl h⟩
    · rw [(un i (by omega) c).1, (un i (by omega) c).2.1]; exact i_D_pz hI i hi
  · intro i hi h4
    by_cases c : i = e
    · subst c; rw [ue3]; exact Nat.le_refl _
    · rw [(un i (by omega) c).1] at h4; rw [(un i (by omega) c).2.2]; exact i_D_po hI i hi h4
  · intro i h4
    obtain ⟨g1, g2, g3⟩ := i_D_wp hI i h4
    by_cases c : i = e
    · subst c; exact absurd g2 ne
    · rw [(un i (by omega) c).1, u _ (by omega)]; exact ⟨g1, g2, g3⟩
  · intro i hi h4 h5 h6
    rw [u (147 + i) (by omega)] at h5 ⊢
    by_cases c : i = e
    · subst c; rw [ue3]; omega
    · rw [(un i (by omega) c).1] at h4; rw [(un i (by omega) c).2.2]; exact i_D_wa hI i hi h4 h5 h6
  · intro i hi k hk
    by_cases c : i = e
    · subst c
      rw [w_puts_sh (by omega) (by omega) (by omega) hk]
      have := i_S_cl hS i hi k hk
      omega
    · rw [w_puts_sn (by omega) (by omega) (by omega) hi hk c]; exact i_D_sh hI i hi k hk
  · intro i hi k h4 hk
    by_cases c : i = e
    · subst c
      rw [w_puts_sh (by omega) (by omega) (by omega) hk]
      have := i_S_clk hS i hi k h4 hk
      omega
    · rw [w_puts_sn (by omega) (by omega) (by omega) hi hk c]; exact i_D_shk hI i hi k h4 hk
  · intro v hv
    have h5 := z_sum_updf (g := fun i => if s (261 + i) = v + 1 then 1 else 0) (r := fun i => if w_puts s q e t (261 + i) = v + 1 then 1 else 0) he (fun i hi hne => by
      simp only [(un i (by omega) hne).2.1])
    simp only [ue2, z0] at h5
    rw [if_neg (by omega)] at h5
    have h6 := i_D_pg hI v hv
    by_cases c : v = t
    · subst c
      rw [w_puts_pg (by omega) (by omega) (by omega)]
      rw [if_pos rfl] at h5
      omega
    · rw [w_puts_pn (by omega) (by omega) (by omega) (by omega) c]
      rw [if_neg (by omega)] at h5
      omega
  · intro v hv
    rw [u _ (by omega), i_D_wo hI v hv]
    apply z_sum_congr
    intro i hi
    by_cases c : i = e
    · subst c
      rw [bf, z0, ue2]
      simp [b_b]
    · rw [(un i (by omega) c).2.1]
/-! going on in the dark -/
section DARK
variable {s : Nat → Nat} {e t : Nat}
theorem w_dark_lo {i : Nat} (hp : s (261 + e) = t + 1) (ht : t < 8) (hi : i < 158 ∨ (159 ≤ i ∧ i < 177) ∨ (225 ≤ i ∧ i < 233) ∨ (241 ≤ i ∧ i < 281) ∨ 282 ≤ i) : w_dark s e i = s i := by
  unfold w_dark
  rw [hp, Nat.add_sub_cancel]
  simp (disch := omega) only [b_sn, b_rgo]
theorem w_dark_op {k : Nat} (hp : s (261 + e) = t + 1) (ht : t < 8) (hk : k < 6) : w_dark s e (177 + 6 * t + k) = min 99 (s (177 + 6 * t + k) + s (292 + 6 * e + k)) := by
  unfold w_dark
  rw [hp, Nat.add_sub_cancel]
  simp (disch := omega) only [b_sn, b_rgo, b_rgk]
theorem w_dark_on {u k : Nat} (hp : s (261 + e) = t + 1) (ht : t < 8) (hu : u < 8) (hk : k < 6) (h : u ≠ t) : w_dark s e (177 + 6 * u + k) = s (177 + 6 * u + k) := by
  unfold w_dark
  rw [hp, Nat.add_sub_cancel]
  simp (disch := omega) only [b_sn, b_rgo]
theorem w_dark_we (hp : s (261 + e) = t + 1) (ht : t < 8) : w_dark s e 281 = s 281 ||| 2 ^ e := by
  unfold w_dark
  rw [hp, Nat.add_sub_cancel]
  simp (disch := omega) only [b_sn, b_ss]
theorem w_dark_dk : w_dark s e 158 = s 158 + 1 := by
  unfold w_dark
  simp (disch := omega) only [b_ss]
theorem w_dark_wo (hp : s (261 + e) = t + 1) (ht : t < 8) : w_dark s e (233 + t) = s (233 + t) + 1 := by
  unfold w_dark
  rw [hp, Nat.add_sub_cancel]
  simp (disch := omega) only [b_sn, b_ss]
theorem w_dark_wn {u : Nat} (hp : s (261 + e) = t + 1) (ht : t < 8) (hu : u < 8) (h : u ≠ t) : w_dark s e (233 + u) = s (233 + u) := by
  unfold w_dark
  rw [hp, Nat.add_sub_cancel]
  simp (disch := omega) only [b_sn, b_ss, b_rgo]
theorem z_or_bt {S e i : Nat} : (S ||| 2 ^ e).testBit i = (S.testBit i || decide (e = i)) := by
  rw [Nat.testBit_or, Nat.testBit_two_pow]
theorem i_place {s : Nat → Nat} (hS : i_S s) (hI : i_D s) {e : Nat} (he : e < s 3) (hp : s (241 + e) = 4294967295) : ∃ t, t < s 2 ∧ t < 8 ∧ s (261 + e) = t + 1 := by
  have hT := i_S_T hS
  have h1 := i_D_pu hI e he
  have h2 : s (261 + e) ≠ 0 := fun h => ((i_D_pz hI e he).mp h) hp
  exact ⟨s (261 + e) - 1, by omega, by omega, by omega⟩
theorem i_D_dark (hS : i_S s) (hI : i_D s) (he : e < s 3) (hput : s (241 + e) = 4294967295) (hf : 0 < s (147 + e)) (hb : (s 281).testBit e = false) : i_D (w_dark s e) := by
  have hE := i_S_E hS
  have hM := i_S_M hS
  have hT := i_S_T hS
  obtain ⟨t, ht, ht8, hp⟩ := i_place hS hI he hput
  have u : ∀ i, (i < 158 ∨ (159 ≤ i ∧ i < 177) ∨ (225 ≤ i ∧ i < 233) ∨ (241 ≤ i ∧ i < 281) ∨ 282 ≤ i) → w_dark s e i = s i := fun i hi => w_dark_lo hp ht8 hi
  have e0 := u 0 (by omega)
  have e1 := u 1 (by omega)
  have e2 := u 2 (by omega)
  have e3 := u 3 (by omega)
  have e5 := u 157 (by omega)
  unfold i_D
  rw [e0, e1, e2, e3, e5, w_dark_we hp ht8, w_dark_dk]
  refine ⟨i_D_da hI, ?_, ?_, ?_, ?_, ?_, ?_, ?_, ?_, ?_, ?_, ?_, ?_, ?_, ?_, ?_, ?_, ?_, ?_⟩
  · rw [z_sum_congr _ (fun i hi => u (159 + i) (by omega))]
    exact i_D_co hI
  · intro i hi h6; rw [u _ (by omega)]; exact i_D_coz hI i hi h6
  · intro v hv k hk
    by_cases c : v = t
    · subst c; rw [w_dark_op hp ht8 hk]; omega
    · rw [w_dark_on hp ht8 hv hk c]; exact i_D_op hI v hv k hk
  · intro v hv k h4 hk
    by_cases c : v = t
    · subst c
      rw [w_dark_op hp ht8 hk, i_D_opk hI v hv k h4 hk, i_D_shk hI e (by omega) k h4 hk]
      omega
    · rw [w_dark_on hp ht8 hv hk c]; exact i_D_opk hI v hv k h4 hk
  · intro v h4 hv k hk
    rw [w_dark_on hp ht8 hv hk (by omega)]
    exact i_D_opt hI v h4 hv k hk
  · intro i hi; rw [u _ (by omega)]; exact i_D_ha hI i hi
  · intro i hi; rw [u _ (by omega)]; exact i_D_pr hI i hi
  · intro i hi; rw [u _ (by omega)]; exact i_D_pu hI i hi
  · intro i hi; rw [u _ (by omega), u _ (by omega)]; exact i_D_pz hI i hi
  · intro i hi; rw [u _ (by omega), u _ (by omega)]; exact i_D_po hI i hi
  · exact Nat.or_lt_two_pow (n := 10) (i_D_we hI) (Nat.lt_of_lt_of_le (Nat.pow_lt_pow_right (by decide) (show e < 10 by omega)) (by decide))
  · intro i h4
    rw [z_or_bt, Bool.or_eq_true, decide_eq_true_eq] at h4
    rcases h4 with h4 | h4
    · obtain ⟨g1, g2, g3⟩ := i_D_wp hI i h4
      rw [u _ (by omega), u _ (by omega)]
      exact ⟨g1, g2, g3⟩
    · subst h4
      rw [u _ (by omega), u _ (by omega)]
      exact ⟨he, hput, hf⟩
  · intro i hi h4 h5 h6
    rw [u _ (by omega)] at h4
    rw [u _ (by omega)] at h5
    rw [z_or_bt, Bool.or_eq_false_iff] at h6
    rw [u (271 + i) (by omega), u (147 + i) (by omega)]
    exact i_D_wa hI i hi h4 h5 h6.1
  · intro i hi k hk; rw [u _ (by omega)]; exact i_D_sh hI i hi k hk
  · intro i hi k h4 hk; rw [u _ (by omega)]; exact i_D_shk hI i hi k h4 hk
  · intro v hv
    rw [u _ (by omega), i_D_pg hI v hv]
    exact z_sum_congr _ (fun i hi => by rw [u _ (by omega)])
  · intro v hv
    have h5 := z_sum_updf (g := fun i => if s (261 + i) = v + 1 then b_b ((s 281).testBit i) else 0) (r := fun i => if w_dark s e (261 + i) = v + 1 then b_b ((s 281 ||| 2 ^ e).testBit i) else 0) he (fun i hi hne => by
      simp only [u (261 + i) (by omega), z_or_bt, decide_eq_false (show ¬ e = i by omega), Bool.or_false])
    simp only [u (261 + e) (by omega), hp, z_or_bt, hb] at h5
    have h6 := i_D_wo hI v hv
    by_cases c : v = t
    · subst c
      rw [w_dark_wo hp ht8]
      simp only [if_true, decide_true, Bool.or_true, b_bt, b_bf] at h5
      simp only [z_or_bt]
      omega
    · rw [w_dark_wn hp ht8 (by omega) c]
      rw [if_neg (by omega), if_neg (by omega)] at h5
      simp only [z_or_bt]
      omega
  · have h5 := z_sum_updf (g := fun i => b_b ((s 281).testBit i)) (r := fun i => b_b ((s 281 ||| 2 ^ e).testBit i)) he (fun i hi hne => by
      simp only [z_or_bt, decide_eq_false (show ¬ e = i by omega), Bool.or_false])
    simp only [z_or_bt, hb, decide_true, Bool.or_true, b_bt, b_bf] at h5
    have h6 := i_D_dk hI
    simp only [z_or_bt]
    omega
end DARK
/-! a day -/
def w_price (s : Nat → Nat) (e : Nat) : Nat → Nat := b_s s (251 + e) (s (251 + e) - s 4)
theorem i_D_price {s : Nat → Nat} {e : Nat} (hS : i_S s) (hI : i_D s) (he : e < s 3) : i_D (w_price s e) := by
  have hE := i_S_E hS
  have hM := i_S_M hS
  have hT := i_S_T hS
  have u : ∀ i, (i < 251 ∨ 261 ≤ i) → w_price s e i = s i := fun i hi => b_sn (by omega)
  have e0 := u 0 (by omega)
  have e1 := u 1 (by omega)
  have e2 := u 2 (by omega)
  have e3 := u 3 (by omega)
  have e5 := u 157 (by omega)
  have e6 := u 281 (by omega)
  have e7 := u 158 (by omega)
  unfold i_D
  rw [e0, e1, e2, e3, e5, e6, e7]
  refine ⟨i_D_da hI, ?_, ?_, ?_, ?_, ?_, ?_, ?_, ?_, ?_, ?_, i_D_we hI, ?_, ?_, ?_, ?_, ?_, ?_, i_D_dk hI⟩
  · rw [z_sum_congr _ (fun i hi => u (159 + i) (by omega))]
    exact i_D_co hI
  · intro i hi h6; rw [u _ (by omega)]; exact i_D_coz hI i hi h6
  · intro t ht k hk; rw [u _ (by omega)]; exact i_D_op hI t ht k hk
  · intro t ht k h4 hk; rw [u _ (by omega)]; exact i_D_opk hI t ht k h4 hk
  · intro t h4 ht k hk; rw [u _ (by omega)]; exact i_D_opt hI t h4 ht k hk
  · intro i hi; rw [u _ (by omega)]; exact i_D_ha hI i hi
  · intro i hi
    have := i_D_pr hI i hi
    unfold w_price
    by_cases c : i = e
    · subst c; rw [b_ss]; omega
    · rw [b_sn (by omega)]; exact this
  · intro i hi; rw [u _ (by omega)]; exact i_D_pu hI i hi
  · intro i hi; rw [u _ (by omega), u _ (by omega)]; exact i_D_pz hI i hi
  · intro i hi; rw [u _ (by omega), u _ (by omega)]; exact i_D_po hI i hi
  · intro i h4
    obtain ⟨g1, g2, g3⟩ := i_D_wp hI i h4
    rw [u _ (by omega), u _ (by omega)]
    exact ⟨g1, g2, g3⟩
  · intro i hi; rw [u (241 + i) (by omega), u (147 + i) (by omega), u (271 + i) (by omega)]; exact i_D_wa hI i hi
  · intro i hi k hk; rw [u _ (by omega)]; exact i_D_sh hI i hi k hk
  · intro i hi k h4 hk; rw [u _ (by omega)]; exact i_D_shk hI i hi k h4 hk
  · intro t ht
    rw [u _ (by omega), i_D_pg hI t ht]
    exact z_sum_congr _ (fun i hi => by rw [u _ (by omega)])
  · intro t ht
    rw [u _ (by omega), i_D_wo hI t ht]
    exact z_sum_congr _ (fun i hi => by rw [u _ (by omega)])
def w_dstep (s : Nat → Nat) (e : Nat) : Nat → Nat := if s (241 + e) = 4294967295 then (if 0 < s (147 + e) ∧ (s 281).testBit e = false ∧ s 157 + 1 = s (271 + e) + s (147 + e) then w_dark s e else s) else if nI (s (282 + e)) = 0 then w_price s e else s
def w_dloop (s : Nat → Nat) : Nat → (Nat → Nat)
  | 0 => s
  | n + 1 => w_dstep (w_dloop s n) n
def w_day (s : Nat → Nat) : Nat → Nat := b_s (w_dloop s (s 3)) 157 (s 157 + 1)
theorem w_dstep_lo {s : Nat → Nat} (hS : i_S s) (hI : i_D s) {e : Nat} (he : e < s 3) {i : Nat} (hi : i < 158 ∨ (159 ≤ i ∧ i < 177) ∨ (225 ≤ i ∧ i < 233) ∨ (241 ≤ i ∧ i < 251) ∨ (261 ≤ i ∧ i < 281) ∨ 282 ≤ i) : w_dstep s e i = s i := by
  have hE := i_S_E hS
  unfold w_dstep
  split
  · rename_i h
    obtain ⟨t, ht, ht8, hp⟩ := i_place hS hI he h
    split
    · exact w_dark_lo hp ht8 (by omega)
    · rfl
  · split
    · exact b_sn (by omega)
    · rfl
theorem w_dstep_D {s : Nat → Nat} (hS : i_S s) (hI : i_D s) {e : Nat} (he : e < s 3) : i_D (w_dstep s e) := by
  unfold w_dstep
  split
  · rename_i h
    split
    · rename_i h2; exact i_D_dark hS hI he h h2.1 h2.2.1
    · exact hI
  · split
    · exact i_D_price hS hI he
    · exact hI
theorem w_dloop_ok {s : Nat → Nat} (hS : i_S s) (hI : i_D s) : ∀ n, n ≤ s 3 → i_D (w_dloop s n) ∧ i_S (w_dloop s n) ∧ (∀ i, (i < 158 ∨ (159 ≤ i ∧ i < 177) ∨ (225 ≤ i ∧ i < 233) ∨ (241 ≤ i ∧ i < 251) ∨ (261 ≤ i ∧ i < 281) ∨ 282 ≤ i) → w_dloop s n i = s i) ∧ (∀ e, e < n → s (241 + e) = 4294967295 → 0 < s (147 + e) → ((w_dloop s n) 281).testBit e = false → s 157 + 1 < s (271 + e) + s (147 + e))
  | 0, _ => ⟨hI, hS, fun _ _ => rfl, fun _ h => by omega⟩
  | n + 1, hn => by
    obtain ⟨h1, h2, h3, h4⟩ := w_dloop_ok hS hI n (by omega)
    have e3 := h3 3 (by omega)
    have hE := i_S_E hS
    have g3 : ∀ i, (i < 158 ∨ (159 ≤ i ∧ i < 177) ∨ (225 ≤ i ∧ i < 233) ∨ (241 ≤ i ∧ i < 251) ∨ (261 ≤ i ∧ i < 281) ∨ 282 ≤ i) → w_dloop s (n + 1) i = s i := fun i hi => by
      show w_dstep (w_dloop s n) n i = s i
      rw [w_dstep_lo h2 h1 (by omega) hi, h3 i hi]
    have g1 : i_D (w_dloop s (n + 1)) := w_dstep_D h2 h1 (by omega)
    refine ⟨g1, i_S_ext (fun i hi => g3 i (by omega)) hS, g3, ?_⟩
    intro e he p1 p2 p3
    have q1 := i_D_wa g1 e (by rw [g3 3 (by omega)]; omega) (by rw [g3 _ (by omega)]; exact p1) (by rw [g3 _ (by omega)]; exact p2) p3
    rw [g3 157 (by omega), g3 (271 + e) (by omega), g3 (147 + e) (by omega)] at q1
    by_cases c : e = n
    · subst c
      refine Nat.lt_of_le_of_ne q1 ?_
      intro q2
      have r1 : w_dloop s (e + 1) = w_dark (w_dloop s e) e := by
        show w_dstep (w_dloop s e) e = _
        unfold w_dstep
        rw [if_pos (by rw [h3 _ (by omega)]; exact p1)]
        refine if_pos ⟨by rw [h3 _ (by omega)]; exact p2, ?_, by rw [h3 157 (by omega), h3 (271 + e) (by omega), h3 (147 + e) (by omega)]; exact q2⟩
        cases hb : ((w_dloop s e) 281).testBit e with
        | false => rfl
        | true =>
          exfalso
          have r2 : ((w_dloop s (e + 1)) 281).testBit e = true := by
            show ((w_dstep (w_dloop s e) e) 281).testBit e = true
            unfold w_dstep
            rw [if_pos (by rw [h3 _ (by omega)]; exact p1), if_neg (by rw [hb]; simp)]
            exact hb
          rw [r2] at p3
          cases p3
      obtain ⟨t, ht, ht8, hp⟩ := i_place h2 h1 (e := e) (by omega) (by rw [h3 _ (by omega)]; exact p1)
      rw [r1, w_dark_we hp ht8, z_or_bt] at p3
      simp at p3
    · refine h4 e (by omega) p1 p2 ?_
      cases hb : ((w_dloop s n) 281).testBit e with
      | false => rfl
      | true =>
        exfalso
        have r2 : ((w_dloop s (n + 1)) 281).testBit e = true := by
          show ((w_dstep (w_dloop s n) n) 281).testBit e = true
          unfold w_dstep
          split
          · rename_i h
            obtain ⟨t, ht, ht8, hp⟩ := i_place h2 h1 (e := n) (by omega) h
            split
            · rw [w_dark_we hp ht8, z_or_bt, hb]; rfl
            · exact hb
          · split
            · unfold w_price; rw [b_sn (by omega)]; exact hb
            · exact hb
        rw [r2] at p3
        cases p3
theorem w_day_lo {s : Nat → Nat} (hS : i_S s) (hI : i_D s) {i : Nat} (hi : i < 157 ∨ (159 ≤ i ∧ i < 177) ∨ (225 ≤ i ∧ i < 233) ∨ (241 ≤ i ∧ i < 251) ∨ (261 ≤ i ∧ i < 281) ∨ 282 ≤ i) : w_day s i = s i := by
  obtain ⟨h1, h2, h3, h4⟩ := w_dloop_ok hS hI (s 3) (Nat.le_refl _)
  unfold w_day
  rw [b_sn (by omega), h3 i (by omega)]
theorem w_day_S {s : Nat → Nat} (hS : i_S s) (hI : i_D s) : i_S (w_day s) := i_S_ext (fun i hi => w_day_lo hS hI (by omega)) hS
theorem w_day_da {s : Nat → Nat} : w_day s 157 = s 157 + 1 := b_ss
theorem i_D_day {s : Nat → Nat} (hS : i_S s) (hI : i_D s) (hd : s 157 < 400) : i_D (w_day s) := by
  obtain ⟨h1, h2, h3, h4⟩ := w_dloop_ok hS hI (s 3) (Nat.le_refl _)
  have hE := i_S_E hS
  have hM := i_S_M hS
  have hT := i_S_T hS
  have u : ∀ i, i ≠ 157 → w_day s i = w_dloop s (s 3) i := fun i hi => b_sn hi
  have e0 := u 0 (by omega)
  have e1 := u 1 (by omega)
  have e2 := u 2 (by omega)
  have e3 := u 3 (by omega)
  have e6 := u 281 (by omega)
  have e7 := u 158 (by omega)
  have f2 := h3 2 (by omega)
  have f3 := h3 3 (by omega)
  unfold i_D
  rw [e0, e1, e2, e3, e6, e7, w_day_da]
  refine ⟨by omega, ?_, ?_, ?_, ?_, ?_, ?_, ?_, ?_, ?_, ?_, i_D_we h1, ?_, ?_, ?_, ?_, ?_, ?_, i_D_dk h1⟩
  · rw [z_sum_congr _ (fun i hi => u (159 + i) (by omega))]
    exact i_D_co h1
  · intro i hi h6; rw [u _ (by omega)]; exact i_D_coz h1 i hi h6
  · intro t ht k hk; rw [u _ (by omega)]; exact i_D_op h1 t ht k hk
  · intro t ht k h4 hk; rw [u _ (by omega)]; exact i_D_opk h1 t ht k h4 hk
  · intro t h4 ht k hk; rw [u _ (by omega)]; exact i_D_opt h1 t h4 ht k hk
  · intro i hi; rw [u _ (by omega)]; exact i_D_ha h1 i hi
  · intro i hi; rw [u _ (by omega)]; exact i_D_pr h1 i hi
  · intro i hi; rw [u _ (by omega)]; exact i_D_pu h1 i hi
  · intro i hi; rw [u _ (by omega), u _ (by omega)]; exact i_D_pz h1 i hi
  · intro i hi h5; rw [u _ (by omega)] at h5 ⊢; have := i_D_po h1 i hi h5; rw [h3 157 (by omega)] at this; omega
  · intro i h5
    obtain ⟨g1, g2, g3⟩ := i_D_wp h1 i h5
    rw [u _ (by omega), u _ (by omega)]
    exact ⟨g1, g2, g3⟩
  · intro i hi p1 p2 p3
    rw [u _ (by omega)] at p1 p2
    rw [f3] at hi
    rw [h3 _ (by omega)] at p1 p2
    rw [u (271 + i) (by omega), u (147 + i) (by omega), h3 (271 + i) (by omega), h3 (147 + i) (by omega)]
    exact h4 i hi p1 p2 p3
  · intro i hi k hk; rw [u _ (by omega)]; exact i_D_sh h1 i hi k hk
  · intro i hi k h4 hk; rw [u _ (by omega)]; exact i_D_shk h1 i hi k h4 hk
  · intro t ht
    rw [u _ (by omega), i_D_pg h1 t ht]
    exact z_sum_congr _ (fun i hi => by rw [u _ (by omega)])
  · intro t ht
    rw [u _ (by omega), i_D_wo h1 t ht]
    exact z_sum_congr _ (fun i hi => by rw [u _ (by omega)])
def w_days (s : Nat → Nat) : Nat → (Nat → Nat)
  | 0 => s
  | n + 1 => w_day (w_days s n)
theorem w_days_ok {s : Nat → Nat} (hS : i_S s) (hI : i_D s) : ∀ n, s 157 + n ≤ 400 → i_S (w_days s n) ∧ i_D (w_days s n) ∧ w_days s n 157 = s 157 + n ∧ (∀ i, (i < 157 ∨ (159 ≤ i ∧ i < 177) ∨ (225 ≤ i ∧ i < 233) ∨ (241 ≤ i ∧ i < 251) ∨ (261 ≤ i ∧ i < 281) ∨ 282 ≤ i) → w_days s n i = s i)
  | 0, _ => ⟨hS, hI, rfl, fun _ _ => rfl⟩
  | n + 1, hn => by
    obtain ⟨h1, h2, h3, h4⟩ := w_days_ok hS hI n (by omega)
    exact ⟨w_day_S h1 h2, i_D_day h1 h2 (by omega), by show w_day (w_days s n) 157 = _; rw [w_day_da, h3]; omega, fun i hi => by show w_day (w_days s n) i = _; rw [w_day_lo h1 h2 hi, h4 i hi]⟩
