/-! CALL BY CALL: what keeps the relation; queries -/
theorem c_A_ext {m m2 : Nat → Nat → Nat} {a : Nat} {s : Nat → Nat} (hm : ∀ c, a ≤ c → c ≤ a + 11 → m2 c = m c) (h : c_A m a s) : c_A m2 a s := by
  unfold c_A at h ⊢
  rw [hm a (by omega) (by omega), hm (a + 1) (by omega) (by omega), hm (a + 2) (by omega) (by omega), hm (a + 3) (by omega) (by omega), hm (a + 4) (by omega) (by omega), hm (a + 5) (by omega) (by omega), hm (a + 6) (by omega) (by omega), hm (a + 7) (by omega) (by omega), hm (a + 8) (by omega) (by omega), hm (a + 9) (by omega) (by omega), hm (a + 10) (by omega) (by omega), hm (a + 11) (by omega) (by omega)]
  exact h
theorem w_rowS_ext {s r u : Nat → Nat} {i : Nat} (h : ∀ i, i < 157 ∨ 352 ≤ i → r i = s i) : w_rowS r u i = w_rowS s u i := by
  unfold w_rowS
  funext k
  by_cases c : 157 ≤ k ∧ k < 157 + 195
  · rw [b_rgi c.1 c.2, b_rgi c.1 c.2]
  · rw [b_rgo (by omega), b_rgo (by omega), h k (by omega)]
theorem r_P_ext {m m2 : Nat → Nat → Nat} {s r u : Nat → Nat} {n : Nat} (hm : ∀ c, 50 ≤ c → c ≤ 147 → m2 c = m c) (hs : ∀ i, i < 157 ∨ 352 ≤ i → r i = s i) (h : r_P m s u n) : r_P m2 r u n := by
  obtain ⟨h1, h2, h3, h4⟩ := h
  unfold r_P
  rw [hm 50 (by omega) (by omega)]
  refine ⟨h1, h2, h3, fun i hi => ?_⟩
  obtain ⟨g1, g2⟩ := h4 i hi
  rw [w_rowS_ext hs]
  have hy : (m 50 2 + 8 - n + i) % 8 < 8 := Nat.mod_lt _ (by decide)
  exact ⟨c_A_ext (fun c p1 p2 => hm c (by omega) (by omega)) g1, g2⟩
theorem r_N_s {so nu : Nat → Nat} {c : Nat} {L N s r : Nat → Nat} (hs : ∀ i, i ≤ 3 → r i = s i) (h : r_N so nu c L N s) : r_N so nu c L N r := by
  obtain ⟨h1, h2, h3, h4⟩ := h
  refine ⟨by rw [hs 0 (by omega), hs 1 (by omega), hs 2 (by omega), hs 3 (by omega)]; exact h1, fun i hi => ?_, fun q hq n hn => ?_, h4⟩
  · obtain ⟨g1, g2, g3⟩ := h2 i hi
    exact ⟨g1, by rw [hs _ g1]; exact g2, g3⟩
  · rw [hs q hq] at hn
    exact h3 q hq n hn
theorem r_C_s {ones parts : Nat} {p n b s r : Nat → Nat} (hs : ∀ i, i ≤ 3 ∨ (352 ≤ i ∧ i < 533) → r i = s i) (h : r_C ones parts p n b s) : r_C ones parts p n b r := by
  obtain ⟨h1, h2, h3, h4, h5, h6⟩ := h
  refine ⟨h1, by rw [hs 352 (by omega)]; exact h2, h3, h4, fun i hi => ?_, h6⟩
  have h7 := h5 i hi
  unfold r_c1 at h7 ⊢
  rw [hs 0 (by omega), hs 1 (by omega), hs 3 (by omega), hs (353 + 3 * i) (by omega), hs (353 + 3 * i + 1) (by omega), hs (353 + 3 * i + 2) (by omega)]
  exact h7
theorem r_I_ext {m m2 j j2 : Nat → Nat → Nat} {f : Nat} {s N : Nat → Nat} (hm : ∀ c, f ≤ c → c ≤ f + 26 → m2 c = m c) (hj : j2 (f + 1) = j (f + 1)) (h : r_I m j f s N) : r_I m2 j2 f s N := by
  obtain ⟨h1, h2, h3, h4, h5, h6⟩ := h
  refine ⟨h1, h2, c_F_ext (fun c p1 p2 => hm c (by omega) (by omega)) (fun _ _ => rfl) h1 h3, c_A_ext (fun c p1 p2 => hm c (by omega) (by omega)) h4, ?_, ?_⟩
  · rw [hm (f + 2) (by omega) (by omega), hm (f + 3) (by omega) (by omega), hm f (by omega) (by omega), hj]; exact h5
  · rw [hm (f + 23) (by omega) (by omega), hm (f + 24) (by omega) (by omega), hm (f + 25) (by omega) (by omega), hm (f + 26) (by omega) (by omega)]; exact h6
/-- what most calls leave as it is -/
def w_same (m m2 : Nat → Nat → Nat) : Prop :=
  (∀ c, c = 2 ∨ c = 235 ∨ (4 ≤ c ∧ c ≤ 14) ∨ (148 ≤ c ∧ c ≤ 151) ∨ c = 163 ∨ c = 171 ∨ (178 ≤ c ∧ c ≤ 233) ∨ c = 244 ∨ c = 247 ∨ c = 251 ∨ c = 254 ∨ c = 256 → m2 c = m c) ∧
  (∀ k, k = 14 ∨ k = 15 ∨ k = 16 → m2 0 k = m 0 k) ∧ m2 1 2 = m 1 2 ∧ (∀ k, 6 ≤ k → m2 156 k = m 156 k) ∧ m2 162 3 = m 162 3 ∧ m2 167 7 = m 167 7 ∧
  (∀ k, k = 2 ∨ k = 15 ∨ k = 26 ∨ (30 ≤ k ∧ k ≤ 36) ∨ k = 43 → m2 234 k = m 234 k)
theorem w_same_rf {m : Nat → Nat → Nat} : w_same m m := ⟨fun _ _ => rfl, fun _ _ => rfl, rfl, fun _ _ => rfl, rfl, rfl, fun _ _ => rfl⟩
theorem w_same_tr {m m2 m3 : Nat → Nat → Nat} (h : w_same m m2) (g : w_same m2 m3) : w_same m m3 :=
  ⟨fun c hc => (g.1 c hc).trans (h.1 c hc), fun k hk => (g.2.1 k hk).trans (h.2.1 k hk), g.2.2.1.trans h.2.2.1, fun k hk => (g.2.2.2.1 k hk).trans (h.2.2.2.1 k hk), g.2.2.2.2.1.trans h.2.2.2.2.1, g.2.2.2.2.2.1.trans h.2.2.2.2.2.1, fun k hk => (g.2.2.2.2.2.2 k hk).trans (h.2.2.2.2.2.2 k hk)⟩
/-- a whole row that the relation does not name -/
theorem w_same_r {m : Nat → Nat → Nat} {c : Nat} {f : Nat → Nat} (hc : c = 3 ∨ (15 ≤ c ∧ c ≤ 147) ∨ (152 ≤ c ∧ c ≤ 155) ∨ (157 ≤ c ∧ c ≤ 161) ∨ (164 ≤ c ∧ c ≤ 166) ∨ (168 ≤ c ∧ c ≤ 170) ∨ (172 ≤ c ∧ c ≤ 177) ∨ (236 ≤ c ∧ c ≤ 243) ∨ c = 245 ∨ c = 246 ∨ (248 ≤ c ∧ c ≤ 250) ∨ c = 252 ∨ c = 253 ∨ c = 255) : w_same m (b_r m c f) :=
  ⟨fun _ _ => b_rn (by omega), fun _ _ => by rw [b_rn (by omega)], by rw [b_rn (by omega)], fun _ _ => by rw [b_rn (by omega)], by rw [b_rn (by omega)], by rw [b_rn (by omega)], fun _ _ => by rw [b_rn (by omega)]⟩
/-- a place of the reference's own cell -/
theorem w_same_s {m : Nat → Nat → Nat} {p x : Nat} (hp : p = 0 ∨ p = 3 ∨ p = 4 ∨ p = 5 ∨ (11 ≤ p ∧ p ≤ 14) ∨ (16 ≤ p ∧ p ≤ 23) ∨ p = 40 ∨ p = 41 ∨ (45 ≤ p ∧ p ≤ 49)) : w_same m (b_r m 234 (b_s (m 234) p x)) :=
  ⟨fun _ _ => b_rn (by omega), fun _ _ => by rw [b_rn (by omega)], by rw [b_rn (by omega)], fun _ _ => by rw [b_rn (by omega)], by rw [b_rn (by omega)], by rw [b_rn (by omega)], fun _ _ => by rw [b_rs, b_sn (by omega)]⟩
theorem w_same_fr {lo hi : Nat} {m m2 : Nat → Nat → Nat} (h : z_fr lo hi m m2) (hl : 15 ≤ lo) (hh : hi ≤ 147) : w_same m m2 :=
  ⟨fun c hc => h c (by omega), fun _ _ => by rw [h 0 (by omega)], by rw [h 1 (by omega)], fun _ _ => by rw [h 156 (by omega)], by rw [h 162 (by omega)], by rw [h 167 (by omega)], fun _ _ => by rw [h 234 (by omega)]⟩
theorem w_same_fd {lo hi : Nat} {m m2 : Nat → Nat → Nat} (h : z_fd lo hi m m2) (hl : 15 ≤ lo) (hh : hi ≤ 147) : w_same m m2 :=
  ⟨fun c hc => h c (by omega) (by omega), fun _ _ => by rw [h 0 (by omega) (by omega)], by rw [h 1 (by omega) (by omega)], fun _ _ => by rw [h 156 (by omega) (by omega)], by rw [h 162 (by omega) (by omega)], by rw [h 167 (by omega) (by omega)], fun _ _ => by rw [h 234 (by omega) (by omega)]⟩
/-- a new state: all else stays -/
theorem r_R_upd {m m2 j : Nat → Nat → Nat} (h : r_R m j) (hw : w_same m m2) (h1 : i_D (m2 236)) (h2 : c_A m2 26 (m2 236)) (h3 : ∀ i, i < 157 ∨ 352 ≤ i → m2 236 i = m 236 i) (h4 : r_P m2 (m2 236) (m2 241) (m2 234 23)) : r_R m2 j := by
  obtain ⟨w1, w2, w3, w4, w5, w6, w7⟩ := hw
  have hS := r_R_st h
  refine ⟨i_S_ext (fun i hi => h3 i (by omega)) hS, h1, c_F_ext (fun c p1 p2 => w1 c (by omega)) (fun i hi => h3 i (by omega)) hS (r_R_fa h), h2, ?_, ?_, ?_, h4, ?_, ?_, ?_, ?_, ?_, ?_, ?_, r_R_wd h, ?_⟩
  · rw [w3, w7 2 (by omega), w1 2 (by omega), w1 235 (by omega)]; exact r_R_tp h
  · rw [w2 14 (by omega), w7 15 (by omega)]; exact r_R_ft h
  · rw [w1 6 (by omega), w1 7 (by omega), w1 4 (by omega)]; exact r_N_s (fun i hi => h3 i (by omega)) (r_R_nm h)
  · rw [w1 148 (by omega), w1 149 (by omega), w1 150 (by omega), w1 151 (by omega)]; exact r_C_s (fun i hi => h3 i (by omega)) (r_R_cl h)
  · obtain ⟨g1, g2, g3⟩ := r_R_to h
    rw [w4 6 (by omega), w7 43 (by omega)]
    exact ⟨g1, g2, fun hn k hk => by rw [w4 (7 + k) (by omega), w1 251 (by omega)]; exact g3 hn k hk⟩
  · rw [w5, w7 26 (by omega), w1 163 (by omega), w1 244 (by omega)]; exact r_R_ro h
  · rw [w7 30 (by omega), w1 171 (by omega), w1 247 (by omega)]; exact r_R_sr h
  · rw [w7 32 (by omega), w7 31 (by omega), w6]; exact r_R_tr h
  · rw [w7 34 (by omega), w7 33 (by omega), w2 15 (by omega)]; exact r_R_sk h
  · rw [w7 36 (by omega), w7 35 (by omega), w2 16 (by omega)]; exact r_R_rd h
  · intro k hk
    obtain ⟨g1, g2, g3⟩ := r_R_im h k hk
    rw [w1 (178 + 28 * k) (by omega), w1 256 (by omega)]
    refine ⟨g1, g2, fun hn => ?_⟩
    have e1 : w_imS m2 k = w_imS m k := by unfold w_imS; rw [w1 254 (by omega)]
    rw [e1]
    exact r_I_ext (fun c p1 p2 => w1 c (by omega)) rfl (g3 hn)
/-- no new state -/
theorem r_R_idle {m m2 j : Nat → Nat → Nat} (h : r_R m j) (hw : w_same m m2) (h1 : m2 236 = m 236) (h2 : ∀ c, (26 ≤ c ∧ c ≤ 37) ∨ (50 ≤ c ∧ c ≤ 147) → m2 c = m c) (h3 : m2 241 = m 241) (h4 : m2 234 23 = m 234 23) : r_R m2 j := by
  refine r_R_upd h hw (by rw [h1]; exact r_R_dy h) (by rw [h1]; exact c_A_ext (fun c p1 p2 => h2 c (by omega)) (r_R_af h)) (fun i _ => by rw [h1]) ?_
  rw [h1, h3, h4]
  exact r_P_ext (fun c p1 p2 => h2 c (by omega)) (fun _ _ => rfl) (r_R_pa h)
theorem r_R_thr {m j : Nat → Nat → Nat} {v : Nat} (h : r_R m j) : r_R (b_r m 234 (b_s (m 234) 0 v)) j :=
  r_R_idle h (w_same_s (by omega)) (b_rn (by decide)) (fun c hc => b_rn (by omega)) (b_rn (by decide)) (by rw [b_rs, b_sn (by decide)])
/-- both answer alike, and the relation is kept -/
def w_step (X : Nat × (Nat → Int32)) (tx : List Int32) (D yC yM : Nat) (vs : List Value) (m j : Nat → Nat → Nat) (w : (Nat × Nat) × Bool) : Prop :=
  ∃ m1 j1 m2 j2 v, a_ex X tx a_T D yC (.ref 0 :: vs) (b_h m j w) = some (b_h m1 j1 w, some (.int v)) ∧ a_ex X tx a_T D yM (.ref 234 :: vs) (b_h m1 j1 w) = some (b_h m2 j2 w, some (.int v)) ∧ r_R m2 j2
section ST
variable {X : Nat × (Nat → Int32)} {tx : List Int32} {D : Nat} {m j : Nat → Nat → Nat} {w : (Nat × Nat) × Bool}
theorem t_fault (h : r_R m j) (hD : 10 ≤ D) : w_step X tx D 155 226 [] m j w :=
  ⟨m, j, _, j, _, s_EM_fault (by omega), (by rw [r_R_ft h]; exact s_Mo_fault (by omega)), r_R_thr h⟩
theorem t_open (h : r_R m j) (hD : 10 ≤ D) {a b : Nat} (ha : a < 4294967296) (hb : b < 4294967296) : w_step X tx D 157 240 [.int (nI a), .int (nI b)] m j w :=
  ⟨m, j, _, j, _, s_EM_open (r_R_fa h) (r_R_af h) (r_R_st h) (r_R_dy h) (by omega) ha hb, s_Mo_open (r_R_st h) (r_R_dy h) (by omega) ha hb, r_R_thr h⟩
theorem t_closes (h : r_R m j) (hD : 10 ≤ D) {a b : Nat} (ha : a < 4294967296) (hb : b < 4294967296) : w_step X tx D 159 242 [.int (nI a), .int (nI b)] m j w :=
  ⟨m, j, _, j, _, s_EM_closes (r_R_fa h) (r_R_st h) (by omega) ha hb, s_Mo_closes (r_R_st h) (r_R_dy h) (by omega) ha hb, r_R_thr h⟩
theorem t_man (h : r_R m j) (hD : 10 ≤ D) {a b : Nat} (ha : a < 4294967296) (hb : b < 4294967296) : w_step X tx D 160 243 [.int (nI a), .int (nI b)] m j w :=
  ⟨m, j, _, j, _, s_EM_man (r_R_fa h) (r_R_af h) (r_R_st h) (r_R_dy h) (by omega) ha hb, s_Mo_man (r_R_st h) (r_R_dy h) (by omega) ha hb, r_R_thr h⟩
theorem t_fits (h : r_R m j) (hD : 10 ≤ D) {a b : Nat} (ha : a < 4294967296) (hb : b < 4294967296) : w_step X tx D 166 259 [.int (nI a), .int (nI b)] m j w :=
  ⟨m, j, _, j, _, s_EM_fits (r_R_fa h) (r_R_af h) (r_R_st h) (r_R_dy h) (by omega) ha hb, s_Mo_fits (r_R_st h) (r_R_dy h) (by omega) ha hb, r_R_thr h⟩
theorem t_likes (h : r_R m j) (hD : 10 ≤ D) {a b : Nat} (ha : a < 4294967296) (hb : b < 4294967296) : w_step X tx D 177 283 [.int (nI a), .int (nI b)] m j w :=
  ⟨m, j, _, j, _, s_EM_likes (r_R_fa h) (r_R_af h) (r_R_st h) (r_R_dy h) (by omega) ha hb, s_Mo_likes (r_R_st h) (r_R_dy h) (by omega) ha hb, r_R_thr h⟩
theorem t_now (h : r_R m j) (hD : 10 ≤ D) {a : Nat} (ha : a < 4294967296) : w_step X tx D 161 244 [.int (nI a)] m j w :=
  ⟨m, j, _, j, _, s_EM_now (r_R_fa h) (r_R_af h) (r_R_st h) (r_R_dy h) (by omega) ha, s_Mo_now (r_R_st h) (r_R_dy h) (by omega) ha, r_R_thr h⟩
theorem t_cheapest (h : r_R m j) (hD : 10 ≤ D) {a : Nat} (ha : a < 4294967296) : w_step X tx D 183 292 [.int (nI a)] m j w :=
  ⟨m, j, _, j, _, s_EM_cheapest (r_R_fa h) (r_R_af h) (r_R_st h) (r_R_dy h) (by omega) ha, s_Mo_cheapest (r_R_st h) (r_R_dy h) (by omega) ha, r_R_thr h⟩
theorem t_count (h : r_R m j) (hD : 10 ≤ D) {a : Nat} (ha : a < 4294967296) : w_step X tx D 192 314 [.int (nI a)] m j w :=
  ⟨m, j, _, j, _, s_EM_count (r_R_fa h) (by omega) ha, (by rw [← (r_R_tp h).1]; exact s_Mo_count (r_R_st h) (r_R_dy h) (by omega) ha), r_R_thr h⟩
theorem t_dark (h : r_R m j) (hD : 10 ≤ D) : w_step X tx D 182 291 [] m j w :=
  ⟨m, j, _, j, _, s_EM_dark (r_R_fa h) (r_R_af h) (r_R_st h) (r_R_dy h) (by omega), s_Mo_dark (r_R_st h) (r_R_dy h) (by omega), r_R_thr h⟩
theorem t_tray (h : r_R m j) (hD : 10 ≤ D) : w_step X tx D 172 275 [] m j w :=
  ⟨m, j, _, j, _, s_EM_tray (by omega), (by rw [(r_R_tr h).2]; exact s_Mo_tray (by omega) (r_R_tr h).1), r_R_thr h⟩
theorem t_ask (h : r_R m j) (hD : 10 ≤ D) : w_step X tx D 174 279 [] m j w :=
  ⟨m, j, _, j, _, s_EM_ask (by omega), (by rw [(r_R_sk h).2]; exact s_Mo_ask (by omega) (r_R_sk h).1), r_R_thr h⟩
theorem t_rounds (h : r_R m j) (hD : 10 ≤ D) : w_step X tx D 176 281 [] m j w :=
  ⟨m, j, _, j, _, s_EM_rounds (by omega), (by rw [(r_R_rd h).2]; exact s_Mo_rounds (by omega) (r_R_rd h).1), r_R_thr h⟩
theorem t_row (h : r_R m j) (hD : 10 ≤ D) {a : Nat} (ha : a < 4294967296) : w_step X tx D 168 267 [.int (nI a)] m j w := by
  obtain ⟨h1, h2, h3⟩ := r_R_ro h
  refine ⟨m, j, _, j, _, s_EM_row h1 (by omega) ha, ?_, r_R_thr (v := 0) h⟩
  rw [s_Mo_row (by omega) (by omega) ha]
  congr 5
  by_cases c : a < m 162 3
  · rw [if_pos c, if_pos ⟨by omega, by omega⟩, h3 a c]
  · rw [if_neg c, if_neg (by omega)]
theorem t_has (h : r_R m j) (hD : 10 ≤ D) {a : Nat} (ha : a < 4294967296) : w_step X tx D 170 272 [.int (nI a)] m j w := by
  obtain ⟨h1, h2⟩ := r_R_sr h
  refine ⟨m, j, _, j, _, s_EM_has (by omega) ha, ?_, r_R_thr (v := 0) h⟩
  rw [s_Mo_has (by omega) h1 ha]
  congr 5
  by_cases c : a < 8
  · rw [if_pos c, h2 a c]
  · rw [if_neg c, if_neg (by omega)]
theorem t_told (h : r_R m j) (hD : 10 ≤ D) {a : Nat} (ha : a < 4294967296) : w_step X tx D 187 301 [.int (nI a)] m j w := by
  obtain ⟨h1, h2, h3⟩ := r_R_to h
  refine ⟨m, j, _, j, _, s_EM_told (by omega) (by omega) ha, ?_, r_R_thr (v := 0) h⟩
  rw [s_Mo_told (by omega) h2 ha]
  congr 5
  rw [h1]
  by_cases c : m 234 43 ≠ 0 ∧ a < 4
  · rw [if_pos c, if_pos c, h3 c.1 a c.2]
  · rw [if_neg c, if_neg c]
theorem r_R_tm (h : r_R m j) : r_R (w_tm m) j := by
  have h2 := r_R_thr (v := 0) h
  unfold w_tm
  exact r_R_idle h2 (w_same_r (by omega)) (b_rn (by decide)) (fun c hc => b_rn (by omega)) (b_rn (by decide)) (by rw [b_rn (c := 242) (by decide)])
theorem t_when (h : r_R m j) (hD : 10 ≤ D) {a : Nat} (ha : a < 4294967296) : w_step X tx D 180 289 [.int (nI a)] m j w := by
  refine ⟨m, j, _, j, _, s_EM_when (r_R_fa h) (r_R_af h) (r_R_st h) (r_R_dy h) (by omega) ha, s_Mo_when (r_R_st h) (r_R_dy h) (by omega) ha, ?_⟩
  split
  · exact r_R_tm h
  · exact r_R_thr h
theorem t_later (h : r_R m j) (hD : 10 ≤ D) {a b : Nat} (ha : a < 4294967296) (hb : b < 4294967296) : w_step X tx D 181 290 [.int (nI a), .int (nI b)] m j w := by
  refine ⟨m, j, _, j, _, s_EM_later (r_R_fa h) (r_R_af h) (r_R_st h) (r_R_dy h) (by omega) ha hb, s_Mo_later (r_R_st h) (r_R_dy h) (by omega) ha hb, ?_⟩
  split
  · exact r_R_tm h
  · exact r_R_thr h
end ST
