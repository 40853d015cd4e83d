section NW
variable {p : Program} {l : Launch} {e : Env} {R : Room} {s : State} {m : MethodId} {args : Array Value} {below : List Frame} {meth : Method} {c : Code} {Q : State → Prop} {cc : ByteArray} {nL : Nat} {own nm : String} {Ts : List Cond} {D : va_G} {aC : Nat → ClassId} {base : Nat} {b : Nat × Nat} {X : Nat × (Nat → Int32)} {n0 : Nat × Nat} {d : Nat}
variable {pc : Nat} {h : A_H} {H : Heap} {locs : List Loc} {cells slots : Nat} {ls : Array Slot} {rest : List Value}
theorem a_mk_self {cl0 : A_C} {w : Nat} : (a_mk h cl0 w).1[h.1.length]? = some cl0 := by simp [a_mk]
theorem a_mk_kd {cl0 : A_C} {w : Nat} : a_kd (a_mk h cl0 w) h.1.length = cl0.1 := by unfold a_kd; rw [a_mk_self]
theorem a_mk_ln {cl0 : A_C} {w : Nat} : a_ln (a_mk h cl0 w) h.1.length = cl0.2.1 := by unfold a_ln; rw [a_mk_self]
theorem a_mk_rf {k0 n0 N : Nat} {w j : Nat} : a_rf (a_mk h (k0, n0, List.replicate N none) w) h.1.length j = none := by
  unfold a_rf
  rw [a_mk_self]
  dsimp only
  by_cases hj : j < N
  · simp [hj]
  · rw [List.getElem?_eq_none (by simp; omega)]
theorem a_mk_le {cl0 : A_C} {w : Nat} : a_le h (a_mk h cl0 w) := ⟨Nat.le_succ _, Nat.le_add_right _ _, id⟩
/-- a new cell beside the world -/
theorem a_Dy_new {g : A_H} {w : Nat} {cl0 : A_C} {E : va_E} (hD : a_Dy s D aC base n0 h H locs cells slots) (hg : g = a_mk h cl0 w) (hge : a_E aC base g h.1.length = E) {H1 : Heap} (hz : H.size = base + h.1.length) (h1 : H1.size = base + h.1.length + 1) (ho : ∀ q, q < base + h.1.length → H1[q]? = H[q]?) (hat : va_at D a_cl (base + h.1.length, E) H1) : a_Dy s D aC base n0 g H1 locs (cells + 1) (slots + w) := by
  obtain ⟨hP, hS, hsz, hcn, hsn⟩ := hD
  subst hg
  refine ⟨?_, ⟨Nat.le_trans hS.1 (by omega), fun q z1 z2 => (ho q (by have := hS.1; omega)).trans (hS.2.1 q z1 z2), hS.2.2⟩, fun z => ⟨?_, (hsz z).2⟩, ?_, ?_⟩
  · rw [a_ws_new (g := a_mk h cl0 w) (h := h) (by simp [a_mk]) (fun b hb => a_E_mk hb), hge]
    refine (hP.kept fun k q hk => ho q.1 (by have := (hP k q hk).lt; omega)).app fun k q hk => ?_
    have hz : k < 1 := (List.getElem?_eq_some_iff.mp hk).1
    rw [show k = 0 by omega] at hk
    cases hk
    exact hat
  · have := (hsz z).1
    simp only [a_mk, a_nc, List.length_append, List.length_cons, List.length_nil]
    simp only [a_nc] at this
    omega
  · show n0.1 + (cells + 1) = a_nc h + 1
    omega
  · show n0.2 + (slots + w) = a_ns h + w
    omega
theorem a_ok_inv (hok : a_ok h = true) : h.2.2.2.2 = false ∧ h.1.length = a_nc h := by
  unfold a_ok at hok
  rw [Bool.and_eq_true] at hok
  exact ⟨by simpa using hok.1, Nat.eq_of_beq_eq_true hok.2⟩
theorem a_new1 (F : a_Fx p R s m args meth c cc nL own nm Ts D aC base b X d) (hD : a_Dy s D aC base n0 h H locs cells slots) (hok : a_ok h = true) {ci index w1 w2 w3 : Nat} {q : vw_C} (hc : a_cl[ci]? = some q) (h1 : a_lk w1 (.classLink own index q.1) = true) (h2 : a_lk w2 (.instantiable q.1 q.2.2) = true) (h3 : a_lk w3 (.initialized q.1) = true) (hcells : cells + 1 ≤ R.cells) (hslots : slots + q.2.2 ≤ R.slots) (hdg : decode cc pc = .ok (.new index, 3))
    (kk : ∀ (H1 : Heap), a_Dy s D aC base n0 (a_mk h (ci, 0, List.replicate q.2.2 none) q.2.2) H1 locs (cells + 1) (slots + q.2.2) → W p l e R s m args below meth c H1 locs (cells + 1) (slots + q.2.2) Q (F0 m (pc + 3) ls (.ref (base + h.1.length) :: rest))) : W p l e R s m args below meth c H locs cells slots Q (F0 m pc ls rest) := by
  intro T0 hT Y
  obtain ⟨hs, hl⟩ := a_ok_inv hok
  have hz := (a_size F hD hT Y hs).2
  rw [← hl] at hz
  obtain ⟨hx, hb, hmL, hown, hts, hG, hK, -⟩ := F
  obtain ⟨C, T, N⟩ := q
  obtain ⟨hin, -, ty, hty, htt⟩ := a_clok hc
  have hKn := hK.1.1 ci _ hc
  refine (?_ : W p l e R s m args below meth c H locs cells slots Q (F0 m pc ls rest)) T0 hT Y
  refine W.newcK hx hb hown (hts _ (hG _ (a_lk_inv h1))) (hts _ (hG _ (a_lk_inv h2))) (hts _ (hG _ (a_lk_inv h3))) rfl hdg hcells hslots hKn.2.1 hz fun H1 kC hkC e1 z1 o1 => ?_
  refine kk H1 (a_Dy_new hD rfl (a_E_obj (q := (C, T, N)) a_mk_kd hc) hz z1 o1 ⟨_, hc, (u_born ty hts (fun w hw => hG w (hin w hw)) hKn hkC e1 hty).to fun j hj => ?_⟩)
  have htj := htt j hj
  dsimp only at htj hj
  show defaultValue (ty j) = (a_fs base _ _ T N).getD j .null
  rw [List.getD_eq_getElem?_getD, a_fs_at hj]
  unfold a_fv
  simp only [a_mk_rf, a_iv, a_jv]
  have r1 : ∀ k, (a_mk h (ci, 0, List.replicate N none) N).2.1 h.1.length k = 0 := fun k => by simp [a_mk, va_up]
  have r2 : ∀ k, (a_mk h (ci, 0, List.replicate N none) N).2.2.1 h.1.length k = 0 := fun k => by simp [a_mk, va_up]
  simp only [r1, r2]
  rcases a_tg_le (T j).2.2.1 with g | g | g | g <;> rw [g] at htj ⊢ <;> simp only [a_tt] at htj
  · rw [of_decide_eq_true htj]; rfl
  · rw [of_decide_eq_true htj]; rfl
  · rw [of_decide_eq_true htj]; rfl
  · cases e : ty j <;> first | rfl | (rw [e] at htj; simp [a_isr] at htj)
theorem a_nn {n : Int32} (h : decide (0 ≤ n.toInt) = true) : ¬ n < 0 := by
  have h := of_decide_eq_true h
  intro hn
  have : n.toInt < (0 : Int32).toInt := Int32.lt_iff_toInt_lt.mp hn
  have z : (0 : Int32).toInt = 0 := by decide
  omega
/-- an array of ints, longs, booleans, bytes -/
theorem a_newa1 (F : a_Fx p R s m args meth c cc nL own nm Ts D aC base b X d) (hD : a_Dy s D aC base n0 h H locs cells slots) (hok : a_ok h = true) {n : Int32} (hn : ¬ n < 0) (hN : n.toNatClampNeg ≤ 60000) {aty : ArrayType} {kk0 t0 w1 : Nat} {ty : FieldType} (hty : newarray.typeOf aty = ty) (hcb : componentBytes ty ≤ 8) (h1 : a_lk w1 (.arrayClass (newarray.typeOf aty)) = true)
    (ht : (a_tys aC)[t0]? = some (aC t0, ty)) (hra : va_RA s (aC t0) ty → s.vm.findClass ("[" ++ ty.toString) = some (aC t0)) {xx : vp_A} (he : a_E aC base (a_mk h (kk0, n.toNatClampNeg, []) n.toNatClampNeg) h.1.length = .inl (aC t0, xx)) (hxx : vp_cell (aC t0) xx = arrV (aC t0) n.toNatClampNeg (fun _ => defaultValue ty))
    (hcells : cells + 1 ≤ R.cells) (hslots : slots + n.toNatClampNeg ≤ R.slots) (hdg : decode cc pc = .ok (.newarray aty, 2))
    (kk : ∀ (H1 : Heap), a_Dy s D aC base n0 (a_mk h (kk0, n.toNatClampNeg, []) n.toNatClampNeg) H1 locs (cells + 1) (slots + n.toNatClampNeg) → W p l e R s m args below meth c H1 locs (cells + 1) (slots + n.toNatClampNeg) Q (F0 m (pc + 2) ls (.ref (base + h.1.length) :: rest))) : W p l e R s m args below meth c H locs cells slots Q (F0 m pc ls (.int n :: rest)) := by
  intro T0 hT Y
  obtain ⟨hs, hl⟩ := a_ok_inv hok
  have hz := (a_size F hD hT Y hs).2
  rw [← hl] at hz
  obtain ⟨hx, hb, hmL, hown, hts, hG, hK, -⟩ := F
  subst hty
  refine (?_ : W p l e R s m args below meth c H locs cells slots Q (F0 m pc ls (.int n :: rest))) T0 hT Y
  refine va_newaK hx hb (hts _ (hG _ (a_lk_inv h1))) rfl hdg rfl hn rfl (by have := Nat.mul_le_mul hN hcb; omega) hcells hslots hz fun H1 cA e1 z1 o1 hAr hNm => ?_
  have hcA : cA = aC t0 := Option.some.inj (hNm.symm.trans (hra (hK.1.2 t0 _ ht).2))
  subst hcA
  refine kk H1 (a_Dy_new hD rfl he hz z1 o1 ?_)
  show H1[base + h.1.length]? = some (vp_cell (aC t0) xx)
  rw [hxx]
  exact e1
/-- an array of references -/
theorem a_newq1 (F : a_Fx p R s m args meth c cc nL own nm Ts D aC base b X d) (hD : a_Dy s D aC base n0 h H locs cells slots) (hok : a_ok h = true) {n : Int32} (hn : ¬ n < 0) (hN : n.toNatClampNeg ≤ 60000) {k0 t0 w1 index : Nat} {C : String} (hov : va_AO C s) (h1 : a_lk w1 (.classLink own index C) = true)
    (ht : (a_tys aC)[t0]? = some (aC t0, .object C)) (he : a_E aC base (a_mk h (k0, n.toNatClampNeg, List.replicate n.toNatClampNeg none) n.toNatClampNeg) h.1.length = .inl (aC t0, n.toNatClampNeg, .inr (.inr (.inr (.inr (fun _ => none))))))
    (hcells : cells + 1 ≤ R.cells) (hslots : slots + n.toNatClampNeg ≤ R.slots) (hdg : decode cc pc = .ok (.anewarray index, 3))
    (kk : ∀ (H1 : Heap), a_Dy s D aC base n0 (a_mk h (k0, n.toNatClampNeg, List.replicate n.toNatClampNeg none) n.toNatClampNeg) H1 locs (cells + 1) (slots + n.toNatClampNeg) → W p l e R s m args below meth c H1 locs (cells + 1) (slots + n.toNatClampNeg) Q (F0 m (pc + 3) ls (.ref (base + h.1.length) :: rest))) : W p l e R s m args below meth c H locs cells slots Q (F0 m pc ls (.int n :: rest)) := by
  intro T0 hT Y
  obtain ⟨hs, hl⟩ := a_ok_inv hok
  have hz := (a_size F hD hT Y hs).2
  rw [← hl] at hz
  obtain ⟨hx, hb, hmL, hown, hts, hG, hK, -⟩ := F
  refine (?_ : W p l e R s m args below meth c H locs cells slots Q (F0 m pc ls (.int n :: rest))) T0 hT Y
  refine W.anew hx hb hown (hts _ (hG _ (a_lk_inv h1))) (va_AO.use hov) rfl hdg rfl hn (by omega) hcells hslots fun cA kA comp f1 f2 f3 f4 => ?_
  obtain ⟨kA', comp', -, -, -, g4⟩ := (hK.1.2 t0 _ ht).2
  have hcA : cA = aC t0 := Option.some.inj (f1.symm.trans g4)
  subst hcA
  rw [hz]
  refine kk _ (a_Dy_new hD rfl he hz (by rw [Array.size_push, hz]) (fun q hq => by rw [Array.getElem?_push, if_neg (by omega)]) ?_)
  show (H.push _)[base + h.1.length]? = some (vp_cell (aC t0) _)
  rw [← hz, Array.getElem?_push_size, vp_cell_q, ← arrV_new]
  rfl
theorem a_aast1 (F : a_Fx p R s m args meth c cc nL own nm Ts D aC base b X d) (hD : a_Dy s D aC base n0 h H locs cells slots) {a r : Nat} {i : Int32} (hk : a_kd h a = 104 ∨ a_kd h a = 105) (hr : a_kd h r = a_el (a_kd h a)) (hi : vp_in i (a_ln h a)) (hl : i.toNatClampNeg < a_rl h a) (hdg : decode cc pc = .ok (.aastore, 1))
    (kk : ∀ (H1 : Heap) (locs1 : List Loc), a_Dy s D aC base n0 (a_sR h a i.toNatClampNeg r) H1 locs1 cells slots → W p l e R s m args below meth c H1 locs1 cells slots Q (F0 m (pc + 1) ls rest)) : W p l e R s m args below meth c H locs cells slots Q (F0 m pc ls (.ref (base + r) :: .int i :: .ref (base + a) :: rest)) := by
  obtain ⟨hx, hb, hmL, hown, hts, hG, hK, -⟩ := F
  have ef : (fun j => (a_rf (a_sR h a i.toNatClampNeg r) a j).map (base + ·)) = va_up (fun j => (a_rf h a j).map (base + ·)) i.toNatClampNeg (some (base + r)) := by
    funext j
    have hla : a < h.1.length := by rcases hk with hk | hk <;> exact a_kd_lt hk (by decide)
    rw [a_sR_rf hla]
    have hl2 : i.toNatClampNeg < (match h.1[a]? with | some c => c.2.2.length | none => 0) := hl
    by_cases hj : j = i.toNatClampNeg
    · rw [if_pos ⟨hj, hl2⟩, hj]
      simp [va_up]
    · simp [hj, va_up]
  rcases hk with hk | hk
  · have hla := a_kd_lt hk (by decide)
    rw [hk] at hr
    have hat := a_ws_at (aC := aC) (base := base) hla
    rw [a_E_arr.2.2.2.2.1 hk] at hat
    have hatr := a_ws_at (aC := aC) (base := base) (a_kd_lt hr (by decide))
    rw [a_E_obj (q := (RX0, TX0, 13)) hr rfl] at hatr
    refine va_astq hx hb hK.1 hD.1 a_D hD.2.1 a 4 r 0 hat rfl hatr rfl hi hdg fun H1 locs1 g1 _ g3 => kk H1 locs1 (a_Dy_put (g := a_sR h a i.toNatClampNeg r) hD a_sR_len (fun j hj => a_E_sR hj) ?_ rfl g1 g3)
    rw [a_E_arr.2.2.2.2.1 (by rw [a_sR_kd hla]; exact hk), a_sR_ln hla, ef]
  · have hla := a_kd_lt hk (by decide)
    rw [hk] at hr
    have hat := a_ws_at (aC := aC) (base := base) hla
    rw [a_E_arr.2.2.2.2.2 hk] at hat
    have hatr := a_ws_at (aC := aC) (base := base) (a_kd_lt hr (by decide))
    rw [a_E_obj (q := (RX3, TX3, 4)) hr rfl] at hatr
    refine va_astq hx hb hK.1 hD.1 a_D hD.2.1 a 5 r 3 hat rfl hatr rfl hi hdg fun H1 locs1 g1 _ g3 => kk H1 locs1 (a_Dy_put (g := a_sR h a i.toNatClampNeg r) hD a_sR_len (fun j hj => a_E_sR hj) ?_ rfl g1 g3)
    rw [a_E_arr.2.2.2.2.2 (by rw [a_sR_kd hla]; exact hk), a_sR_ln hla, ef]
theorem a_copi (F : a_Fx p R s m args meth c cc nL own nm Ts D aC base b X d) (hD : a_Dy s D aC base n0 h H locs cells slots) (hls : ls.size = nL) {a a2 index wl w1 w2 w3 : Nat} {sp dp n : Int32} (hl : a_lk wl (.methodLink own index arraycopyName) = true) (h1 : a_lk w1 (.native arraycopyName) = true) (h2 : a_lk w2 (.static arraycopyName) = true) (h3 : a_lk w3 (.initialized "java/lang/System") = true)
    (hk : a_kd h a = 100) (hk2 : a_kd h a2 = 100) (s1 : ¬ sp < 0) (s2 : ¬ dp < 0) (s3 : ¬ n < 0) (s4 : sp.toNatClampNeg + n.toNatClampNeg ≤ a_ln h a) (s5 : dp.toNatClampNeg + n.toNatClampNeg ≤ a_ln h a2) (hw : (rest.map fun v => v.category).sum ≤ 8) (hdg : decode cc pc = .ok (.invokestatic index, 3))
    (kk : ∀ (H1 : Heap) (locs1 : List Loc), a_Dy s D aC base n0 (a_rI h a2 (va_cpy (h.2.1 a) (h.2.1 a2) sp.toNatClampNeg dp.toNatClampNeg n.toNatClampNeg)) H1 locs1 cells slots → W p l e R s m args below meth c H1 locs1 cells slots Q (F0 m (pc + 3) ls rest)) : W p l e R s m args below meth c H locs cells slots Q (F0 m pc ls (.int n :: .int dp :: .ref (base + a2) :: .int sp :: .ref (base + a) :: rest)) := by
  obtain ⟨hx, hb, hmL, hown, hts, hG, hK, -, -, -, -, hfr, hlo⟩ := F
  have hat := a_ws_at (aC := aC) (base := base) (a_kd_lt hk (by decide))
  rw [a_E_arr.1 hk] at hat
  have hat2 := a_ws_at (aC := aC) (base := base) (a_kd_lt hk2 (by decide))
  rw [a_E_arr.1 hk2] at hat2
  have hnf : nativeFrameWords "java/lang/System" "arraycopy" 5 ≤ 40 := by decide +kernel
  refine va_copyi (ty := .int) hx hb (hmL.trans hls.symm) hown (hts _ (hG _ (a_lk_inv hl))) (hts _ (hG _ (a_lk_inv h1))) (hts _ (hG _ (a_lk_inv h2))) (hts _ (hG _ (a_lk_inv h3))) hK.1 hD.1 a_D hD.2.1 a a2 0 0 hat hat2 rfl rfl rfl s1 s2 s3 s4 s5 (fun _ _ => rfl) (by omega) (by omega) hdg fun H1 locs1 g1 _ g3 => kk H1 locs1 (a_Dy_put (g := a_rI h a2 (va_cpy (h.2.1 a) (h.2.1 a2) sp.toNatClampNeg dp.toNatClampNeg n.toNatClampNeg)) hD rfl (fun j hj => a_E_rI hj) ?_ rfl g1 g3)
  rw [a_E_arr.1 (show a_kd (a_rI h a2 _) a2 = 100 from hk2)]
  simp [a_rI, a_ln, va_up]
theorem a_copj (F : a_Fx p R s m args meth c cc nL own nm Ts D aC base b X d) (hD : a_Dy s D aC base n0 h H locs cells slots) (hls : ls.size = nL) {a a2 index wl w1 w2 w3 : Nat} {sp dp n : Int32} (hl : a_lk wl (.methodLink own index arraycopyName) = true) (h1 : a_lk w1 (.native arraycopyName) = true) (h2 : a_lk w2 (.static arraycopyName) = true) (h3 : a_lk w3 (.initialized "java/lang/System") = true)
    (hk : a_kd h a = 101) (hk2 : a_kd h a2 = 101) (s1 : ¬ sp < 0) (s2 : ¬ dp < 0) (s3 : ¬ n < 0) (s4 : sp.toNatClampNeg + n.toNatClampNeg ≤ a_ln h a) (s5 : dp.toNatClampNeg + n.toNatClampNeg ≤ a_ln h a2) (hw : (rest.map fun v => v.category).sum ≤ 8) (hdg : decode cc pc = .ok (.invokestatic index, 3))
    (kk : ∀ (H1 : Heap) (locs1 : List Loc), a_Dy s D aC base n0 (a_rJ h a2 (va_cpy (h.2.2.1 a) (h.2.2.1 a2) sp.toNatClampNeg dp.toNatClampNeg n.toNatClampNeg)) H1 locs1 cells slots → W p l e R s m args below meth c H1 locs1 cells slots Q (F0 m (pc + 3) ls rest)) : W p l e R s m args below meth c H locs cells slots Q (F0 m pc ls (.int n :: .int dp :: .ref (base + a2) :: .int sp :: .ref (base + a) :: rest)) := by
  obtain ⟨hx, hb, hmL, hown, hts, hG, hK, -, -, -, -, hfr, hlo⟩ := F
  have hat := a_ws_at (aC := aC) (base := base) (a_kd_lt hk (by decide))
  rw [a_E_arr.2.1 hk] at hat
  have hat2 := a_ws_at (aC := aC) (base := base) (a_kd_lt hk2 (by decide))
  rw [a_E_arr.2.1 hk2] at hat2
  have hnf : nativeFrameWords "java/lang/System" "arraycopy" 5 ≤ 40 := by decide +kernel
  refine va_copyl (ty := .long) hx hb (hmL.trans hls.symm) hown (hts _ (hG _ (a_lk_inv hl))) (hts _ (hG _ (a_lk_inv h1))) (hts _ (hG _ (a_lk_inv h2))) (hts _ (hG _ (a_lk_inv h3))) hK.1 hD.1 a_D hD.2.1 a a2 1 1 hat hat2 rfl rfl rfl s1 s2 s3 s4 s5 (fun _ _ => rfl) (by omega) (by omega) hdg fun H1 locs1 g1 _ g3 => kk H1 locs1 (a_Dy_put (g := a_rJ h a2 (va_cpy (h.2.2.1 a) (h.2.2.1 a2) sp.toNatClampNeg dp.toNatClampNeg n.toNatClampNeg)) hD rfl (fun j hj => a_E_rJ hj) ?_ rfl g1 g3)
  rw [a_E_arr.2.1 (show a_kd (a_rJ h a2 _) a2 = 101 from hk2)]
  simp [a_rJ, a_ln, va_up]
end NW
