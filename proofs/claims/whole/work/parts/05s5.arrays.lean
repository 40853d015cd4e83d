section AR
variable {p : Program} {l : Launch} {e : Env} {R : Room} {s : State} {m : MethodId} {args : Array Value} {below : List Frame} {meth : Method} {c : Code} {Q : State → Prop} {cc : ByteArray} {nL : Nat} {own nm : String} {Ts : List Cond} {D : va_G} {aC : Nat → ClassId} {base : Nat} {b : Nat × Nat} {X : Nat × (Nat → Int32)} {n0 : Nat × Nat} {d : Nat}
variable {pc : Nat} {h : A_H} {H : Heap} {locs : List Loc} {cells slots : Nat} {ls : Array Slot} {rest : List Value}
theorem a_Dy_put {g : A_H} {a : Nat} {E : va_E} (hD : a_Dy s D aC base n0 h H locs cells slots) (hgl : g.1.length = h.1.length) (hgo : ∀ j, j ≠ a → a_E aC base g j = a_E aC base h j) (hge : a_E aC base g a = E) (hgn : g.2.2.2 = h.2.2.2) {H1 : Heap} {locs1 : List Loc} (hP1 : va_P D a_cl ((a_ws aC base h).set a (base + a, E)) H1) (hS1 : va_S (fun q => base ≤ q) s.heap H1 locs1) : a_Dy s D aC base n0 g H1 locs1 cells slots := by
  obtain ⟨hP, hS, hsz, hcn, hsn⟩ := hD
  refine ⟨by rw [a_ws_put hgl hgo, hge]; exact hP1, hS1, ?_, ?_, ?_⟩
  · rw [hgn, hgl]
    have : a_nc g = a_nc h := by unfold a_nc; rw [hgn]
    rw [this]
    exact hsz
  · unfold a_nc; rw [hgn]; exact hcn
  · unfold a_ns; rw [hgn]; exact hsn
theorem a_iald1 (F : a_Fx p R s m args meth c cc nL own nm Ts D aC base b X d) (hD : a_Dy s D aC base n0 h H locs cells slots) {a : Nat} {i : Int32} (hk : a_kd h a = 100) (hi : vp_in i (a_ln h a)) (hdg : decode cc pc = .ok (.iaload, 1))
    (kk : W p l e R s m args below meth c H locs cells slots Q (F0 m (pc + 1) ls (.int (a_iv h a i.toNatClampNeg) :: rest))) : W p l e R s m args below meth c H locs cells slots Q (F0 m pc ls (.int i :: .ref (base + a) :: rest)) := by
  obtain ⟨hx, hb, hmL, hown, hts, hG, hK, -⟩ := F
  have hat := a_ws_at (aC := aC) (base := base) (a_kd_lt hk (by decide))
  rw [a_E_arr.1 hk] at hat
  exact va_iald hx hb hK.1 hD.1 a 0 hat rfl hi hdg kk
theorem a_iast1 (F : a_Fx p R s m args meth c cc nL own nm Ts D aC base b X d) (hD : a_Dy s D aC base n0 h H locs cells slots) {a : Nat} {i x : Int32} (hk : a_kd h a = 100) (hi : vp_in i (a_ln h a)) (hdg : decode cc pc = .ok (.iastore, 1))
    (kk : ∀ (H1 : Heap) (locs1 : List Loc), a_Dy s D aC base n0 (a_sI h a i.toNatClampNeg x) H1 locs1 cells slots → W p l e R s m args below meth c H1 locs1 cells slots Q (F0 m (pc + 1) ls rest)) : W p l e R s m args below meth c H locs cells slots Q (F0 m pc ls (.int x :: .int i :: .ref (base + a) :: rest)) := by
  obtain ⟨hx, hb, hmL, hown, hts, hG, hK, -⟩ := F
  have hat := a_ws_at (aC := aC) (base := base) (a_kd_lt hk (by decide))
  rw [a_E_arr.1 hk] at hat
  refine va_iast hx hb hK.1 hD.1 a_D hD.2.1 a 0 hat rfl hi hdg fun H1 locs1 g1 _ g3 => kk H1 locs1 (a_Dy_put (g := a_sI h a i.toNatClampNeg x) hD rfl (fun j hj => a_E_sI hj) ?_ rfl g1 g3)
  rw [a_E_arr.1 (show a_kd (a_sI h a i.toNatClampNeg x) a = 100 from hk)]
  simp [a_sI, a_ln, va_up]
theorem a_lald1 (F : a_Fx p R s m args meth c cc nL own nm Ts D aC base b X d) (hD : a_Dy s D aC base n0 h H locs cells slots) {a : Nat} {i : Int32} (hk : a_kd h a = 101) (hi : vp_in i (a_ln h a)) (hdg : decode cc pc = .ok (.laload, 1))
    (kk : W p l e R s m args below meth c H locs cells slots Q (F0 m (pc + 1) ls (.long (a_jv h a i.toNatClampNeg) :: rest))) : W p l e R s m args below meth c H locs cells slots Q (F0 m pc ls (.int i :: .ref (base + a) :: rest)) := by
  obtain ⟨hx, hb, hmL, hown, hts, hG, hK, -⟩ := F
  have hat := a_ws_at (aC := aC) (base := base) (a_kd_lt hk (by decide))
  rw [a_E_arr.2.1 hk] at hat
  exact va_lald hx hb hK.1 hD.1 a 1 hat rfl hi hdg kk
theorem a_last1 (F : a_Fx p R s m args meth c cc nL own nm Ts D aC base b X d) (hD : a_Dy s D aC base n0 h H locs cells slots) {a : Nat} {i : Int32} {x : Int64} (hk : a_kd h a = 101) (hi : vp_in i (a_ln h a)) (hdg : decode cc pc = .ok (.lastore, 1))
    (kk : ∀ (H1 : Heap) (locs1 : List Loc), a_Dy s D aC base n0 (a_sJ h a i.toNatClampNeg x) H1 locs1 cells slots → W p l e R s m args below meth c H1 locs1 cells slots Q (F0 m (pc + 1) ls rest)) : W p l e R s m args below meth c H locs cells slots Q (F0 m pc ls (.long x :: .int i :: .ref (base + a) :: rest)) := by
  obtain ⟨hx, hb, hmL, hown, hts, hG, hK, -⟩ := F
  have hat := a_ws_at (aC := aC) (base := base) (a_kd_lt hk (by decide))
  rw [a_E_arr.2.1 hk] at hat
  refine va_last hx hb hK.1 hD.1 a_D hD.2.1 a 1 hat rfl hi hdg fun H1 locs1 g1 _ g3 => kk H1 locs1 (a_Dy_put (g := a_sJ h a i.toNatClampNeg x) hD rfl (fun j hj => a_E_sJ hj) ?_ rfl g1 g3)
  rw [a_E_arr.2.1 (show a_kd (a_sJ h a i.toNatClampNeg x) a = 101 from hk)]
  simp [a_sJ, a_ln, va_up]
theorem a_bald1 (F : a_Fx p R s m args meth c cc nL own nm Ts D aC base b X d) (hD : a_Dy s D aC base n0 h H locs cells slots) {a : Nat} {i : Int32} (hk : a_kd h a = 102 ∨ a_kd h a = 103) (hi : vp_in i (a_ln h a)) (hdg : decode cc pc = .ok (.baload, 1))
    (kk : W p l e R s m args below meth c H locs cells slots Q (F0 m (pc + 1) ls (.int (a_iv h a i.toNatClampNeg) :: rest))) : W p l e R s m args below meth c H locs cells slots Q (F0 m pc ls (.int i :: .ref (base + a) :: rest)) := by
  obtain ⟨hx, hb, hmL, hown, hts, hG, hK, -⟩ := F
  rcases hk with hk | hk
  · have hat := a_ws_at (aC := aC) (base := base) (a_kd_lt hk (by decide))
    rw [a_E_arr.2.2.1 hk] at hat
    exact va_zald hx hb hK.1 hD.1 a 2 hat rfl hi hdg kk
  · have hat := a_ws_at (aC := aC) (base := base) (a_kd_lt hk (by decide))
    rw [a_E_arr.2.2.2.1 hk] at hat
    exact va_bald hx hb hK.1 hD.1 a 3 hat rfl hi hdg kk
theorem a_zast1 (F : a_Fx p R s m args meth c cc nL own nm Ts D aC base b X d) (hD : a_Dy s D aC base n0 h H locs cells slots) {a : Nat} {i x : Int32} (hk : a_kd h a = 102) (hi : vp_in i (a_ln h a)) (hdg : decode cc pc = .ok (.bastore, 1))
    (kk : ∀ (H1 : Heap) (locs1 : List Loc), a_Dy s D aC base n0 (a_sI h a i.toNatClampNeg (x &&& 1)) H1 locs1 cells slots → W p l e R s m args below meth c H1 locs1 cells slots Q (F0 m (pc + 1) ls rest)) : W p l e R s m args below meth c H locs cells slots Q (F0 m pc ls (.int x :: .int i :: .ref (base + a) :: rest)) := by
  obtain ⟨hx, hb, hmL, hown, hts, hG, hK, -⟩ := F
  have hat := a_ws_at (aC := aC) (base := base) (a_kd_lt hk (by decide))
  rw [a_E_arr.2.2.1 hk] at hat
  refine va_zast hx hb hK.1 hD.1 a_D hD.2.1 a 2 hat rfl hi hdg fun H1 locs1 g1 _ g3 => kk H1 locs1 (a_Dy_put (g := a_sI h a i.toNatClampNeg (x &&& 1)) hD rfl (fun j hj => a_E_sI hj) ?_ rfl g1 g3)
  rw [a_E_arr.2.2.1 (show a_kd (a_sI h a i.toNatClampNeg (x &&& 1)) a = 102 from hk)]
  have : vp_nar .boolean x = x &&& 1 := rfl
  simp [a_sI, a_ln, va_up, this]
theorem a_bast1 (F : a_Fx p R s m args meth c cc nL own nm Ts D aC base b X d) (hD : a_Dy s D aC base n0 h H locs cells slots) {a : Nat} {i x : Int32} (hk : a_kd h a = 103) (hi : vp_in i (a_ln h a)) (hdg : decode cc pc = .ok (.bastore, 1))
    (kk : ∀ (H1 : Heap) (locs1 : List Loc), a_Dy s D aC base n0 (a_sI h a i.toNatClampNeg x.toInt8.toInt32) H1 locs1 cells slots → W p l e R s m args below meth c H1 locs1 cells slots Q (F0 m (pc + 1) ls rest)) : W p l e R s m args below meth c H locs cells slots Q (F0 m pc ls (.int x :: .int i :: .ref (base + a) :: rest)) := by
  obtain ⟨hx, hb, hmL, hown, hts, hG, hK, -⟩ := F
  have hat := a_ws_at (aC := aC) (base := base) (a_kd_lt hk (by decide))
  rw [a_E_arr.2.2.2.1 hk] at hat
  refine va_bast hx hb hK.1 hD.1 a_D hD.2.1 a 3 hat rfl hi hdg fun H1 locs1 g1 _ g3 => kk H1 locs1 (a_Dy_put (g := a_sI h a i.toNatClampNeg x.toInt8.toInt32) hD rfl (fun j hj => a_E_sI hj) ?_ rfl g1 g3)
  rw [a_E_arr.2.2.2.1 (show a_kd (a_sI h a i.toNatClampNeg x.toInt8.toInt32) a = 103 from hk)]
  simp [a_sI, a_ln, va_up, vp_nar_byte]
theorem a_alen1 (F : a_Fx p R s m args meth c cc nL own nm Ts D aC base b X d) (hD : a_Dy s D aC base n0 h H locs cells slots) {a : Nat} (hk : a_kd h a = 100) (hdg : decode cc pc = .ok (.arraylength, 1))
    (kk : W p l e R s m args below meth c H locs cells slots Q (F0 m (pc + 1) ls (.int (Int32.ofNat (a_ln h a)) :: rest))) : W p l e R s m args below meth c H locs cells slots Q (F0 m pc ls (.ref (base + a) :: rest)) := by
  obtain ⟨hx, hb, hmL, hown, hts, hG, hK, -⟩ := F
  have hat := a_ws_at (aC := aC) (base := base) (a_kd_lt hk (by decide))
  rw [a_E_arr.1 hk] at hat
  exact va_alen hx hb hK.1 hD.1 a 0 hat rfl rfl hdg kk
theorem a_xn_in {i : Int32} (h : vp_in i (a_xn X)) : X.1 < 4000 ∧ vp_in i X.1 := by
  unfold a_xn at h
  by_cases c : X.1 < 4000
  · rw [if_pos c] at h
    exact ⟨c, h⟩
  · rw [if_neg c] at h
    exact absurd (Or.inr (Nat.zero_le _)) h
theorem a_sld1 (F : a_Fx p R s m args meth c cc nL own nm Ts D aC base b X d) (hD : a_Dy s D aC base n0 h H locs cells slots) (hX4 : X.1 < 4000) {i : Int32} (hi : vp_in i X.1) (hdg : decode cc pc = .ok (.iaload, 1))
    (kk : W p l e R s m args below meth c H locs cells slots Q (F0 m (pc + 1) ls (.int (X.2 i.toNatClampNeg) :: rest))) : W p l e R s m args below meth c H locs cells slots Q (F0 m pc ls (.int i :: .ref b.1 :: rest)) := by
  obtain ⟨hx, hb, hmL, hown, hts, hG, hK, hX, hbl, hz, -⟩ := F
  exact va_sld hx hb (hX.1 hX4) (Nat.lt_of_lt_of_le hbl hz) (Nat.not_le.mpr hbl) hD.2.1 hi hdg kk
theorem a_slen1 (F : a_Fx p R s m args meth c cc nL own nm Ts D aC base b X d) (hD : a_Dy s D aC base n0 h H locs cells slots) (hX4 : X.1 < 4000) (hdg : decode cc pc = .ok (.arraylength, 1))
    (kk : W p l e R s m args below meth c H locs cells slots Q (F0 m (pc + 1) ls (.int (Int32.ofNat X.1) :: rest))) : W p l e R s m args below meth c H locs cells slots Q (F0 m pc ls (.ref b.1 :: rest)) := by
  obtain ⟨hx, hb, hmL, hown, hts, hG, hK, hX, hbl, hz, -⟩ := F
  exact va_slen hx hb (hX.1 hX4) (Nat.lt_of_lt_of_le hbl hz) (Nat.not_le.mpr hbl) hD.2.1 hdg kk
theorem a_aald1 (F : a_Fx p R s m args meth c cc nL own nm Ts D aC base b X d) (hD : a_Dy s D aC base n0 h H locs cells slots) {a r : Nat} {i : Int32} (hk : a_kd h a = 104 ∨ a_kd h a = 105) (hi : vp_in i (a_ln h a)) (hr : a_rf h a i.toNatClampNeg = some r) (hdg : decode cc pc = .ok (.aaload, 1))
    (kk : W p l e R s m args below meth c H locs cells slots Q (F0 m (pc + 1) ls (.ref (base + r) :: rest))) : W p l e R s m args below meth c H locs cells slots Q (F0 m pc ls (.int i :: .ref (base + a) :: rest)) := by
  obtain ⟨hx, hb, hmL, hown, hts, hG, hK, -⟩ := F
  rcases hk with hk | hk
  · have hat := a_ws_at (aC := aC) (base := base) (a_kd_lt hk (by decide))
    rw [a_E_arr.2.2.2.2.1 hk] at hat
    refine va_aldq hx hb hK.1 hD.1 a 4 hat rfl hi hdg ?_
    have e1 : va_rf ((fun i => (a_rf h a i).map (base + ·)) i.toNatClampNeg) = .ref (base + r) := by simp [hr, va_rf]
    rw [e1]
    exact kk
  · have hat := a_ws_at (aC := aC) (base := base) (a_kd_lt hk (by decide))
    rw [a_E_arr.2.2.2.2.2 hk] at hat
    refine va_aldq hx hb hK.1 hD.1 a 5 hat rfl hi hdg ?_
    have e1 : va_rf ((fun i => (a_rf h a i).map (base + ·)) i.toNatClampNeg) = .ref (base + r) := by simp [hr, va_rf]
    rw [e1]
    exact kk
theorem a_sR_len {a k r : Nat} : (a_sR h a k r).1.length = h.1.length := by simp [a_sR]
theorem a_sR_self {a k r : Nat} (ha : a < h.1.length) : (a_sR h a k r).1[a]? = some (a_kd h a, a_ln h a, (match h.1[a]? with
  | some c => c.2.2.set k (some r)
  | none => [])) := by simp [a_sR, ha]
theorem a_sR_kd {a k r : Nat} (ha : a < h.1.length) : a_kd (a_sR h a k r) a = a_kd h a := by
  conv => lhs; unfold a_kd
  rw [a_sR_self ha]
theorem a_sR_ln {a k r : Nat} (ha : a < h.1.length) : a_ln (a_sR h a k r) a = a_ln h a := by
  conv => lhs; unfold a_ln
  rw [a_sR_self ha]
theorem a_sR_rf {a k r j : Nat} (ha : a < h.1.length) : a_rf (a_sR h a k r) a j = if j = k ∧ k < (match h.1[a]? with
  | some c => c.2.2.length
  | none => 0) then some r else a_rf h a j := by
  conv => lhs; unfold a_rf
  rw [a_sR_self ha]
  unfold a_rf
  cases e : h.1[a]? with
  | none => rw [List.getElem?_eq_none_iff] at e; omega
  | some q =>
    dsimp only
    by_cases hj : j = k
    · subst hj
      by_cases hl : j < q.2.2.length
      · rw [List.getElem?_set_self hl]; simp [hl]
      · rw [List.getElem?_eq_none (by rw [List.length_set]; omega), List.getElem?_eq_none (by omega)]; simp [hl]
    · rw [List.getElem?_set_ne (Ne.symm hj)]; simp [hj]
end AR
