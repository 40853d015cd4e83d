/-! THE ABSTRACT HEAP IN THE MACHINE'S: a cell's number and its address, the world's list -/
def a_cV (base : Nat) (b : Nat × Nat) : Value → Value
  | .ref a => .ref (base + a)
  | .retAddr 1 => .ref b.1
  | .retAddr 2 => .ref b.2
  | v => v
def a_fv (base : Nat) (h : A_H) (a : Nat) (d : String) (k : Nat) : Value := if a_tg d = 2 then .long (a_jv h a k) else if a_tg d = 3 then va_rf ((a_rf h a k).map (base + ·)) else .int (a_iv h a k)
def a_fs (base : Nat) (h : A_H) (a : Nat) (T : u_T) (N : Nat) : List Value := (List.range N).map fun k => a_fv base h a (T k).2.2.1 k
def a_E (aC : Nat → ClassId) (base : Nat) (h : A_H) (a : Nat) : va_E :=
  if a_kd h a = 100 then .inl (aC 0, a_ln h a, .inl (h.2.1 a))
  else if a_kd h a = 101 then .inl (aC 1, a_ln h a, .inr (.inl (h.2.2.1 a)))
  else if a_kd h a = 102 then .inl (aC 2, a_ln h a, .inl (h.2.1 a))
  else if a_kd h a = 103 then .inl (aC 3, a_ln h a, .inl (h.2.1 a))
  else if a_kd h a = 104 then .inl (aC 4, a_ln h a, .inr (.inr (.inr (.inr (fun i => (a_rf h a i).map (base + ·))))))
  else if a_kd h a = 105 then .inl (aC 5, a_ln h a, .inr (.inr (.inr (.inr (fun i => (a_rf h a i).map (base + ·))))))
  else (match a_cl[a_kd h a]? with
    | some q => .inr (a_kd h a, a_fs base h a q.2.1 q.2.2)
    | none => .inr (999, []))
def a_ws (aC : Nat → ClassId) (base : Nat) (h : A_H) : va_W := (List.range h.1.length).map fun a => (base + a, a_E aC base h a)
theorem a_ws_at {aC : Nat → ClassId} {base : Nat} {h : A_H} {a : Nat} (ha : a < h.1.length) : (a_ws aC base h)[a]? = some (base + a, a_E aC base h a) := by
  simp [a_ws, ha]
theorem a_ws_len {aC : Nat → ClassId} {base : Nat} {h : A_H} : (a_ws aC base h).length = h.1.length := by simp [a_ws]
theorem a_ws_inv {aC : Nat → ClassId} {base : Nat} {h : A_H} {k : Nat} {q : Nat × va_E} (hk : (a_ws aC base h)[k]? = some q) : k < h.1.length ∧ q = (base + k, a_E aC base h k) := by
  have hl : k < (a_ws aC base h).length := (List.getElem?_eq_some_iff.mp hk).1
  rw [a_ws_len] at hl
  rw [a_ws_at hl] at hk
  exact ⟨hl, (Option.some.inj hk).symm⟩
theorem a_ws_put {aC : Nat → ClassId} {base : Nat} {h g : A_H} {a : Nat} (hl : g.1.length = h.1.length) (ho : ∀ b, b ≠ a → a_E aC base g b = a_E aC base h b) : a_ws aC base g = (a_ws aC base h).set a (base + a, a_E aC base g a) := by
  apply List.ext_getElem?
  intro i
  by_cases hi : i < h.1.length
  · rw [a_ws_at (by rw [hl]; exact hi)]
    by_cases e : a = i
    · subst e
      rw [List.getElem?_set_self (by rw [a_ws_len]; exact hi)]
    · rw [List.getElem?_set_ne e, a_ws_at hi, ho i (Ne.symm e)]
  · rw [List.getElem?_eq_none (by rw [a_ws_len, hl]; omega), List.getElem?_eq_none (by rw [List.length_set, a_ws_len]; omega)]
theorem a_ws_new {aC : Nat → ClassId} {base : Nat} {h g : A_H} (hl : g.1.length = h.1.length + 1) (ho : ∀ b, b < h.1.length → a_E aC base g b = a_E aC base h b) : a_ws aC base g = a_ws aC base h ++ [(base + h.1.length, a_E aC base g h.1.length)] := by
  apply List.ext_getElem?
  intro i
  by_cases hi : i < h.1.length
  · rw [a_ws_at (by rw [hl]; omega), List.getElem?_append_left (by rw [a_ws_len]; exact hi), a_ws_at hi, ho i hi]
  · by_cases e : i = h.1.length
    · subst e
      rw [a_ws_at (by rw [hl]; omega), List.getElem?_append_right (by rw [a_ws_len]; omega), a_ws_len]
      simp
    · rw [List.getElem?_eq_none (by rw [a_ws_len, hl]; omega), List.getElem?_eq_none (by simp [a_ws_len]; omega)]
theorem a_D {aC : Nat → ClassId} {base : Nat} {h : A_H} : va_D (fun q => base ≤ q) (a_ws aC base h) := by
  refine ⟨fun i j x y hi hj hxy => ?_, fun k q hk => ?_⟩
  · have h1 := (a_ws_inv hi).2
    have h2 := (a_ws_inv hj).2
    subst h1; subst h2
    simp only at hxy
    omega
  · have h1 := (a_ws_inv hk).2
    subst h1
    exact Nat.le_add_right _ _
theorem a_kd_lt {h : A_H} {a c : Nat} (hk : a_kd h a = c) (hc : c ≠ 999) : a < h.1.length := by
  unfold a_kd at hk
  cases e : h.1[a]? with
  | none => rw [e] at hk; exact absurd hk.symm hc
  | some q => exact (List.getElem?_eq_some_iff.mp e).1
/-! what a store does to the world -/
theorem a_E_sI {aC : Nat → ClassId} {base : Nat} {h : A_H} {a k : Nat} {x : Int32} {b : Nat} (hb : b ≠ a) : a_E aC base (a_sI h a k x) b = a_E aC base h b := by
  have e1 : a_kd (a_sI h a k x) b = a_kd h b := rfl
  have e2 : a_ln (a_sI h a k x) b = a_ln h b := rfl
  have e3 : (a_sI h a k x).2.1 b = h.2.1 b := by simp [a_sI, va_up, hb]
  have e4 : (a_sI h a k x).2.2.1 b = h.2.2.1 b := rfl
  have e5 : ∀ T N, a_fs base (a_sI h a k x) b T N = a_fs base h b T N := by
    intro T N
    unfold a_fs
    apply List.map_congr_left
    intro j _
    have : a_iv (a_sI h a k x) b j = a_iv h b j := by show (a_sI h a k x).2.1 b j = h.2.1 b j; rw [e3]
    unfold a_fv
    rw [this]
    rfl
  unfold a_E
  rw [e1, e2, e3, e4]
  simp only [e5]
  rfl
theorem a_E_rI {aC : Nat → ClassId} {base : Nat} {h : A_H} {a : Nat} {f : Nat → Int32} {b : Nat} (hb : b ≠ a) : a_E aC base (a_rI h a f) b = a_E aC base h b := by
  have e3 : (a_rI h a f).2.1 b = h.2.1 b := by simp [a_rI, va_up, hb]
  have e5 : ∀ T N, a_fs base (a_rI h a f) b T N = a_fs base h b T N := by
    intro T N
    unfold a_fs
    apply List.map_congr_left
    intro j _
    have : a_iv (a_rI h a f) b j = a_iv h b j := by show (a_rI h a f).2.1 b j = h.2.1 b j; rw [e3]
    unfold a_fv
    rw [this]
    rfl
  unfold a_E
  rw [e3]
  simp only [e5]
  rfl
theorem a_E_rJ {aC : Nat → ClassId} {base : Nat} {h : A_H} {a : Nat} {f : Nat → Int64} {b : Nat} (hb : b ≠ a) : a_E aC base (a_rJ h a f) b = a_E aC base h b := by
  have e3 : (a_rJ h a f).2.2.1 b = h.2.2.1 b := by simp [a_rJ, va_up, hb]
  have e5 : ∀ T N, a_fs base (a_rJ h a f) b T N = a_fs base h b T N := by
    intro T N
    unfold a_fs
    apply List.map_congr_left
    intro j _
    have : a_jv (a_rJ h a f) b j = a_jv h b j := by show (a_rJ h a f).2.2.1 b j = h.2.2.1 b j; rw [e3]
    unfold a_fv
    rw [this]
    rfl
  unfold a_E
  rw [e3]
  simp only [e5]
  rfl
theorem a_E_sJ {aC : Nat → ClassId} {base : Nat} {h : A_H} {a k : Nat} {x : Int64} {b : Nat} (hb : b ≠ a) : a_E aC base (a_sJ h a k x) b = a_E aC base h b := a_E_rJ (f := vp_updL (h.2.2.1 a) k x) hb
theorem a_sR_at {h : A_H} {a k r b : Nat} (hb : b ≠ a) : (a_sR h a k r).1[b]? = h.1[b]? := by
  simp only [a_sR]
  rw [List.getElem?_set_ne (Ne.symm hb)]
theorem a_E_sR {aC : Nat → ClassId} {base : Nat} {h : A_H} {a k r : Nat} {b : Nat} (hb : b ≠ a) : a_E aC base (a_sR h a k r) b = a_E aC base h b := by
  have e1 : a_kd (a_sR h a k r) b = a_kd h b := by unfold a_kd; rw [a_sR_at hb]
  have e2 : a_ln (a_sR h a k r) b = a_ln h b := by unfold a_ln; rw [a_sR_at hb]
  have e3 : ∀ j, a_rf (a_sR h a k r) b j = a_rf h b j := by intro j; unfold a_rf; rw [a_sR_at hb]
  have e5 : ∀ T N, a_fs base (a_sR h a k r) b T N = a_fs base h b T N := by
    intro T N
    unfold a_fs
    apply List.map_congr_left
    intro j _
    unfold a_fv
    rw [e3]
    rfl
  unfold a_E
  rw [e1, e2]
  simp only [e3, e5]
  rfl
theorem a_mk_at {h : A_H} {c : A_C} {w b : Nat} (hb : b < h.1.length) : (a_mk h c w).1[b]? = h.1[b]? := by
  simp only [a_mk]
  rw [List.getElem?_append_left hb]
theorem a_E_mk {aC : Nat → ClassId} {base : Nat} {h : A_H} {c : A_C} {w b : Nat} (hb : b < h.1.length) : a_E aC base (a_mk h c w) b = a_E aC base h b := by
  have e1 : a_kd (a_mk h c w) b = a_kd h b := by unfold a_kd; rw [a_mk_at hb]
  have e2 : a_ln (a_mk h c w) b = a_ln h b := by unfold a_ln; rw [a_mk_at hb]
  have e3 : ∀ j, a_rf (a_mk h c w) b j = a_rf h b j := by intro j; unfold a_rf; rw [a_mk_at hb]
  have e4 : (a_mk h c w).2.1 b = h.2.1 b := by simp [a_mk, va_up]; omega
  have e6 : (a_mk h c w).2.2.1 b = h.2.2.1 b := by simp [a_mk, va_up]; omega
  have e5 : ∀ T N, a_fs base (a_mk h c w) b T N = a_fs base h b T N := by
    intro T N
    unfold a_fs
    apply List.map_congr_left
    intro j _
    have i1 : a_iv (a_mk h c w) b j = a_iv h b j := by show (a_mk h c w).2.1 b j = h.2.1 b j; rw [e4]
    have i2 : a_jv (a_mk h c w) b j = a_jv h b j := by show (a_mk h c w).2.2.1 b j = h.2.2.1 b j; rw [e6]
    unfold a_fv
    rw [e3, i1, i2]
  unfold a_E
  rw [e1, e2, e4, e6]
  simp only [e3, e5]
/-! fields -/
theorem a_fs_at {base : Nat} {h : A_H} {a : Nat} {T : u_T} {N k : Nat} (hk : k < N) : (a_fs base h a T N)[k]? = some (a_fv base h a (T k).2.2.1 k) := by
  simp [a_fs, hk]
theorem a_fs_len {base : Nat} {h : A_H} {a : Nat} {T : u_T} {N : Nat} : (a_fs base h a T N).length = N := by simp [a_fs]
theorem a_fs_set {base : Nat} {h g : A_H} {a : Nat} {T : u_T} {N k : Nat} {v : Value} (hv : a_fv base g a (T k).2.2.1 k = v) (ho : ∀ j, j ≠ k → a_fv base g a (T j).2.2.1 j = a_fv base h a (T j).2.2.1 j) : a_fs base g a T N = (a_fs base h a T N).set k v := by
  apply List.ext_getElem?
  intro i
  by_cases hi : i < N
  · rw [a_fs_at hi]
    by_cases e : k = i
    · subst e
      rw [List.getElem?_set_self (by rw [a_fs_len]; exact hi), hv]
    · rw [List.getElem?_set_ne e, a_fs_at hi, ho i (Ne.symm e)]
  · rw [List.getElem?_eq_none (by rw [a_fs_len]; omega), List.getElem?_eq_none (by rw [List.length_set, a_fs_len]; omega)]
theorem a_E_obj {aC : Nat → ClassId} {base : Nat} {h : A_H} {a ci : Nat} {q : vw_C} (hk : a_kd h a = ci) (hc : a_cl[ci]? = some q) : a_E aC base h a = .inr (ci, a_fs base h a q.2.1 q.2.2) := by
  have hl : ci < 13 := (List.getElem?_eq_some_iff.mp hc).1
  unfold a_E
  rw [hk, if_neg (by omega), if_neg (by omega), if_neg (by omega), if_neg (by omega), if_neg (by omega), if_neg (by omega), hc]
/-! locals -/
def a_LR (base : Nat) (b : Nat × Nat) (ls : Array Slot) (nL : Nat) (L : List Value) : Prop := ls.size = nL ∧ lv_wf ls ∧ L.length = nL ∧ ∀ (i : Nat) (v : Value), L[i]? = some v → v ≠ .retAddr 0 → ls[i]? = some (.val (a_cV base b v))
def a_lv (base : Nat) (b : Nat × Nat) (L : List Value) : List (Nat × Value) := (List.range L.length).filterMap fun i => (match L[i]? with
  | some v => if v = .retAddr 0 then none else some (i, a_cV base b v)
  | none => none)
theorem a_lv_mem {base : Nat} {b : Nat × Nat} {L : List Value} {q : Nat × Value} : q ∈ a_lv base b L ↔ ∃ v, L[q.1]? = some v ∧ v ≠ .retAddr 0 ∧ q.2 = a_cV base b v := by
  unfold a_lv
  rw [List.mem_filterMap]
  constructor
  · rintro ⟨i, hi, h⟩
    cases e : L[i]? with
    | none => rw [e] at h; cases h
    | some v =>
      rw [e] at h
      by_cases hv : v = .retAddr 0
      · simp [hv] at h
      · simp only [hv, if_false] at h
        cases h
        exact ⟨v, e, hv, rfl⟩
  · rintro ⟨v, h1, h2, h3⟩
    refine ⟨q.1, List.mem_range.mpr (List.getElem?_eq_some_iff.mp h1).1, ?_⟩
    rw [h1]
    simp only [h2, if_false]
    rw [← h3]
theorem a_LR.has {base : Nat} {b : Nat × Nat} {ls : Array Slot} {nL : Nat} {L : List Value} (h : a_LR base b ls nL L) : lv_has ls nL (a_lv base b L) := by
  refine ⟨h.1, h.2.1, fun q hq => ?_⟩
  obtain ⟨v, h1, h2, h3⟩ := a_lv_mem.mp hq
  rw [h3]
  exact h.2.2.2 q.1 v h1 h2
theorem a_cV_cat {base : Nat} {b : Nat × Nat} (v : Value) : (a_cV base b v).category = v.category := by
  cases v with
  | retAddr n => match n with
    | 0 => rfl
    | 1 => rfl
    | 2 => rfl
    | n + 3 => rfl
  | _ => rfl
theorem a_nl_cat {L : List Value} {n : Nat} (h : a_nl L (n + 1) = true) {v : Value} (hv : L[n]? = some v) : v.category = 1 := by
  simp only [a_nl, hv] at h
  cases v <;> first | rfl | simp at h
theorem a_LR.put1 {base : Nat} {b : Nat × Nat} {ls ls' : Array Slot} {nL i : Nat} {L : List Value} {v w : Value} (h : a_LR base b ls nL L) (hw : w = a_cV base b v) (hn : a_nl L i = true) (h' : lv_has ls' nL ((i, w) :: (a_lv base b L).filter (fun q => !(q.1 == i) && !(q.1 + 1 == i && q.2.category == 2)))) : a_LR base b ls' nL (L.set i v) := by
  refine ⟨h'.1, h'.2.1, by rw [List.length_set]; exact h.2.2.1, fun j x hx hne => ?_⟩
  by_cases e : i = j
  · subst e
    have hl : i < L.length := by
      have := (List.getElem?_eq_some_iff.mp hx).1
      rw [List.length_set] at this
      exact this
    rw [List.getElem?_set_self hl] at hx
    cases hx
    rw [← hw]
    exact h'.2.2 (i, w) List.mem_cons_self
  · rw [List.getElem?_set_ne e] at hx
    refine h'.2.2 (j, a_cV base b x) (List.mem_cons_of_mem _ (List.mem_filter.mpr ⟨a_lv_mem.mpr ⟨x, hx, hne, rfl⟩, ?_⟩))
    simp only [Bool.and_eq_true, Bool.not_eq_true', beq_eq_false_iff_ne, ne_eq]
    refine ⟨fun z => e z.symm, ?_⟩
    by_cases e2 : j + 1 = i
    · subst e2
      have : x.category = 1 := a_nl_cat hn hx
      simp [a_cV_cat, this]
    · simp [e2]
theorem a_LR.put2 {base : Nat} {b : Nat × Nat} {ls ls' : Array Slot} {nL i : Nat} {L : List Value} {x : Int64} (h : a_LR base b ls nL L) (hn : a_nl L i = true) (h' : lv_has ls' nL ((i, .long x) :: (a_lv base b L).filter (fun q => !(q.1 == i) && (!(q.1 == i + 1) && !(q.1 + 1 == i && q.2.category == 2))))) : a_LR base b ls' nL ((L.set i (.long x)).set (i + 1) (.retAddr 0)) := by
  refine ⟨h'.1, h'.2.1, by rw [List.length_set, List.length_set]; exact h.2.2.1, fun j y hx hne => ?_⟩
  by_cases e1 : i + 1 = j
  · subst e1
    have hl : i + 1 < (L.set i (.long x)).length := by
      have := (List.getElem?_eq_some_iff.mp hx).1
      rw [List.length_set] at this
      exact this
    rw [List.getElem?_set_self hl] at hx
    cases hx
    exact absurd rfl hne
  · rw [List.getElem?_set_ne e1] at hx
    by_cases e : i = j
    · subst e
      have hl : i < L.length := by
        have := (List.getElem?_eq_some_iff.mp hx).1
        rw [List.length_set] at this
        exact this
      rw [List.getElem?_set_self hl] at hx
      cases hx
      exact h'.2.2 (i, .long x) List.mem_cons_self
    · rw [List.getElem?_set_ne e] at hx
      refine h'.2.2 (j, a_cV base b y) (List.mem_cons_of_mem _ (List.mem_filter.mpr ⟨a_lv_mem.mpr ⟨y, hx, hne, rfl⟩, ?_⟩))
      simp only [Bool.and_eq_true, Bool.not_eq_true', beq_eq_false_iff_ne, ne_eq]
      refine ⟨fun z => e z.symm, fun z => e1 z.symm, ?_⟩
      by_cases e2 : j + 1 = i
      · subst e2
        have : y.category = 1 := a_nl_cat hn hx
        simp [a_cV_cat, this]
      · simp [e2]
