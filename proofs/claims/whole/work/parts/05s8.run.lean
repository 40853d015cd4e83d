/-! A BODY, A METHOD, ALL METHODS -/
theorem a_at_zero {r : List A_O} {n : Nat} : a_at (r.drop n) 0 = a_at r n := rfl
section RN
variable {p : Program} {l : Launch} {e : Env} {R : Room} {s : State} {m : MethodId} {args : Array Value} {below : List Frame} {meth : Method} {c : Code} {Q : State → Prop} {cc : ByteArray} {nL : Nat} {own nm : String} {Ts : List Cond} {D : va_G} {aC : Nat → ClassId} {base : Nat} {b : Nat × Nat} {X : Nat × (Nat → Int32)} {n0 : Nat × Nat} {d : Nat}
variable {hf : A_H} {v : Option Value} {tx : List Int32} {M : Nat → List Value → A_H → A_R} {all : List A_O}
theorem a_rn_ok (F : a_Fx p R s m args meth c cc nL own nm Ts D aC base b X d) (hRc : a_nc hf ≤ n0.1 + R.cells) (hRs : a_ns hf ≤ n0.2 + R.slots) {ag : Nat → List Value → A_H → A_R}
    (hg : ∀ t L h1, ag t L h1 = some (hf, v) → ∃ pc2, a_at all t = some pc2 ∧ a_Wn (fun H locs cells slots g => W p l e R s m args below meth c H locs cells slots Q g) (a_Dy s D aC base n0) m base b nL hf h1 L [] pc2)
    (hM : a_Sm l D aC base b X d M) {rz : Nat}
    (hf1 : v = none → rz = 2 → ∀ H locs cells slots ls pc, a_Dy s D aC base n0 hf H locs cells slots → decode cc pc = .ok (.return_, 1) → W p l e R s m args below meth c H locs cells slots Q (F0 m pc ls []))
    (hf2 : ∀ x, v = some (.int x) → rz ≤ 1 → (rz = 1 → x &&& 1 = x) → ∀ H locs cells slots ls pc, a_Dy s D aC base n0 hf H locs cells slots → decode cc pc = .ok (.ireturn, 1) → W p l e R s m args below meth c H locs cells slots Q (F0 m pc ls [.int x]))
    (hf3 : v = some (.retAddr 0) → ∀ h1 mc ms i L pc, hf = a_th h1 mc ms → (pc, .new i, [1, mc, ms]) ∈ all → ∀ H locs cells slots ls, a_Dy s D aC base n0 h1 H locs cells slots → a_LR base b ls nL L → W p l e R s m args below meth c H locs cells slots Q (F0 m pc ls [])) :
    ∀ r : List A_O, (∀ o ∈ r, o ∈ all) → a_co a_nw a_tn own nm rz cc all r = true → ∀ n L S h, a_rn X a_tx M ag r n L S h = some (hf, v) → ∃ pc2, a_at r n = some pc2 ∧ a_Wn (fun H locs cells slots g => W p l e R s m args below meth c H locs cells slots Q g) (a_Dy s D aC base n0) m base b nL hf h L S pc2 := by
  intro r
  induction r with
  | nil => intro _ _ n L S h hr; simp [a_rn] at hr
  | cons o r ih =>
    intro hsub hco n L S h hr
    unfold a_co at hco
    simp only [Bool.and_eq_true] at hco
    obtain ⟨⟨h1, h2⟩, h3⟩ := hco
    have ih := ih (fun o2 ho => hsub o2 (List.mem_cons_of_mem _ ho)) h3
    cases n with
    | succ n =>
      obtain ⟨pc2, h4, h5⟩ := ih n L S h hr
      exact ⟨pc2, h4, h5⟩
    | zero =>
      refine ⟨o.1, rfl, ?_⟩
      split at h1
      · rename_i j len hdec
        simp only [Bool.and_eq_true, decide_eq_true_eq] at h1
        obtain ⟨⟨h4, h5⟩, h6⟩ := h1
        subst h4
        refine a_step (k := a_rn X a_tx M ag r) F hRc hRs ih hg hM hf1 hf2 hf3 hdec h5 (fun pc2 h7 => ?_) (hsub _ List.mem_cons_self) h2 hr
        cases r with
        | nil => cases h7
        | cons o2 r2 =>
          cases h7
          exact of_decide_eq_true h6
      · cases h1
theorem a_go_ok (F : a_Fx p R s m args meth c cc nL own nm Ts D aC base b X d) (hRc : a_nc hf ≤ n0.1 + R.cells) (hRs : a_ns hf ≤ n0.2 + R.slots)
    (hM : a_Sm l D aC base b X d M) {rz : Nat}
    (hf1 : v = none → rz = 2 → ∀ H locs cells slots ls pc, a_Dy s D aC base n0 hf H locs cells slots → decode cc pc = .ok (.return_, 1) → W p l e R s m args below meth c H locs cells slots Q (F0 m pc ls []))
    (hf2 : ∀ x, v = some (.int x) → rz ≤ 1 → (rz = 1 → x &&& 1 = x) → ∀ H locs cells slots ls pc, a_Dy s D aC base n0 hf H locs cells slots → decode cc pc = .ok (.ireturn, 1) → W p l e R s m args below meth c H locs cells slots Q (F0 m pc ls [.int x]))
    (hf3 : v = some (.retAddr 0) → ∀ h1 mc ms i L pc, hf = a_th h1 mc ms → (pc, .new i, [1, mc, ms]) ∈ all → ∀ H locs cells slots ls, a_Dy s D aC base n0 h1 H locs cells slots → a_LR base b ls nL L → W p l e R s m args below meth c H locs cells slots Q (F0 m pc ls []))
    (hco : a_co a_nw a_tn own nm rz cc all all = true) :
    ∀ f t L h, a_go X a_tx M all f t L h = some (hf, v) → ∃ pc2, a_at all t = some pc2 ∧ a_Wn (fun H locs cells slots g => W p l e R s m args below meth c H locs cells slots Q g) (a_Dy s D aC base n0) m base b nL hf h L [] pc2 := by
  have hdrop : ∀ (t : Nat) (r : List A_O), a_co a_nw a_tn own nm rz cc all r = true → a_co a_nw a_tn own nm rz cc all (r.drop t) = true := by
    intro t
    induction t with
    | zero => intro r h; exact h
    | succ t ih =>
      intro r h
      cases r with
      | nil => exact h
      | cons o r =>
        unfold a_co at h
        simp only [Bool.and_eq_true] at h
        exact ih r h.2
  intro f
  induction f with
  | zero => intro t L h hr; cases hr
  | succ f ih =>
    intro t L h hr
    exact a_rn_ok F hRc hRs ih hM hf1 hf2 hf3 (all.drop t) (fun o ho => List.mem_of_mem_drop ho) (hdrop t all hco) 0 L [] h hr
end RN
/-! locals at the entry -/
theorem a_lo_args {base : Nat} {b : Nat × Nat} : ∀ (vs : List Value) (off i : Nat) (v : Value), (vs.flatMap a_l1)[i]? = some v → v ≠ .retAddr 0 → (off + i, a_cV base b v) ∈ lv_args off (vs.map (a_cV base b)) := by
  intro vs
  induction vs with
  | nil => intro off i v h; simp at h
  | cons a vs ih =>
    intro off i v h hne
    have key : ∀ (hd : List Value) (w : Nat), hd.length = w → (a_cV base b a).category = w → (w = 1 ∨ w = 2) → hd[0]? = some a → (∀ j, 0 < j → j < w → hd[j]? = some (.retAddr 0)) → (hd ++ (vs.flatMap a_l1))[i]? = some v → (off + i, a_cV base b v) ∈ lv_args off ((a :: vs).map (a_cV base b)) := by
      intro hd w h1 h2 h3 h4 h5 h6
      show _ ∈ (off, a_cV base b a) :: lv_args (if (a_cV base b a).category = 2 then off + 2 else off + 1) (vs.map (a_cV base b))
      rw [h2]
      by_cases hi : i < w
      · rw [List.getElem?_append_left (by omega)] at h6
        by_cases hi0 : i = 0
        · subst hi0
          rw [h4] at h6
          cases h6
          exact List.mem_cons_self
        · rw [h5 i (by omega) hi] at h6
          cases h6
          exact absurd rfl hne
      · rw [List.getElem?_append_right (by omega), h1] at h6
        refine List.mem_cons_of_mem _ ?_
        have := ih (if w = 2 then off + 2 else off + 1) (i - w) v h6 hne
        rcases h3 with rfl | rfl
        · simp only [show ¬ (1 : Nat) = 2 by decide, if_false] at this ⊢
          rwa [show off + 1 + (i - 1) = off + i by omega] at this
        · simp only [if_true] at this ⊢
          rwa [show off + 2 + (i - 2) = off + i by omega] at this
    rw [List.flatMap_cons] at h
    cases a with
    | long x => exact key [.long x, .retAddr 0] 2 rfl rfl (Or.inr rfl) rfl (fun j h1 h2 => by rw [show j = 1 by omega]; rfl) h
    | double x => exact key [.double x, .retAddr 0] 2 rfl rfl (Or.inr rfl) rfl (fun j h1 h2 => by rw [show j = 1 by omega]; rfl) h
    | retAddr n => exact key [.retAddr n] 1 rfl (by rw [a_cV_cat]; rfl) (Or.inl rfl) rfl (fun j h1 h2 => by omega) h
    | int x => exact key [.int x] 1 rfl rfl (Or.inl rfl) rfl (fun j h1 h2 => by omega) h
    | float x => exact key [.float x] 1 rfl rfl (Or.inl rfl) rfl (fun j h1 h2 => by omega) h
    | null => exact key [.null] 1 rfl rfl (Or.inl rfl) rfl (fun j h1 h2 => by omega) h
    | ref x => exact key [.ref x] 1 rfl rfl (Or.inl rfl) rfl (fun j h1 h2 => by omega) h
theorem a_sl_len {base : Nat} {b : Nat × Nat} : ∀ vs : List Value, (lg_sl (vs.map (a_cV base b))).length = (vs.flatMap a_l1).length := by
  intro vs
  induction vs with
  | nil => rfl
  | cons a vs ih =>
    have e1 : lg_sl ((a :: vs).map (a_cV base b)) = (if (a_cV base b a).category = 2 then [Slot.val (a_cV base b a), .second] else [.val (a_cV base b a)]) ++ lg_sl (vs.map (a_cV base b)) := by simp [lg_sl]
    rw [e1, List.flatMap_cons, List.length_append, List.length_append, ih, a_cV_cat]
    cases a <;> rfl
theorem a_LR_entry {base : Nat} {b : Nat × Nat} {vs : List Value} {n : Nat} (hn : (a_lo vs n).length = n) : a_LR base b ((lg_sl (vs.map (a_cV base b)) ++ List.replicate (n - (lg_sl (vs.map (a_cV base b))).length) Slot.unset).toArray) n (a_lo vs n) := by
  have hl : (lg_sl (vs.map (a_cV base b))).length ≤ n := by
    rw [a_sl_len]
    unfold a_lo at hn
    simp only [List.length_append, List.length_replicate] at hn
    omega
  obtain ⟨h1, h2, h3⟩ := lv_entry (vs.map (a_cV base b)) hl
  refine ⟨h1, h2, hn, fun i v hv hne => ?_⟩
  refine h3 (i, a_cV base b v) ?_
  have := a_lo_args (base := base) (b := b) vs 0 i v ?_ hne
  · rwa [Nat.zero_add] at this
  · unfold a_lo at hv
    by_cases hi : i < (vs.flatMap a_l1).length
    · rw [List.getElem?_append_left hi] at hv
      exact hv
    · rw [List.getElem?_append_right (by omega)] at hv
      have h4 := List.mem_of_getElem? hv
      exact absurd (List.eq_of_mem_replicate h4) hne
theorem a_rz_2 {r : Option FieldType} (h : a_rz r = 2) : r = none := by
  unfold a_rz at h
  split at h <;> first | rfl | cases h
theorem a_rz_1 {r : Option FieldType} {x : Int32} (h : a_rz r ≤ 1) (hx : a_rz r = 1 → x &&& 1 = x) : ∃ ty, r = some ty ∧ narrow ty (.int x) = .int x := by
  unfold a_rz at h hx
  split at h
  · omega
  · exact ⟨_, rfl, (a_bool (hx rfl)).1⟩
  · exact ⟨_, rfl, rfl⟩
  · omega
/-- a method's contract, out of its run -/
theorem a_met1 {l : Launch} {D : va_G} {aC : Nat → ClassId} {base : Nat} {b : Nat × Nat} {X : Nat × (Nat → Int32)} {d : Nat} {M : Nat → List Value → A_H → A_R} (hM : a_Sm l D aC base b X d M) (hMl : ∀ y vs h h1 w, M y vs h = some (h1, w) → a_le h h1) {y : Nat} {m : A_M} {wc wi : Nat} (hm : a_cm a_nw a_tn y m wc wi = true) {vs : List Value} {h hf : A_H} {v : Option Value} (hv : v ≠ some (.retAddr 0))
    (hr : a_if (Nat.beq (a_lo vs m.2.2.1).length m.2.2.1) (a_go X a_tx M m.2.2.2.2 a_fu 0 (a_lo vs m.2.2.1) h) = some (hf, v)) :
    a_tn[y]? = some (m.1, m.2.2.1, m.2.2.2.1) ∧ a_le h hf ∧ Cond.code m.1 m.2.1 m.2.2.1 m.2.2.2.1 ∈ a_G ∧ m.2.2.1 ≤ 40 ∧
      Met l m.1 (Cond.code m.1 m.2.1 m.2.2.1 m.2.2.2.1 :: a_G) (a_rm (d + 1) (a_nc hf - a_nc h) (a_ns hf - a_ns h)) (va_Pc (vs.map (a_cV base b)) (a_Wd D aC base b X h)) (a_Qc D aC base b hf v) (a_nc hf - a_nc h) (a_ns hf - a_ns h) (fun q => base ≤ q) := by
  obtain ⟨name, bytes, nL, ret, ops⟩ := m
  unfold a_cm at hm
  simp only [Bool.and_eq_true, decide_eq_true_eq] at hm
  obtain ⟨⟨⟨⟨⟨⟨⟨h1, h2⟩, h3⟩, h4⟩, h5⟩, h6⟩, h7⟩, h8⟩ := hm
  obtain ⟨hlen, hr⟩ := a_if_inv hr
  have hlen : (a_lo vs nL).length = nL := Nat.eq_of_beq_eq_true hlen
  have hcode := a_lk_inv h3
  have hle : a_le h hf := a_go_le hMl _ _ _ _ hr
  refine ⟨h1, hle, hcode, Nat.le_of_ble_eq_true h5, ?_⟩
  refine Met.ofW (cc := bytes) (maxL := nL) (ret := ret) h2 rfl ?_
  intro p e s mm args below meth c s₁ B hml hv0
  obtain ⟨rfl, hP, hK, hX, hb1, hb2, hsz⟩ := hv0
  have F : a_Fx p (headSpec (Cond.code name bytes nL ret :: a_G) (a_rm (d + 1) (a_nc hf - a_nc h) (a_ns hf - a_ns h))).room s mm (vs.map (a_cV base b)).toArray meth c bytes nL name.cls name.name (Cond.code name bytes nL ret :: a_G) D aC base b X d :=
    ⟨B.exec, B.bytes, hml, findClass_of_methodNamed B.named, atoms_spec (ws := Cond.code name bytes nL ret :: a_G) B.pre, fun w hw => List.mem_cons_of_mem _ hw, hK, hX, hb1, hb2, (name_of_methodNamed B.named B.method).1, (show d + 9 ≤ d + 1 + 8 by omega), (show 60 * (d + 9) ≤ 60 * (d + 1 + 8) by omega)⟩
  have hret := B.returns
  have hlk := B.notSynchronized
  obtain ⟨hl1, hl2, hl3⟩ := id hle
  obtain ⟨pc2, e1, -, hw⟩ := a_go_ok (l := l) (e := e) (below := below) (Q := MQ below (a_Qc D aC base b hf v) (vs.map (a_cV base b)).toArray s (a_nc hf - a_nc h) (a_ns hf - a_ns h) (fun q => base ≤ q)) (n0 := (a_nc h, a_ns h)) F (show a_nc hf ≤ a_nc h + (a_nc hf - a_nc h) by omega) (show a_ns hf ≤ a_ns h + (a_ns hf - a_ns h) by omega) hM
    (fun hv2 hz H locs cells slots ls pc hD hdg => by
      subst hv2
      have hc1 : cells = a_nc hf - a_nc h := by have : a_nc h + cells = a_nc hf := hD.2.2.2.1; omega
      have hc2 : slots = a_ns hf - a_ns h := by have : a_ns h + slots = a_ns hf := hD.2.2.2.2; omega
      subst hc1; subst hc2
      exact W.vret F.1 F.2.1 (by rw [hret]; exact a_rz_2 hz) (fun t ht hW => ⟨rfl, by rw [ht]; exact hD.1, fun z => (hD.2.2.1 z).1, hD.2.1.F ht⟩) (fun q hq => hD.2.1.2.2 q hq) hdg hlk)
    (fun x hv2 hz hz2 H locs cells slots ls pc hD hdg => by
      subst hv2
      have hc1 : cells = a_nc hf - a_nc h := by have : a_nc h + cells = a_nc hf := hD.2.2.2.1; omega
      have hc2 : slots = a_ns hf - a_ns h := by have : a_ns h + slots = a_ns hf := hD.2.2.2.2; omega
      subst hc1; subst hc2
      obtain ⟨ty, t1, t2⟩ := a_rz_1 hz hz2
      exact W.zret F.1 F.2.1 (by rw [hret]; exact t1) t2 (fun t ht hW => ⟨rfl, by rw [ht]; exact hD.1, fun z => (hD.2.2.1 z).1, hD.2.1.F ht⟩) (fun q hq => hD.2.1.2.2 q hq) hdg hlk)
    (fun hv2 => absurd hv2 hv) h8 a_fu 0 (a_lo vs nL) h hr
  cases h7.symm.trans e1
  rw [lg_entry_eq]
  exact hw s.heap [] 0 0 _ ⟨hP, va_S.rf, fun z => hsz z, Nat.add_zero _, Nat.add_zero _⟩ (a_LR_entry hlen)
/-- all methods of a table that was checked, but for those that are told apart -/
theorem a_all {l : Launch} {D : va_G} {aC : Nat → ClassId} {base : Nat} {b : Nat × Nat} {X : Nat × (Nat → Int32)} {T : List A_M} (sp : Nat → Bool)
    (hT : ∀ y m, T[y]? = some m → sp y = false → a_tn[y]?.isSome = true → ∃ wc wi, a_cm a_nw a_tn y m wc wi = true)
    (hsp : ∀ d, a_Sm l D aC base b X d (a_ex X a_tx T d) → ∀ y vs h h1 v, sp y = true → a_ex X a_tx T (d + 1) y vs h = some (h1, v) → v ≠ some (.retAddr 0) → ∀ z mL rt, a_tn[y]? = some (z, mL, rt) → z.cls = "EndingMarketLaw" ∧ z.name ≠ "<init>" ∧ ∃ bytes hh, Cond.codeWith z bytes mL rt hh ∈ a_G ∧ mL ≤ 40 ∧
      Met l z (Cond.codeWith z bytes mL rt hh :: a_G) (a_rm (d + 1) (a_nc h1 - a_nc h) (a_ns h1 - a_ns h)) (va_Pc (vs.map (a_cV base b)) (a_Wd D aC base b X h)) (a_Qc D aC base b h1 v) (a_nc h1 - a_nc h) (a_ns h1 - a_ns h) (fun q => base ≤ q)) :
    ∀ d, a_Sm l D aC base b X d (a_ex X a_tx T d) := by
  intro d
  induction d with
  | zero => intro y vs h h1 v hr; cases hr
  | succ d ih =>
    intro y vs h h1 v hr hv z mL rt htn
    refine ⟨a_ex_le _ _ _ _ _ _ hr, ?_⟩
    by_cases hs : sp y = true
    · exact Or.inr (hsp d ih y vs h h1 v hs hr hv z mL rt htn)
    · have hs : sp y = false := by simpa using hs
      unfold a_ex at hr
      split at hr
      · rename_i m hm
        obtain ⟨wc, wi, hcm⟩ := hT y m hm hs (by rw [htn]; rfl)
        obtain ⟨e1, e2, e3, e4, e5⟩ := a_met1 ih (fun y vs h h1 w hq => a_ex_le _ _ _ _ _ _ hq) hcm hv hr
        cases e1.symm.trans htn
        exact Or.inl ⟨_, e3, e4, e5⟩
      · cases hr
