/-! ONE INSTRUCTION: what the abstract machine does, the machine does -/
def a_Fx (p : Program) (R : Room) (s : State) (m : MethodId) (args : Array Value) (meth : Method) (c : Code) (cc : ByteArray) (nL : Nat) (own nm : String) (Ts : List Cond) (D : va_G) (aC : Nat → ClassId) (base : Nat) (b : Nat × Nat) (X : Nat × (Nat → Int32)) (d : Nat) : Prop :=
  p.tables.exec = Jvm.exec ∧ c.code = cc ∧ c.maxLocals = nL ∧ s.vm.findClass own = some m.cls ∧ (∀ w ∈ Ts, w.before args s = true) ∧ (∀ w ∈ a_G, w ∈ Ts) ∧ a_K D aC s ∧ a_X base b X s s.heap ∧ b.1 < base ∧ base ≤ s.heap.size ∧ meth.name = nm ∧ d + 9 ≤ R.frames ∧ 60 * (d + 9) ≤ R.locals
def a_Dy (s : State) (D : va_G) (aC : Nat → ClassId) (base : Nat) (n0 : Nat × Nat) (h : A_H) (H : Heap) (locs : List Loc) (cells slots : Nat) : Prop :=
  va_P D a_cl (a_ws aC base h) H ∧ va_S (fun q => base ≤ q) s.heap H locs ∧ (h.2.2.2.2 = false → h.1.length = a_nc h ∧ s.heap.size = base + n0.1) ∧ n0.1 + cells = a_nc h ∧ n0.2 + slots = a_ns h
def a_Wn (W0 : Heap → List Loc → Nat → Nat → JFrame → Prop) (Dy : A_H → Heap → List Loc → Nat → Nat → Prop) (m : MethodId) (base : Nat) (b : Nat × Nat) (nL : Nat) (hf : A_H) (h : A_H) (L S : List Value) (pc : Nat) : Prop :=
  a_le h hf ∧ ∀ H locs cells slots ls, Dy h H locs cells slots → a_LR base b ls nL L → W0 H locs cells slots (F0 m pc ls (S.map (a_cV base b)))
def a_Sm (l : Launch) (D : va_G) (aC : Nat → ClassId) (base : Nat) (b : Nat × Nat) (X : Nat × (Nat → Int32)) (d : Nat) (M : Nat → List Value → A_H → A_R) : Prop := ∀ y vs h h1 v, M y vs h = some (h1, v) → v ≠ some (.retAddr 0) → ∀ z mL rt, a_tn[y]? = some (z, mL, rt) → a_le h h1 ∧ ((∃ bytes, Cond.code z bytes mL rt ∈ a_G ∧ mL ≤ 40 ∧
  Met l z (Cond.code z bytes mL rt :: a_G) (a_rm d (a_nc h1 - a_nc h) (a_ns h1 - a_ns h)) (va_Pc (vs.map (a_cV base b)) (a_Wd D aC base b X h)) (a_Qc D aC base b h1 v) (a_nc h1 - a_nc h) (a_ns h1 - a_ns h) (fun q => base ≤ q)) ∨
  (z.cls = "EndingMarketLaw" ∧ z.name ≠ "<init>" ∧ ∃ bytes hh, Cond.codeWith z bytes mL rt hh ∈ a_G ∧ mL ≤ 40 ∧
  Met l z (Cond.codeWith z bytes mL rt hh :: a_G) (a_rm d (a_nc h1 - a_nc h) (a_ns h1 - a_ns h)) (va_Pc (vs.map (a_cV base b)) (a_Wd D aC base b X h)) (a_Qc D aC base b h1 v) (a_nc h1 - a_nc h) (a_ns h1 - a_ns h) (fun q => base ≤ q)))
section ST
variable {p : Program} {l : Launch} {e : Env} {R : Room} {s : State} {m : MethodId} {args : Array Value} {below : List Frame} {meth : Method} {c : Code} {Q : State → Prop} {cc : ByteArray} {nL : Nat} {own nm : String} {Ts : List Cond} {D : va_G} {aC : Nat → ClassId} {base : Nat} {b : Nat × Nat} {X : Nat × (Nat → Int32)} {n0 : Nat × Nat} {d : Nat}
variable {hf : A_H} {v : Option Value} {pc len : Nat} {L S : List Value} {h : A_H}
/-- locals: loads and stores -/
theorem a_lod {ls : Array Slot} {i : Nat} {x : Value} (hL : a_LR base b ls nL L) (hi : L[i]? = some x) (hx : x ≠ .retAddr 0) : ls[i]? = some (.val (a_cV base b x)) := hL.2.2.2 i x hi hx
/-- a call's return -/
theorem a_ret {H : Heap} {locs : List Loc} {cells slots mc ms : Nat} {ls : Array Slot} {st0 rest : List Value} {a : Array Value} {h1 : A_H} {v1 : Option Value}
    (hr : va_Run p l e R s m args below meth c H locs cells slots mc ms (F0 m pc ls st0) rest (a_Qc D aC base b h1 v1 a) (fun q => base ≤ q)) (hS : va_S (fun q => base ≤ q) s.heap H locs)
    (kk : ∀ (H1 : Heap) (locs1 : List Loc), va_P D a_cl (a_ws aC base h1) H1 → (h1.2.2.2.2 = false → h1.1.length = a_nc h1) → va_S (fun q => base ≤ q) s.heap H1 locs1 → W p l e R s m args below meth c H1 locs1 (cells + mc) (slots + ms) Q (F0 m (pc + 3) ls ((v1.map (a_cV base b)).toList ++ rest))) :
    W p l e R s m args below meth c H locs cells slots Q (F0 m pc ls st0) := by
  intro T hT X
  obtain ⟨w, st₀, t, T', L, h0, X', hL, e1, e2, ⟨hv, hp, hz, hF⟩, st⟩ := hr T hT X
  cases hv
  rw [← e1] at hp
  obtain ⟨hz1, hk1⟩ := hF
  rw [h0] at hz1 hk1
  obtain ⟨t2, a1, b1⟩ := kk T'.heap (locs ++ L) hp hz
    ⟨Nat.le_trans hS.1 (by rw [e1]; exact hz1), fun q h1 h2 => by rw [e1, hk1 q (Nat.lt_of_lt_of_le h1 hS.1) h2]; exact hS.2.1 q h1 h2, fun q hq => by
      rcases List.mem_append.mp hq with h | h
      · exact hS.2.2 q h
      · exact hL q h⟩ T' rfl X'
  exact ⟨t2, st t2 a1, b1⟩
theorem a_size {H : Heap} {locs : List Loc} {cells slots : Nat} {T : State} (F : a_Fx p R s m args meth c cc nL own nm Ts D aC base b X d) (hD : a_Dy s D aC base n0 h H locs cells slots) (hT : T.heap = H) (Y : Stand p l e R s m args below meth c T locs cells slots) (hs : h.2.2.2.2 = false) : h.1.length = a_nc h ∧ H.size = base + a_nc h := by
  obtain ⟨-, -, -, -, -, -, -, -, -, hz, -⟩ := F
  obtain ⟨hP, hS, hsz, hcn, -⟩ := hD
  obtain ⟨h1, h2⟩ := hsz hs
  have h3 : T.heap.size ≤ s.heap.size + cells := Y.same.2.2.1
  rw [hT] at h3
  refine ⟨h1, Nat.le_antisymm (by omega) ?_⟩
  rcases Nat.eq_zero_or_pos h.1.length with h0 | h0
  · have := hS.1
    omega
  · have := (hP _ _ (a_ws_at (aC := aC) (base := base) (h := h) (a := h.1.length - 1) (by omega))).lt
    simp only at this
    omega
theorem a_pre {H : Heap} {locs : List Loc} {cells slots : Nat} (F : a_Fx p R s m args meth c cc nL own nm Ts D aC base b X d) (hD : a_Dy s D aC base n0 h H locs cells slots) (hsz : h.2.2.2.2 = false → h.1.length = a_nc h ∧ H.size = base + a_nc h) {vs : List Value} {U : State} (hU : U.heap = H) (hW : s.WarmedH U.vm) : va_Pc vs (a_Wd D aC base b X h) vs.toArray U := by
  obtain ⟨-, -, -, -, -, -, hK, hX, hb, hz, -⟩ := F
  obtain ⟨hP, hS, -, -⟩ := hD
  refine ⟨rfl, by rw [hU]; exact hP, hK.warm hW, ?_, hb, by rw [hU]; exact Nat.le_trans hz hS.1, by rw [hU]; exact hsz⟩
  rw [hU]
  exact (hX.warm hW).kept (Nat.lt_of_lt_of_le hb hz) (Nat.not_le.mpr hb) hS.2.1
theorem a_good {z : MethodName} {bytes : ByteArray} {mL : Nat} {rt : Option FieldType} (hG : ∀ w ∈ a_G, w ∈ Ts) (hc : Cond.code z bytes mL rt ∈ a_G) : GoodIn Ts (Cond.code z bytes mL rt :: a_G) := by
  intro w hw
  have hg : w ∈ a_G := by
    rcases List.mem_cons.mp hw with rfl | h
    · exact hc
    · exact h
  exact ⟨hG w hg, good_of_word (List.mem_filter.mp hg).2⟩
theorem a_pn_inv {y : MethodName} {n : Nat} (h : a_pn y n = true) : y.cls ≠ "java/lang/invoke/MethodHandle" ∧ y.cls ≠ "java/lang/invoke/VarHandle" ∧ (parseMethodDescriptor y.desc).map (fun d => d.parameters.length) = some n := by
  unfold a_pn at h
  simp only [Bool.and_eq_true, decide_eq_true_eq] at h
  exact ⟨h.1.1, h.1.2, h.2⟩
theorem a_wd_map {T : List Value} : ((T.map (a_cV base b)).map fun v => v.category).sum = a_wd T := by
  unfold a_wd
  rw [List.map_map]
  congr 1
  apply List.map_congr_left
  intro v _
  exact a_cV_cat v
/-- a call of any kind, from its run on: the callee's contract is due -/
theorem a_cal {z : MethodName} {bytes : ByteArray} {mL : Nat} {rt : Option FieldType} {index np : Nat} {h1 : A_H} {v1 : Option Value} {vs rest : List Value} {md wl wi : Nat}
    (F : a_Fx p R s m args meth c cc nL own nm Ts D aC base b X d) (hRc : a_nc hf ≤ n0.1 + R.cells) (hRs : a_ns hf ≤ n0.2 + R.slots) (hle : a_le h h1) (hle2 : a_le h1 hf)
    (hc : Cond.code z bytes mL rt ∈ a_G) (hml : mL ≤ 40) (hM : Met l z (Cond.code z bytes mL rt :: a_G) (a_rm d (a_nc h1 - a_nc h) (a_ns h1 - a_ns h)) (va_Pc (vs.map (a_cV base b)) (a_Wd D aC base b X h)) (a_Qc D aC base b h1 v1) (a_nc h1 - a_nc h) (a_ns h1 - a_ns h) (fun q => base ≤ q))
    (hlk : a_ml a_nw own index md wl z = true) (hwi : a_lk wi (.initialized z.cls) = true) (hpn : a_pn z np = true)
    {H : Heap} {locs : List Loc} {cells slots : Nat} {ls : Array Slot} (hD : a_Dy s D aC base n0 h H locs cells slots) (hls : ls.size = nL) {st0 : List Value}
    (hrun : (CallB R s args own index z bytes mL rt (Cond.code z bytes mL rt :: a_G) (a_rm d (a_nc h1 - a_nc h) (a_ns h1 - a_ns h)) (a_nc h1 - a_nc h) (a_ns h1 - a_ns h) np ∨ va_CN R s args own index z "EndingMarket" bytes mL rt (Cond.code z bytes mL rt :: a_G) (a_rm d (a_nc h1 - a_nc h) (a_ns h1 - a_ns h)) (a_nc h1 - a_nc h) (a_ns h1 - a_ns h) np) →
      (∀ U : State, U.heap = H → s.WarmedH U.vm → va_Pc (vs.map (a_cV base b)) (a_Wd D aC base b X h) (vs.map (a_cV base b)).toArray U) → cells + (a_nc h1 - a_nc h) ≤ R.cells ∧ slots + (a_ns h1 - a_ns h) ≤ R.slots →
      va_Run p l e R s m args below meth c H locs cells slots (a_nc h1 - a_nc h) (a_ns h1 - a_ns h) (F0 m pc ls st0) (rest.map (a_cV base b)) (a_Qc D aC base b h1 v1 (vs.map (a_cV base b)).toArray) (fun q => base ≤ q))
    (kk : a_Wn (fun H locs cells slots g => W p l e R s m args below meth c H locs cells slots Q g) (a_Dy s D aC base n0) m base b nL hf h1 L (v1.toList ++ rest) (pc + 3)) (hL : a_LR base b ls nL L) :
    W p l e R s m args below meth c H locs cells slots Q (F0 m pc ls st0) := by
  obtain ⟨hx, hb, hmL, hown, hts, hG, hK, hX, hbl, hz, hnm, hfr, hlo⟩ := id F
  obtain ⟨hP, hS, hsz, hcn, hsn⟩ := id hD
  obtain ⟨hl1, hl2, hl5⟩ := hle
  obtain ⟨hl3, hl4, hl6⟩ := hle2
  intro T hT Y
  have hszH := a_size F hD hT Y
  have hgood : GoodIn Ts (Cond.code z bytes mL rt :: a_G) := a_good hG hc
  have hini : (Cond.initialized z.cls).before args s = true := hts _ (hG _ (a_lk_inv hwi))
  have hR2 : (a_rm d (a_nc h1 - a_nc h) (a_ns h1 - a_ns h)).frames + 1 ≤ R.frames ∧ 8 + (mL + 11) + (a_rm d (a_nc h1 - a_nc h) (a_ns h1 - a_ns h)).locals ≤ R.locals := a_rm_fit hfr hlo hml
  have hcb := hrun (by
      unfold a_ml at hlk
      split at hlk
      · exact Or.inl (callB_of np hts hgood rfl rfl rfl hini (hts _ (hG _ (a_lk_inv hlk))) (a_pn_inv hpn) hR2)
      · exact Or.inr (va_cnB np hts hgood rfl rfl rfl (hK.2.1 _ (List.mem_of_getElem? (of_decide_eq_true hlk))) hini (a_pn_inv hpn) hR2))
    (fun U hU hW => a_pre F hD hszH hU hW) ⟨by omega, by omega⟩
  refine (a_ret hcb hS fun H1 locs1 hP1 hz1 hS1 => ?_) T hT Y
  have e1 : (v1.map (a_cV base b)).toList ++ rest.map (a_cV base b) = (v1.toList ++ rest).map (a_cV base b) := by cases v1 <;> rfl
  rw [e1]
  exact kk.2 H1 locs1 _ _ ls ⟨hP1, hS1, fun z => ⟨hz1 z, (hsz (hl5 z)).2⟩, by omega, by omega⟩ hL
/-- .. of a method of the law's with a table of its own -/
theorem a_calW {z : MethodName} {bytes : ByteArray} {hh : List (Nat × Nat × Nat × Nat)} {mL : Nat} {rt : Option FieldType} {index np : Nat} {h1 : A_H} {v1 : Option Value} {vs rest : List Value} {wl wi ws : Nat}
    (F : a_Fx p R s m args meth c cc nL own nm Ts D aC base b X d) (hRc : a_nc hf ≤ n0.1 + R.cells) (hRs : a_ns hf ≤ n0.2 + R.slots) (hle : a_le h h1) (hle2 : a_le h1 hf)
    (hc : Cond.codeWith z bytes mL rt hh ∈ a_G) (hml : mL ≤ 40)
    (hlk : a_lk wl (.methodLink own index z) = true) (hst : a_lk ws (.static z) = true) (hwi : a_lk wi (.initialized z.cls) = true) (hpn : a_pn z np = true)
    {H : Heap} {locs : List Loc} {cells slots : Nat} {ls : Array Slot} (hD : a_Dy s D aC base n0 h H locs cells slots) {st0 : List Value}
    (hrun : vx_CSW R s args own index z bytes mL rt hh (Cond.codeWith z bytes mL rt hh :: a_G) (a_rm d (a_nc h1 - a_nc h) (a_ns h1 - a_ns h)) (a_nc h1 - a_nc h) (a_ns h1 - a_ns h) np →
      (∀ U : State, U.heap = H → s.WarmedH U.vm → va_Pc (vs.map (a_cV base b)) (a_Wd D aC base b X h) (vs.map (a_cV base b)).toArray U) → cells + (a_nc h1 - a_nc h) ≤ R.cells ∧ slots + (a_ns h1 - a_ns h) ≤ R.slots →
      va_Run p l e R s m args below meth c H locs cells slots (a_nc h1 - a_nc h) (a_ns h1 - a_ns h) (F0 m pc ls st0) (rest.map (a_cV base b)) (a_Qc D aC base b h1 v1 (vs.map (a_cV base b)).toArray) (fun q => base ≤ q))
    (kk : a_Wn (fun H locs cells slots g => W p l e R s m args below meth c H locs cells slots Q g) (a_Dy s D aC base n0) m base b nL hf h1 L (v1.toList ++ rest) (pc + 3)) (hL : a_LR base b ls nL L) :
    W p l e R s m args below meth c H locs cells slots Q (F0 m pc ls st0) := by
  obtain ⟨hx, hb, hmL, hown, hts, hG, hK, hX, hbl, hz, hnm, hfr, hlo⟩ := id F
  obtain ⟨hP, hS, hsz, hcn, hsn⟩ := id hD
  obtain ⟨hl1, hl2, hl5⟩ := hle
  obtain ⟨hl3, hl4, hl6⟩ := hle2
  intro T hT Y
  have hszH := a_size F hD hT Y
  have hgood : GoodIn Ts (Cond.codeWith z bytes mL rt hh :: a_G) := by
    intro w hw
    have hg : w ∈ a_G := by
      rcases List.mem_cons.mp hw with rfl | h
      · exact hc
      · exact h
    exact ⟨hG w hg, good_of_word (List.mem_filter.mp hg).2⟩
  have hini : (Cond.initialized z.cls).before args s = true := hts _ (hG _ (a_lk_inv hwi))
  obtain ⟨n1, n2, n3⟩ := a_pn_inv hpn
  have hcb := hrun ⟨⟨rfl, rfl, (a_rm_fit hfr hlo hml).1, (a_rm_fit hfr hlo hml).2, pay_in hts hgood, List.mem_cons_self⟩, hts _ (hG _ hc), hini, ⟨n1, n2⟩, fun sig hsig => by
      rw [hsig] at n3
      exact (Option.some.inj n3).symm, hts _ (hG _ (a_lk_inv hlk)), hts _ (hG _ (a_lk_inv hst))⟩
    (fun U hU hW => a_pre F hD hszH hU hW) ⟨by omega, by omega⟩
  refine (a_ret hcb hS fun H1 locs1 hP1 hz1 hS1 => ?_) T hT Y
  have e1 : (v1.map (a_cV base b)).toList ++ rest.map (a_cV base b) = (v1.toList ++ rest).map (a_cV base b) := by cases v1 <;> rfl
  rw [e1]
  exact kk.2 H1 locs1 _ _ ls ⟨hP1, hS1, fun z => ⟨hz1 z, (hsz (hl5 z)).2⟩, by omega, by omega⟩ hL
theorem a_cl_law {ci : Nat} {C : String} {T : u_T} {N : Nat} (h : a_cl[ci]? = some (C, T, N)) : C ≠ "EndingMarketLaw" := by
  have h1 : a_cl.all (fun q => decide (q.1 ≠ "EndingMarketLaw")) = true := by decide +kernel
  exact of_decide_eq_true (List.all_eq_true.mp h1 _ (List.mem_of_getElem? h))
theorem a_nw_law {wl idx : Nat} {own : String} {z : MethodName} (h : a_nw[wl]? = some (.methodLinkNest own idx z "EndingMarket")) : z.cls ≠ "EndingMarketLaw" := by
  have h1 : a_nw.all (fun w => (match w with
    | .methodLinkNest _ _ z _ => decide (z.cls ≠ "EndingMarketLaw")
    | _ => true)) = true := by decide +kernel
  exact of_decide_eq_true (List.all_eq_true.mp h1 _ (List.mem_of_getElem? h))
end ST
