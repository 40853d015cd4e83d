/-! THROWS: what a method that throws leaves; the law's two methods with a table of their own -/
theorem a_ofWH {l : Launch} {y : MethodName} {ws ws' : List Cond} {rm : Room} {Pc : Array Value → State → Prop} {Qc : Array Value → State → Outcome → State → Prop} {mc ms : Nat} {free : Addr → Prop} {cc : ByteArray} {maxL : Nat} {ret : Option FieldType} {hh : List (Nat × Nat × Nat × Nat)}
    (hy : plainName y.cls = true) (hw : ws = Cond.codeWith y cc maxL ret hh :: ws')
    (body : ∀ p e s m args below meth c s₁, BodyLoose p l y (headSpec ws rm) cc maxL ret e s m args below meth c s₁ → c.maxLocals = maxL → Pc args s →
      W p l e (headSpec ws rm).room s m args below meth c s.heap [] 0 0 (MQ below Qc args s mc ms free) (entryFrame m args maxL)) : Met l y ws rm Pc Qc mc ms free := by
  refine MetFree.of_bodyS (code := cc) (maxLocals := maxL) (ret := ret) hy ?_ ?_
  · intro args s m h hn
    obtain ⟨m9, meth, c, hn9, h1, h2, h3, h4, -, h5, h6, -⟩ := Cond.codeWith_spec (atoms_spec (ws := ws) h _ (by rw [hw]; exact List.mem_cons_self))
    cases hn.symm.trans hn9
    exact ⟨meth, c, h1, h2, h3, h4, h5, h6⟩
  · intro p e s m args below meth c s₁ B hml hP _
    have hh0 : s₁.heap = s.heap := by rw [B.state]; rfl
    obtain ⟨t, a1, o, b1, b2, b3⟩ := body p e s m args below meth c s₁ B hml hP s₁ hh0 (Stand.of_body B)
    exact ⟨t, o, a1, b1, b2, ⟨b3.1, b3.2⟩⟩
/-- the check of a method with a table of its own -/
def a_ch9 (nw : List Cond) (tn : A_N) (y : Nat) (m : A_M) (hh : List (Nat × Nat × Nat × Nat)) (wc : Nat) : Bool :=
  decide (tn[y]? = some (m.1, m.2.2.1, m.2.2.2.1)) && plainName m.1.cls && a_lk wc (.codeWith m.1 m.2.1 m.2.2.1 m.2.2.2.1 hh) && Nat.ble m.2.2.1 40 && decide (a_at m.2.2.2.2 0 = some 0) && a_co nw tn m.1.cls m.1.name (a_rz m.2.2.2.1) m.2.1 m.2.2.2.2 m.2.2.2.2
theorem a_met9 {l : Launch} {D : va_G} {aC : Nat → ClassId} {base : Nat} {b : Nat × Nat} {X : Nat × (Nat → Int32)} {d : Nat} {M : Nat → List Value → A_H → A_R} (hM : a_Sm l D aC base b X d M) (hMl : ∀ y vs h h1 w, M y vs h = some (h1, w) → a_le h h1) {y : Nat} {m : A_M} {wc : Nat} {hh : List (Nat × Nat × Nat × Nat)} (hm : a_ch9 a_nw a_tn y m hh wc = true) {vs : List Value} {h hf : A_H} {v : Option Value} (hv : v ≠ some (.retAddr 0))
    (hr : a_if (Nat.beq (a_lo vs m.2.2.1).length m.2.2.1) (a_go X a_tx M m.2.2.2.2 a_fu 0 (a_lo vs m.2.2.1) h) = some (hf, v)) :
    a_tn[y]? = some (m.1, m.2.2.1, m.2.2.2.1) ∧ a_le h hf ∧ Cond.codeWith m.1 m.2.1 m.2.2.1 m.2.2.2.1 hh ∈ a_G ∧ m.2.2.1 ≤ 40 ∧
      Met l m.1 (Cond.codeWith m.1 m.2.1 m.2.2.1 m.2.2.2.1 hh :: a_G) (a_rm (d + 1) (a_nc hf - a_nc h) (a_ns hf - a_ns h)) (va_Pc (vs.map (a_cV base b)) (a_Wd D aC base b X h)) (a_Qc D aC base b hf v) (a_nc hf - a_nc h) (a_ns hf - a_ns h) (fun q => base ≤ q) := by
  obtain ⟨name, bytes, nL, ret, ops⟩ := m
  unfold a_ch9 at hm
  simp only [Bool.and_eq_true, decide_eq_true_eq] at hm
  obtain ⟨⟨⟨⟨⟨h1, h2⟩, h3⟩, h5⟩, h7⟩, h8⟩ := hm
  obtain ⟨hlen, hr⟩ := a_if_inv hr
  have hlen : (a_lo vs nL).length = nL := Nat.eq_of_beq_eq_true hlen
  have hcode := a_lk_inv h3
  have hle : a_le h hf := a_go_le hMl _ _ _ _ hr
  refine ⟨h1, hle, hcode, Nat.le_of_ble_eq_true h5, ?_⟩
  refine a_ofWH (cc := bytes) (maxL := nL) (ret := ret) (hh := hh) h2 rfl ?_
  intro p e s mm args below meth c s₁ B hml hv0
  obtain ⟨rfl, hP, hK, hX, hb1, hb2, hsz⟩ := hv0
  have F : a_Fx p (headSpec (Cond.codeWith name bytes nL ret hh :: a_G) (a_rm (d + 1) (a_nc hf - a_nc h) (a_ns hf - a_ns h))).room s mm (vs.map (a_cV base b)).toArray meth c bytes nL name.cls name.name (Cond.codeWith name bytes nL ret hh :: a_G) D aC base b X d :=
    ⟨B.exec, B.bytes, hml, findClass_of_methodNamed B.named, atoms_spec (ws := Cond.codeWith name bytes nL ret hh :: a_G) B.pre, fun w hw => List.mem_cons_of_mem _ hw, hK, hX, hb1, hb2, (name_of_methodNamed B.named B.method).1, (show d + 9 ≤ d + 1 + 8 by omega), (show 60 * (d + 9) ≤ 60 * (d + 1 + 8) by omega)⟩
  have hret := B.returns
  have hlk := B.notSynchronized
  obtain ⟨hl1, hl2, hl3⟩ := id hle
  obtain ⟨pc2, e1, -, hw⟩ := a_go_ok (l := l) (e := e) (below := below) (Q := MQ below (a_Qc D aC base b hf v) (vs.map (a_cV base b)).toArray s (a_nc hf - a_nc h) (a_ns hf - a_ns h) (fun q => base ≤ q)) (n0 := (a_nc h, a_ns h)) F (show a_nc hf ≤ a_nc h + (a_nc hf - a_nc h) by omega) (show a_ns hf ≤ a_ns h + (a_ns hf - a_ns h) by omega) hM
    (fun hv2 hz H locs cells slots ls pc hD hdg => by
      subst hv2
      have hc1 : cells = a_nc hf - a_nc h := by have : a_nc h + cells = a_nc hf := hD.2.2.2.1; omega
      have hc2 : slots = a_ns hf - a_ns h := by have : a_ns h + slots = a_ns hf := hD.2.2.2.2; omega
      subst hc1; subst hc2
      exact W.vret F.1 F.2.1 (by rw [hret]; exact a_rz_2 hz) (fun t ht hW => ⟨rfl, by rw [ht]; exact hD.1, fun z => (hD.2.2.1 z).1, hD.2.1.F ht⟩) (fun q hq => hD.2.1.2.2 q hq) hdg hlk)
    (fun x hv2 hz hz2 H locs cells slots ls pc hD hdg => by
      subst hv2
      have hc1 : cells = a_nc hf - a_nc h := by have : a_nc h + cells = a_nc hf := hD.2.2.2.1; omega
      have hc2 : slots = a_ns hf - a_ns h := by have : a_ns h + slots = a_ns hf := hD.2.2.2.2; omega
      subst hc1; subst hc2
      obtain ⟨ty, t1, t2⟩ := a_rz_1 hz hz2
      exact W.zret F.1 F.2.1 (by rw [hret]; exact t1) t2 (fun t ht hW => ⟨rfl, by rw [ht]; exact hD.1, fun z => (hD.2.2.1 z).1, hD.2.1.F ht⟩) (fun q hq => hD.2.1.2.2 q hq) hdg hlk)
    (fun hv2 => absurd hv2 hv) h8 a_fu 0 (a_lo vs nL) h hr
  cases h7.symm.trans e1
  rw [lg_entry_eq]
  exact hw s.heap [] 0 0 _ ⟨hP, va_S.rf, fun z => hsz z, Nat.add_zero _, Nat.add_zero _⟩ (a_LR_entry hlen)
/-- the world behind a throw -/
abbrev a_NS : String := n_NS
def a_XC (D : va_G) (aC : Nat → ClassId) (base : Nat) (h : A_H) : String → State → State → Prop := fun E st t => E = a_NS ∧ h.2.2.2.2 = true ∧ va_P D a_cl (a_ws aC base h) t.heap ∧ va_F (fun q => base ≤ q) st t
def a_dc (cc : ByteArray) (pc : Nat) (i : Instr) (len : Nat) : Bool := match decode cc pc with
  | .ok (j, n) => decide (j = i) && decide (n = len)
  | _ => false
theorem a_dc_inv {cc : ByteArray} {pc : Nat} {i : Instr} {len : Nat} (h : a_dc cc pc i len = true) : decode cc pc = .ok (i, len) := by
  unfold a_dc at h
  split at h
  · rename_i j n e
    rw [Bool.and_eq_true, decide_eq_true_eq, decide_eq_true_eq] at h
    rw [e, h.1, h.2]
  · cases h
/-- a throw's bytes -/
def a_tw1 (cc : ByteArray) (o : A_O) : Bool := match o with
  | (pc, .new i, [1, mc, ms]) => decide (i = 145) && Nat.ble 1 mc && Nat.ble 6 ms && a_dc cc pc (.new 145) 3 && a_dc cc (pc + 3) .dup 1 && (a_txs.any fun q => a_dc cc (pc + 4) (.ldc q.1) 2) && a_dc cc (pc + 6) (.invokespecial 149) 3 && a_dc cc (pc + 9) .athrow 1
  | _ => true
theorem a_ns_good : ∀ w ∈ ((n_L "EndingMarket" 149).filter vx_no).filter goodWord, w ∈ a_G := by
  have h : (((n_L "EndingMarket" 149).filter vx_no).filter goodWord).all (fun w => decide (w ∈ lw_tbl) && goodWord w) = true := by decide +kernel
  intro w hw
  have h1 := List.all_eq_true.mp h w hw
  rw [Bool.and_eq_true] at h1
  exact List.mem_filter.mpr ⟨of_decide_eq_true h1.1, h1.2⟩
theorem a_ns_link : ∀ w ∈ [Cond.classLink "EndingMarket" 145 a_NS, Cond.initialized a_NS], w ∈ a_G := by
  have h : [Cond.classLink "EndingMarket" 145 a_NS, Cond.initialized a_NS].all (fun w => decide (w ∈ lw_tbl) && goodWord w) = true := by decide +kernel
  intro w hw
  have h1 := List.all_eq_true.mp h w hw
  rw [Bool.and_eq_true] at h1
  exact List.mem_filter.mpr ⟨of_decide_eq_true h1.1, h1.2⟩
theorem a_ns_bad : ∀ w ∈ ((n_L "EndingMarket" 149).filter vx_no).filter (fun w => !goodWord w), w ∈ a_nw.drop 17 := by decide +kernel
theorem a_ns_nw : ∀ w ∈ a_nw.drop 17, w ∈ a_nw := fun w hw => List.mem_of_mem_drop hw
theorem a_ns_on : ∀ w ∈ a_nw.drop 17, w.onTables = true := by decide +kernel
theorem a_ns_ot : ∀ w ∈ Cond.classLink "EndingMarket" 145 a_NS :: Cond.initialized a_NS :: (n_L "EndingMarket" 149).filter vx_no, vx_ot w = true := by decide +kernel
theorem a_ns_cast : Cond.castable a_NS a_NS ∈ a_nw := by decide +kernel
/-- a method that throws -/
theorem a_metX {l : Launch} (hl : l.stackTraces = false) {D : va_G} {aC : Nat → ClassId} {base : Nat} {b : Nat × Nat} {X : Nat × (Nat → Int32)} {d : Nat} {M : Nat → List Value → A_H → A_R} (hM : a_Sm l D aC base b X d M) (hMl : ∀ y vs h h1 w, M y vs h = some (h1, w) → a_le h h1) {y : Nat} {m : A_M} {wc wi : Nat} (hm : a_cm a_nw a_tn y m wc wi = true) (hcl : m.1.cls = "EndingMarket") (htw : m.2.2.2.2.all (a_tw1 m.2.1) = true) {vs : List Value} {h hf : A_H}
    (hr : a_if (Nat.beq (a_lo vs m.2.2.1).length m.2.2.1) (a_go X a_tx M m.2.2.2.2 a_fu 0 (a_lo vs m.2.2.1) h) = some (hf, some (.retAddr 0))) :
    a_le h hf ∧ Cond.code m.1 m.2.1 m.2.2.1 m.2.2.2.1 ∈ a_G ∧ m.2.2.1 ≤ 40 ∧
      vx_Met l m.1 (Cond.code m.1 m.2.1 m.2.2.1 m.2.2.2.1 :: a_G) (a_rm (d + 1) (a_nc hf - a_nc h) (a_ns hf - a_ns h)) (va_Pc (vs.map (a_cV base b)) (a_Wd D aC base b X h)) (fun _ _ _ _ => False) (a_XC D aC base hf) (a_nc hf - a_nc h) (a_ns hf - a_ns h) (fun q => base ≤ q) := by
  obtain ⟨name, bytes, nL, ret, ops⟩ := m
  unfold a_cm at hm
  simp only [Bool.and_eq_true, decide_eq_true_eq] at hm
  obtain ⟨⟨⟨⟨⟨⟨⟨h1, h2⟩, h3⟩, h4⟩, h5⟩, h6⟩, h7⟩, h8⟩ := hm
  obtain ⟨hlen, hr⟩ := a_if_inv hr
  have hlen : (a_lo vs nL).length = nL := Nat.eq_of_beq_eq_true hlen
  have hcode := a_lk_inv h3
  have hle : a_le h hf := a_go_le hMl _ _ _ _ hr
  refine ⟨hle, hcode, Nat.le_of_ble_eq_true h5, ?_⟩
  refine vx_ofW (cc := bytes) (maxL := nL) (ret := ret) h2 rfl ?_
  intro p e s mm args below meth c s₁ B hml htab hv0
  obtain ⟨rfl, hP, hK, hX, hb1, hb2, hsz⟩ := hv0
  have F : a_Fx p (headSpec (Cond.code name bytes nL ret :: a_G) (a_rm (d + 1) (a_nc hf - a_nc h) (a_ns hf - a_ns h))).room s mm (vs.map (a_cV base b)).toArray meth c bytes nL name.cls name.name (Cond.code name bytes nL ret :: a_G) D aC base b X d :=
    ⟨B.exec, B.bytes, hml, findClass_of_methodNamed B.named, atoms_spec (ws := Cond.code name bytes nL ret :: a_G) B.pre, fun w hw => List.mem_cons_of_mem _ hw, hK, hX, hb1, hb2, (name_of_methodNamed B.named B.method).1, (show d + 9 ≤ d + 1 + 8 by omega), (show 60 * (d + 9) ≤ 60 * (d + 1 + 8) by omega)⟩
  have hlk := B.notSynchronized
  obtain ⟨hl1, hl2, hl3⟩ := id hle
  have hRf : (headSpec (Cond.code name bytes nL ret :: a_G) (a_rm (d + 1) (a_nc hf - a_nc h) (a_ns hf - a_ns h))).room.frames = d + 1 + 8 := rfl
  have hRl : (headSpec (Cond.code name bytes nL ret :: a_G) (a_rm (d + 1) (a_nc hf - a_nc h) (a_ns hf - a_ns h))).room.locals = 60 * (d + 1 + 8) := rfl
  have hRc : (headSpec (Cond.code name bytes nL ret :: a_G) (a_rm (d + 1) (a_nc hf - a_nc h) (a_ns hf - a_ns h))).room.cells = a_nc hf - a_nc h := rfl
  have hRs : (headSpec (Cond.code name bytes nL ret :: a_G) (a_rm (d + 1) (a_nc hf - a_nc h) (a_ns hf - a_ns h))).room.slots = a_ns hf - a_ns h := rfl
  generalize (headSpec (Cond.code name bytes nL ret :: a_G) (a_rm (d + 1) (a_nc hf - a_nc h) (a_ns hf - a_ns h))).room = R at F hRf hRl hRc hRs ⊢
  obtain ⟨pc2, e1, -, hw⟩ := a_go_ok (l := l) (e := e) (below := below) (v := some (.retAddr 0)) (Q := vx_MQ below (fun _ _ _ _ => False) (a_XC D aC base hf) (vs.map (a_cV base b)).toArray s (a_nc hf - a_nc h) (a_ns hf - a_ns h) (fun q => base ≤ q)) (n0 := (a_nc h, a_ns h)) F (show a_nc hf ≤ a_nc h + R.cells by omega) (show a_ns hf ≤ a_ns h + R.slots by omega) hM
    (fun hv2 => by cases hv2)
    (fun x hv2 => by cases hv2)
    (fun _ h9 mc ms i L pc hh9 hin H locs cells slots ls hD hL => by
      have ht := List.all_eq_true.mp htw _ hin
      simp only [a_tw1, Bool.and_eq_true, decide_eq_true_eq] at ht
      obtain ⟨⟨⟨⟨⟨⟨⟨t1, t2⟩, t3⟩, t4⟩, t5⟩, t6⟩, t7⟩, t8⟩ := ht
      have t2 := Nat.le_of_ble_eq_true t2
      have t3 := Nat.le_of_ble_eq_true t3
      obtain ⟨q, hq, hq2⟩ := List.any_eq_true.mp t6
      obtain ⟨sb, hsb⟩ := hX.2.2.2.1 q hq
      obtain ⟨hx, hb, hmL, hown, hts, hG, -⟩ := id F
      rw [show name.cls = "EndingMarket" from hcl] at hown
      obtain ⟨dP, dS, dz, dn, dm⟩ := id hD
      have n1 : a_nc hf = a_nc h9 + mc := by rw [hh9]; rfl
      have n2 : a_ns hf = a_ns h9 + ms := by rw [hh9]; rfl
      have dn : a_nc h + cells = a_nc h9 := dn
      have dm : a_ns h + slots = a_ns h9 := dm
      refine n_throw hx hb hl (own := "EndingMarket") (ik := 145) (is := q.1) (ic := 149) (A := fun q => base ≤ q) hown (hts _ (hG _ (a_ns_link _ (by simp)))) (hts _ (hG _ (a_ns_link _ (by simp)))) hsb (vx_hat (fun w hw => hts _ (hG _ (a_ns_good w hw))) a_ns_bad (fun w hw => va_Nw.use (a_ns_on w hw) (hK.2.1 _ (a_ns_nw w hw)))) a_ns_ot hX.2.1 hX.2.2.1 dS (hL.1.trans hmL.symm) (a_dc_inv t4) (a_dc_inv t5) (a_dc_inv hq2) (a_dc_inv t7) (a_dc_inv t8) (fun x hx => (htab x hx).elim) (by rw [hRf]; omega) (by rw [hRl]; show 0 + 82 ≤ 60 * (d + 1 + 8); omega) (by omega) (by omega) hlk (fun t ha hz hk => ⟨rfl, by rw [hh9]; rfl, ?_, Nat.le_trans dS.1 hz, fun q h1 h2 => ?_⟩) (fun z hz => dS.2.2 z hz) (by omega) (by omega)
      · rw [hh9]
        exact dP.kept (fun k q hk9 => hk q.1 (dP k q hk9).lt)
      · rw [hk q (Nat.lt_of_lt_of_le h1 dS.1)]
        exact dS.2.1 q h1 h2) h8 a_fu 0 (a_lo vs nL) h hr
  cases h7.symm.trans e1
  rw [lg_entry_eq]
  exact hw s.heap [] 0 0 _ ⟨hP, va_S.rf, fun z => hsz z, Nat.add_zero _, Nat.add_zero _⟩ (a_LR_entry hlen)
theorem d9_thing_0 : decode method_3_code 0 = .ok (.aload_n 3, 1) := by decide +kernel
theorem d9_thing_1 : decode method_3_code 1 = .ok (.iconst 0, 1) := by decide +kernel
theorem d9_thing_2 : decode method_3_code 2 = .ok (.aload_n 0, 1) := by decide +kernel
theorem d9_thing_3 : decode method_3_code 3 = .ok (.iload_n 1, 1) := by decide +kernel
theorem d9_thing_4 : decode method_3_code 4 = .ok (.iload_n 2, 1) := by decide +kernel
theorem d9_thing_5 : decode method_3_code 5 = .ok (.invokevirtual 7, 3) := by decide +kernel
theorem d9_thing_13 : decode method_3_code 13 = .ok (.astore 4, 2) := by decide +kernel
theorem d9_thing_15 : decode method_3_code 15 = .ok (.iconst 1, 1) := by decide +kernel
theorem d9_thing_16 : decode method_3_code 16 = .ok (.ireturn, 1) := by decide +kernel
theorem w9_thing : a_lk 1483 (.methodLink "EndingMarketLaw" 7 m_EM_thing.1) = true ∧ a_lk 1484 (.instanceMethod m_EM_thing.1) = true ∧ a_lk 1485 (.selects "EndingMarket" m_EM_thing.1 m_EM_thing.1) = true ∧ a_lk 137 (.initialized m_EM_thing.1.cls) = true ∧ a_pn m_EM_thing.1 2 = true := ⟨by decide +kernel, by decide +kernel, by decide +kernel, by decide +kernel, by decide +kernel⟩
set_option maxRecDepth 100000 in
/-- a throw is caught in the law's thing -/
theorem a_met_thing {l : Launch} {D : va_G} {aC : Nat → ClassId} {base : Nat} {b : Nat × Nat} {X : Nat × (Nat → Int32)} {d : Nat} {bytes : ByteArray} {mL : Nat} {rt : Option FieldType} {vs : List Value} {h hf : A_H} {x o : Nat} {p0 p1 : Int32} {v4 : Value}
    (hvs : a_lo vs 5 = [.ref x, .int p0, .int p1, .ref o, v4]) (hkx : a_kd h x = 11) (hle : a_le h hf)
    (hcw : Cond.codeWith m_La_thing.1 method_3_code 5 (some .int) [(0, 10, 13, 13)] ∈ a_G) (hcl : Cond.classLink "EndingMarketLaw" 13 a_NS ∈ a_G)
    (hcode : Cond.code m_EM_thing.1 bytes mL rt ∈ a_G) (hml : mL ≤ 40)
    (hM : vx_Met l m_EM_thing.1 (Cond.code m_EM_thing.1 bytes mL rt :: a_G) (a_rm (d + 1) (a_nc hf - a_nc h) (a_ns hf - a_ns h)) (va_Pc (([.ref x, .int p0, .int p1] : List Value).map (a_cV base b)) (a_Wd D aC base b X h)) (fun _ _ _ _ => False) (a_XC D aC base hf) (a_nc hf - a_nc h) (a_ns hf - a_ns h) (fun q => base ≤ q)) :
    Met l m_La_thing.1 (Cond.codeWith m_La_thing.1 method_3_code 5 (some .int) [(0, 10, 13, 13)] :: a_G) (a_rm (d + 2) (a_nc hf - a_nc h) (a_ns hf - a_ns h)) (va_Pc (vs.map (a_cV base b)) (a_Wd D aC base b X h)) (a_Qc D aC base b hf (some (.int 1))) (a_nc hf - a_nc h) (a_ns hf - a_ns h) (fun q => base ≤ q) := by
  refine a_ofWH (cc := method_3_code) (maxL := 5) (ret := some .int) (hh := [(0, 10, 13, 13)]) (by decide +kernel) rfl ?_
  intro p e s m args below meth c s₁ B hmL hv0
  obtain ⟨rfl, hP, hK, hX, hb1, hb2, hsz⟩ := hv0
  have hx := B.exec
  have hb := B.bytes
  have hr := B.returns
  have hlocks := B.notSynchronized
  have hts := atoms_spec (ws := Cond.codeWith m_La_thing.1 method_3_code 5 (some .int) [(0, 10, 13, 13)] :: a_G) B.pre
  have hG : ∀ w ∈ a_G, w ∈ Cond.codeWith m_La_thing.1 method_3_code 5 (some .int) [(0, 10, 13, 13)] :: a_G := fun w hw => List.mem_cons_of_mem _ hw
  have hown : s.vm.findClass "EndingMarketLaw" = some m.cls := findClass_of_methodNamed B.named
  have htab : c.exceptionTable.toList = tableOf [(0, 10, 13, 13)] := vx_table (x := m_La_thing.1) B (hts _ List.mem_cons_self)
  have F : a_Fx p (headSpec (Cond.codeWith m_La_thing.1 method_3_code 5 (some .int) [(0, 10, 13, 13)] :: a_G) (a_rm (d + 2) (a_nc hf - a_nc h) (a_ns hf - a_ns h))).room s m (vs.map (a_cV base b)).toArray meth c method_3_code 5 "EndingMarketLaw" "thing" (Cond.codeWith m_La_thing.1 method_3_code 5 (some .int) [(0, 10, 13, 13)] :: a_G) D aC base b X (d + 1) :=
    ⟨hx, hb, hmL, hown, hts, hG, hK, hX, hb1, hb2, (name_of_methodNamed B.named B.method).1, (show d + 1 + 9 ≤ d + 2 + 8 by omega), (show 60 * (d + 1 + 9) ≤ 60 * (d + 2 + 8) by omega)⟩
  have hRc : (headSpec (Cond.codeWith m_La_thing.1 method_3_code 5 (some .int) [(0, 10, 13, 13)] :: a_G) (a_rm (d + 2) (a_nc hf - a_nc h) (a_ns hf - a_ns h))).room.cells = a_nc hf - a_nc h := rfl
  have hRs : (headSpec (Cond.codeWith m_La_thing.1 method_3_code 5 (some .int) [(0, 10, 13, 13)] :: a_G) (a_rm (d + 2) (a_nc hf - a_nc h) (a_ns hf - a_ns h))).room.slots = a_ns hf - a_ns h := rfl
  generalize (headSpec (Cond.codeWith m_La_thing.1 method_3_code 5 (some .int) [(0, 10, 13, 13)] :: a_G) (a_rm (d + 2) (a_nc hf - a_nc h) (a_ns hf - a_ns h))).room = R at F hRc hRs ⊢
  obtain ⟨-, -, -, -, -, -, -, -, -, -, -, hfr, hlo⟩ := id F
  have hlen : (a_lo vs 5).length = 5 := by rw [hvs]; rfl
  have hL : a_LR base b _ 5 (a_lo vs 5) := a_LR_entry hlen
  rw [lg_entry_eq]
  generalize (lg_sl (vs.map (a_cV base b)) ++ List.replicate (5 - (lg_sl (vs.map (a_cV base b))).length) Slot.unset).toArray = ls at hL ⊢
  rw [hvs] at hL
  have hl : lv_has ls 5 [(0, .ref (base + x)), (1, .int p0), (2, .int p1), (3, .ref (base + o))] := by
    refine ⟨hL.1, hL.2.1, fun q hq => ?_⟩
    rcases List.mem_cons.mp hq with rfl | hq
    · exact hL.2.2.2 0 (.ref x) rfl (by simp)
    rcases List.mem_cons.mp hq with rfl | hq
    · exact hL.2.2.2 1 (.int p0) rfl (by simp)
    rcases List.mem_cons.mp hq with rfl | hq
    · exact hL.2.2.2 2 (.int p1) rfl (by simp)
    rcases List.mem_cons.mp hq with rfl | hq
    · exact hL.2.2.2 3 (.ref o) rfl (by simp)
    · cases hq
  obtain ⟨c1, c2, c3, c4, c5⟩ := w9_thing
  have hS : va_S (fun q => base ≤ q) s.heap s.heap [] := va_S.rf
  have hD : a_Dy s D aC base (a_nc h, a_ns h) h s.heap [] 0 0 := ⟨hP, hS, fun z => hsz z, Nat.add_zero _, Nat.add_zero _⟩
  refine lv_aload_n hx hb d9_thing_0 rfl (lv_at hl 3 rfl) ?_
  refine lv_iconst hx hb d9_thing_1 (v := 0) rfl ?_
  refine lv_aload_n hx hb d9_thing_2 rfl (lv_at hl 0 rfl) ?_
  refine lv_iload_n hx hb d9_thing_3 rfl (lv_at hl 1 rfl) ?_
  refine lv_iload_n hx hb d9_thing_4 rfl (lv_at hl 2 rfl) ?_
  intro T hT Y
  have hszH := a_size F hD hT Y
  have hat := a_ws_at (aC := aC) (base := base) (a_kd_lt hkx (by decide))
  rw [a_E_obj hkx rfl] at hat
  have hrec := va_recv hK.1 hP rfl hat
  have hgood : GoodIn (Cond.codeWith m_La_thing.1 method_3_code 5 (some .int) [(0, 10, 13, 13)] :: a_G) (Cond.code m_EM_thing.1 bytes mL rt :: a_G) := a_good hG hcode
  have cw : CallW R s (vs.map (a_cV base b)).toArray "EndingMarketLaw" "EndingMarket" 7 m_EM_thing.1 bytes mL rt (Cond.code m_EM_thing.1 bytes mL rt :: a_G) (a_rm (d + 1) (a_nc hf - a_nc h) (a_ns hf - a_ns h)) (a_nc hf - a_nc h) (a_ns hf - a_ns h) 2 :=
    ⟨callB_of 2 hts hgood rfl rfl rfl (hts _ (hG _ (a_lk_inv c4))) (hts _ (hG _ (a_lk_inv c1))) (a_pn_inv c5) (a_rm_fit hfr hlo hml), hts _ (hG _ (a_lk_inv c2)), hts _ (hG _ (a_lk_inv c3))⟩
  have hrun := vx_runV (C := "EndingMarket") (b := base + x) (As := [.int p0, .int p1]) (rest := [.int 0, .ref (base + o)]) (g := F0 m 5 ls [.int p1, .int p0, .ref (base + x), .int 0, .ref (base + o)]) (e := e) (below := below) (meth := meth) (H := s.heap) (locs := []) (cells := 0) (slots := 0) ⟨hx, hb, hmL, hown, hts⟩ hM cw ⟨a_Wd_blind, hrec, fun U hU hW => a_pre F hD hszH hU hW⟩ rfl rfl hl.1 rfl (Nat.le_of_ble_eq_true rfl) d9_thing_5 ⟨by omega, by omega⟩
  rcases hrun T hT Y with ⟨v, st₀, t, T', L, h0, X', hL9, e1, e2, hQ, st⟩ | ⟨q, st₀, t, T', L, E, ce, h0, X', hL9, e1, e2, ⟨hE, hfl, hP1, hF⟩, hce, hcv, hcle, st⟩
  · exact hQ.elim
  · subst hE
    rw [Nat.zero_add, Nat.zero_add, List.nil_append] at X'
    have hS1 : va_S (fun q => base ≤ q) s.heap T'.heap L := by
      obtain ⟨f1, f2⟩ := hF
      rw [h0] at f1 f2
      rw [e1]
      exact ⟨f1, f2, hL9⟩
    obtain ⟨t2, a1, b1⟩ := vx_catch (Q := MQ below (a_Qc D aC base b hf (some (.int 1))) (vs.map (a_cV base b)).toArray s (a_nc hf - a_nc h) (a_ns hf - a_ns h) (fun q => base ≤ q)) (own := "EndingMarketLaw") (name := a_NS) (E := a_NS) (ce := ce) (q := q) (pc := 5) (ls := ls) (rest := [.int 0, .ref (base + o)]) (H := T'.heap) (locs := L) (cells := a_nc hf - a_nc h) (slots := a_ns hf - a_ns h) (p := p) (l := l) (e := e) (R := R) (args := (vs.map (a_cV base b)).toArray) (below := below) (meth := meth) (c := c) hown [] ⟨0, 10, 13, 13⟩ [] htab (fun z hz => by cases hz) (by decide) (by decide) (hts _ (hG _ hcl)) (va_Nw.use rfl (hK.2.1 _ a_ns_cast)) (by rw [e1]; exact hce) hcv hcle (by
        refine lv_astore hx hb d9_thing_13 hl (by decide) rfl (fun ls' hl2 => ?_)
        refine lv_iconst hx hb d9_thing_15 (v := 1) rfl ?_
        exact W.iret hx hb hr (fun t3 ht hW => ⟨rfl, by rw [ht, e1]; exact hP1, (fun z => by rw [hfl] at z; cases z), hS1.F ht⟩) hS1.2.2 d9_thing_16) T' rfl X'
    exact ⟨t2, st.trans a1, b1⟩
theorem d9_ending_0 : decode method_4_code 0 = .ok (.aload_n 3, 1) := by decide +kernel
theorem d9_ending_1 : decode method_4_code 1 = .ok (.iconst 0, 1) := by decide +kernel
theorem d9_ending_2 : decode method_4_code 2 = .ok (.aload_n 0, 1) := by decide +kernel
theorem d9_ending_3 : decode method_4_code 3 = .ok (.iload_n 1, 1) := by decide +kernel
theorem d9_ending_4 : decode method_4_code 4 = .ok (.iload_n 2, 1) := by decide +kernel
theorem d9_ending_5 : decode method_4_code 5 = .ok (.invokevirtual 15, 3) := by decide +kernel
theorem d9_ending_13 : decode method_4_code 13 = .ok (.astore 4, 2) := by decide +kernel
theorem d9_ending_15 : decode method_4_code 15 = .ok (.iconst 1, 1) := by decide +kernel
theorem d9_ending_16 : decode method_4_code 16 = .ok (.ireturn, 1) := by decide +kernel
theorem w9_ending : a_lk 1566 (.methodLink "EndingMarketLaw" 15 m_EM_ending.1) = true ∧ a_lk 1567 (.instanceMethod m_EM_ending.1) = true ∧ a_lk 1568 (.selects "EndingMarket" m_EM_ending.1 m_EM_ending.1) = true ∧ a_lk 137 (.initialized m_EM_ending.1.cls) = true ∧ a_pn m_EM_ending.1 2 = true := ⟨by decide +kernel, by decide +kernel, by decide +kernel, by decide +kernel, by decide +kernel⟩
set_option maxRecDepth 100000 in
/-- a throw is caught in the law's ending -/
theorem a_met_ending {l : Launch} {D : va_G} {aC : Nat → ClassId} {base : Nat} {b : Nat × Nat} {X : Nat × (Nat → Int32)} {d : Nat} {bytes : ByteArray} {mL : Nat} {rt : Option FieldType} {vs : List Value} {h hf : A_H} {x o : Nat} {p0 p1 : Int32} {v4 : Value}
    (hvs : a_lo vs 5 = [.ref x, .int p0, .int p1, .ref o, v4]) (hkx : a_kd h x = 11) (hle : a_le h hf)
    (hcw : Cond.codeWith m_La_ending.1 method_4_code 5 (some .int) [(0, 10, 13, 13)] ∈ a_G) (hcl : Cond.classLink "EndingMarketLaw" 13 a_NS ∈ a_G)
    (hcode : Cond.code m_EM_ending.1 bytes mL rt ∈ a_G) (hml : mL ≤ 40)
    (hM : vx_Met l m_EM_ending.1 (Cond.code m_EM_ending.1 bytes mL rt :: a_G) (a_rm (d + 1) (a_nc hf - a_nc h) (a_ns hf - a_ns h)) (va_Pc (([.ref x, .int p0, .int p1] : List Value).map (a_cV base b)) (a_Wd D aC base b X h)) (fun _ _ _ _ => False) (a_XC D aC base hf) (a_nc hf - a_nc h) (a_ns hf - a_ns h) (fun q => base ≤ q)) :
    Met l m_La_ending.1 (Cond.codeWith m_La_ending.1 method_4_code 5 (some .int) [(0, 10, 13, 13)] :: a_G) (a_rm (d + 2) (a_nc hf - a_nc h) (a_ns hf - a_ns h)) (va_Pc (vs.map (a_cV base b)) (a_Wd D aC base b X h)) (a_Qc D aC base b hf (some (.int 1))) (a_nc hf - a_nc h) (a_ns hf - a_ns h) (fun q => base ≤ q) := by
  refine a_ofWH (cc := method_4_code) (maxL := 5) (ret := some .int) (hh := [(0, 10, 13, 13)]) (by decide +kernel) rfl ?_
  intro p e s m args below meth c s₁ B hmL hv0
  obtain ⟨rfl, hP, hK, hX, hb1, hb2, hsz⟩ := hv0
  have hx := B.exec
  have hb := B.bytes
  have hr := B.returns
  have hlocks := B.notSynchronized
  have hts := atoms_spec (ws := Cond.codeWith m_La_ending.1 method_4_code 5 (some .int) [(0, 10, 13, 13)] :: a_G) B.pre
  have hG : ∀ w ∈ a_G, w ∈ Cond.codeWith m_La_ending.1 method_4_code 5 (some .int) [(0, 10, 13, 13)] :: a_G := fun w hw => List.mem_cons_of_mem _ hw
  have hown : s.vm.findClass "EndingMarketLaw" = some m.cls := findClass_of_methodNamed B.named
  have htab : c.exceptionTable.toList = tableOf [(0, 10, 13, 13)] := vx_table (x := m_La_ending.1) B (hts _ List.mem_cons_self)
  have F : a_Fx p (headSpec (Cond.codeWith m_La_ending.1 method_4_code 5 (some .int) [(0, 10, 13, 13)] :: a_G) (a_rm (d + 2) (a_nc hf - a_nc h) (a_ns hf - a_ns h))).room s m (vs.map (a_cV base b)).toArray meth c method_4_code 5 "EndingMarketLaw" "ending" (Cond.codeWith m_La_ending.1 method_4_code 5 (some .int) [(0, 10, 13, 13)] :: a_G) D aC base b X (d + 1) :=
    ⟨hx, hb, hmL, hown, hts, hG, hK, hX, hb1, hb2, (name_of_methodNamed B.named B.method).1, (show d + 1 + 9 ≤ d + 2 + 8 by omega), (show 60 * (d + 1 + 9) ≤ 60 * (d + 2 + 8) by omega)⟩
  have hRc : (headSpec (Cond.codeWith m_La_ending.1 method_4_code 5 (some .int) [(0, 10, 13, 13)] :: a_G) (a_rm (d + 2) (a_nc hf - a_nc h) (a_ns hf - a_ns h))).room.cells = a_nc hf - a_nc h := rfl
  have hRs : (headSpec (Cond.codeWith m_La_ending.1 method_4_code 5 (some .int) [(0, 10, 13, 13)] :: a_G) (a_rm (d + 2) (a_nc hf - a_nc h) (a_ns hf - a_ns h))).room.slots = a_ns hf - a_ns h := rfl
  generalize (headSpec (Cond.codeWith m_La_ending.1 method_4_code 5 (some .int) [(0, 10, 13, 13)] :: a_G) (a_rm (d + 2) (a_nc hf - a_nc h) (a_ns hf - a_ns h))).room = R at F hRc hRs ⊢
  obtain ⟨-, -, -, -, -, -, -, -, -, -, -, hfr, hlo⟩ := id F
  have hlen : (a_lo vs 5).length = 5 := by rw [hvs]; rfl
  have hL : a_LR base b _ 5 (a_lo vs 5) := a_LR_entry hlen
  rw [lg_entry_eq]
  generalize (lg_sl (vs.map (a_cV base b)) ++ List.replicate (5 - (lg_sl (vs.map (a_cV base b))).length) Slot.unset).toArray = ls at hL ⊢
  rw [hvs] at hL
  have hl : lv_has ls 5 [(0, .ref (base + x)), (1, .int p0), (2, .int p1), (3, .ref (base + o))] := by
    refine ⟨hL.1, hL.2.1, fun q hq => ?_⟩
    rcases List.mem_cons.mp hq with rfl | hq
    · exact hL.2.2.2 0 (.ref x) rfl (by simp)
    rcases List.mem_cons.mp hq with rfl | hq
    · exact hL.2.2.2 1 (.int p0) rfl (by simp)
    rcases List.mem_cons.mp hq with rfl | hq
    · exact hL.2.2.2 2 (.int p1) rfl (by simp)
    rcases List.mem_cons.mp hq with rfl | hq
    · exact hL.2.2.2 3 (.ref o) rfl (by simp)
    · cases hq
  obtain ⟨c1, c2, c3, c4, c5⟩ := w9_ending
  have hS : va_S (fun q => base ≤ q) s.heap s.heap [] := va_S.rf
  have hD : a_Dy s D aC base (a_nc h, a_ns h) h s.heap [] 0 0 := ⟨hP, hS, fun z => hsz z, Nat.add_zero _, Nat.add_zero _⟩
  refine lv_aload_n hx hb d9_ending_0 rfl (lv_at hl 3 rfl) ?_
  refine lv_iconst hx hb d9_ending_1 (v := 0) rfl ?_
  refine lv_aload_n hx hb d9_ending_2 rfl (lv_at hl 0 rfl) ?_
  refine lv_iload_n hx hb d9_ending_3 rfl (lv_at hl 1 rfl) ?_
  refine lv_iload_n hx hb d9_ending_4 rfl (lv_at hl 2 rfl) ?_
  intro T hT Y
  have hszH := a_size F hD hT Y
  have hat := a_ws_at (aC := aC) (base := base) (a_kd_lt hkx (by decide))
  rw [a_E_obj hkx rfl] at hat
  have hrec := va_recv hK.1 hP rfl hat
  have hgood : GoodIn (Cond.codeWith m_La_ending.1 method_4_code 5 (some .int) [(0, 10, 13, 13)] :: a_G) (Cond.code m_EM_ending.1 bytes mL rt :: a_G) := a_good hG hcode
  have cw : CallW R s (vs.map (a_cV base b)).toArray "EndingMarketLaw" "EndingMarket" 15 m_EM_ending.1 bytes mL rt (Cond.code m_EM_ending.1 bytes mL rt :: a_G) (a_rm (d + 1) (a_nc hf - a_nc h) (a_ns hf - a_ns h)) (a_nc hf - a_nc h) (a_ns hf - a_ns h) 2 :=
    ⟨callB_of 2 hts hgood rfl rfl rfl (hts _ (hG _ (a_lk_inv c4))) (hts _ (hG _ (a_lk_inv c1))) (a_pn_inv c5) (a_rm_fit hfr hlo hml), hts _ (hG _ (a_lk_inv c2)), hts _ (hG _ (a_lk_inv c3))⟩
  have hrun := vx_runV (C := "EndingMarket") (b := base + x) (As := [.int p0, .int p1]) (rest := [.int 0, .ref (base + o)]) (g := F0 m 5 ls [.int p1, .int p0, .ref (base + x), .int 0, .ref (base + o)]) (e := e) (below := below) (meth := meth) (H := s.heap) (locs := []) (cells := 0) (slots := 0) ⟨hx, hb, hmL, hown, hts⟩ hM cw ⟨a_Wd_blind, hrec, fun U hU hW => a_pre F hD hszH hU hW⟩ rfl rfl hl.1 rfl (Nat.le_of_ble_eq_true rfl) d9_ending_5 ⟨by omega, by omega⟩
  rcases hrun T hT Y with ⟨v, st₀, t, T', L, h0, X', hL9, e1, e2, hQ, st⟩ | ⟨q, st₀, t, T', L, E, ce, h0, X', hL9, e1, e2, ⟨hE, hfl, hP1, hF⟩, hce, hcv, hcle, st⟩
  · exact hQ.elim
  · subst hE
    rw [Nat.zero_add, Nat.zero_add, List.nil_append] at X'
    have hS1 : va_S (fun q => base ≤ q) s.heap T'.heap L := by
      obtain ⟨f1, f2⟩ := hF
      rw [h0] at f1 f2
      rw [e1]
      exact ⟨f1, f2, hL9⟩
    obtain ⟨t2, a1, b1⟩ := vx_catch (Q := MQ below (a_Qc D aC base b hf (some (.int 1))) (vs.map (a_cV base b)).toArray s (a_nc hf - a_nc h) (a_ns hf - a_ns h) (fun q => base ≤ q)) (own := "EndingMarketLaw") (name := a_NS) (E := a_NS) (ce := ce) (q := q) (pc := 5) (ls := ls) (rest := [.int 0, .ref (base + o)]) (H := T'.heap) (locs := L) (cells := a_nc hf - a_nc h) (slots := a_ns hf - a_ns h) (p := p) (l := l) (e := e) (R := R) (args := (vs.map (a_cV base b)).toArray) (below := below) (meth := meth) (c := c) hown [] ⟨0, 10, 13, 13⟩ [] htab (fun z hz => by cases hz) (by decide) (by decide) (hts _ (hG _ hcl)) (va_Nw.use rfl (hK.2.1 _ a_ns_cast)) (by rw [e1]; exact hce) hcv hcle (by
        refine lv_astore hx hb d9_ending_13 hl (by decide) rfl (fun ls' hl2 => ?_)
        refine lv_iconst hx hb d9_ending_15 (v := 1) rfl ?_
        exact W.iret hx hb hr (fun t3 ht hW => ⟨rfl, by rw [ht, e1]; exact hP1, (fun z => by rw [hfl] at z; cases z), hS1.F ht⟩) hS1.2.2 d9_ending_16) T' rfl X'
    exact ⟨t2, st.trans a1, b1⟩
