/-! THE LAW'S WALK: from its entry to its end -/
theorem s_pre {X : Nat × (Nat → Int32)} {M : Nat → List Value → A_H → A_R} {ag : Nat → List Value → A_H → A_R} {h2 h4 : A_H} (e1 : M 151 [.ref 0] i_hA = some (h2, none)) (k2 : a_ok h2 = true) (n2 : h2.1.length = 234) (e2 : M 207 [.ref 234] (a_mk h2 (12, 0, List.replicate 54 none) 54) = some (h4, none)) (k4 : a_ok h4 = true) (n4 : h4.1.length = 257) :
    a_rn X a_tx M ag k_La_law_0 0 [.retAddr 1, .retAddr 0, .retAddr 0, .retAddr 0, .retAddr 0, .retAddr 0, .retAddr 0] [] i_hE = a_rn X a_tx M ag k_La_law_13 0 [.retAddr 1, .ref 0, .ref 234, .ref 257, .int (nI 0), .retAddr 0, .retAddr 0] [] (a_mk h4 (101, 1, []) 1) := by
  have k1 : a_ok i_hE = true := by decide
  have c1 : (nI 1).toNatClampNeg = 1 := b_cl (by decide)
  have c2 : decide (0 ≤ (nI 1).toInt) = true := by decide +kernel
  rw [q_La_law_0, k1, z_it, z_hl]
  show a_b0 (M 151 [.ref 0] i_hA) _ = _
  rw [e1, z_b0, k2, z_it, z_hl, n2, e2, z_b0, k4, n4, c1, c2]
  rfl
theorem s_run {X : Nat × (Nat → Int32)} (hL : X.1 ≤ 3072) : ∃ hf, a_go X a_tx (lz_M X 39) k_La_law_0 a_fu 0 [.retAddr 1, .retAddr 0, .retAddr 0, .retAddr 0, .retAddr 0, .retAddr 0, .retAddr 0] i_hE = some (hf, some (.int 1)) ∧ a_nc hf ≤ 601024 ∧ a_ns hf ≤ 7293033 := by
  have h3 := i_c3
  simp only [Bool.and_eq_true] at h3
  obtain ⟨k1, k2, k3, k4, k5, k6, k7, k8⟩ := h3
  have k4 := Nat.eq_of_beq_eq_true k4
  have k5 := Nat.eq_of_beq_eq_true k5
  have k6 := Nat.le_of_ble_eq_true k6
  have k7 := Nat.le_of_ble_eq_true k7
  have e1 : lz_M X 39 151 [.ref 0] i_hA = some (i_g i_r1, none) := by
    unfold lz_M
    rw [if_pos (Or.inl rfl)]
    exact i_ok_g i_c1
  have e2 : lz_M X 39 207 [.ref 234] (a_mk (i_g i_r1) (12, 0, List.replicate 54 none) 54) = some (i_g i_r2, none) := by
    unfold lz_M
    rw [if_pos (Or.inr rfl)]
    exact i_ok_g i_c2
  have e3 : a_go X a_tx (lz_M X 39) k_La_law_0 a_fu 0 [.retAddr 1, .retAddr 0, .retAddr 0, .retAddr 0, .retAddr 0, .retAddr 0, .retAddr 0] i_hE = a_go X a_tx (lz_M X 39) k_La_law_0 (a_f1 + 1) 13 [.retAddr 1, .ref 0, .ref 234, .ref 257, .int (nI 0), .retAddr 0, .retAddr 0] i_hC := by
    show a_go X a_tx (lz_M X 39) k_La_law_0 (a_f1 + 1) 0 _ _ = _
    rw [l_La_law_13, ← z_go, List.drop_zero]
    exact s_pre e1 k2 k4 e2 k3 k5
  obtain ⟨hf, g1, g2, g3⟩ := lz_all (X := X) (by omega) 512 0 (a_f1 + 1) s_m s_j i_hC.2.2.2 (.retAddr 0) (.retAddr 0) s_R (by omega) (by show 512 < 999999 + 1; omega) (Nat.zero_le _)
  rw [← s_hC] at g1
  have k6 : i_hC.2.2.2.1.1 ≤ 258 := k6
  have k7 : i_hC.2.2.2.1.2 ≤ 23000 := k7
  exact ⟨hf, e3.trans g1, by omega, by omega⟩
theorem s_el : ∀ j, j < 94 → Cond.eq (.elem (.field (.string "EndingMarket$Tape" 51) "java/lang/String" "value" "[B") (.int (Int32.ofNat j))) (.int (a_tx.getD j 0)) ∈ flatC (Jvm.Cond.and given_1 narrow_1) := by
  have h : ((List.range 94).all fun j => decide (Cond.eq (.elem (.field (.string "EndingMarket$Tape" 51) "java/lang/String" "value" "[B") (.int (Int32.ofNat j))) (.int (a_tx.getD j 0)) ∈ flatC (Jvm.Cond.and given_1 narrow_1))) = true := by decide +kernel
  exact fun j hj => of_decide_eq_true (List.all_eq_true.mp h j (List.mem_range.mpr hj))
theorem s_w1 : Cond.isRef (.static Bundle.tN "UNASSIGNED_STACK" Bundle.steD) ∈ flatC (Jvm.Cond.and given_1 narrow_1) ∧ Cond.isRef (.static Bundle.tN "SUPPRESSED_SENTINEL" Bundle.listD) ∈ flatC (Jvm.Cond.and given_1 narrow_1) ∧ Cond.isRef (.static "jdk/internal/util/Preconditions" "SIOOBE_FORMATTER" "Ljava/util/function/BiFunction;") ∈ flatC (Jvm.Cond.and given_1 narrow_1) ∧ Cond.eq (.static "java/lang/String" "COMPACT_STRINGS" "Z") (.int 1) ∈ flatC (Jvm.Cond.and given_1 narrow_1) := ⟨by decide +kernel, by decide +kernel, by decide +kernel, by decide +kernel⟩
theorem s_w2 : Cond.exactly (.string "EndingMarket$Tape" 51) "java/lang/String" ∈ flatC (Jvm.Cond.and given_1 narrow_1) ∧ Cond.eq (.field (.string "EndingMarket$Tape" 51) "java/lang/String" "coder" "B") (.int 0) ∈ flatC (Jvm.Cond.and given_1 narrow_1) ∧ Cond.arrayOf (.field (.string "EndingMarket$Tape" 51) "java/lang/String" "value" "[B") .byte ∈ flatC (Jvm.Cond.and given_1 narrow_1) ∧ Cond.eq (.length (.field (.string "EndingMarket$Tape" 51) "java/lang/String" "value" "[B")) (.int (Int32.ofNat 94)) ∈ flatC (Jvm.Cond.and given_1 narrow_1) := ⟨by decide +kernel, by decide +kernel, by decide +kernel, by decide +kernel⟩
theorem s_w3 : ∀ q ∈ a_txs, Cond.exactly (.string "EndingMarket" q.1) "java/lang/String" ∈ flatC (Jvm.Cond.and given_1 narrow_1) ∧ Cond.stringRef "EndingMarket" q.1 q.2 ∈ lw_tbl := by
  have h : (a_txs.all fun q => decide (Cond.exactly (.string "EndingMarket" q.1) "java/lang/String" ∈ flatC (Jvm.Cond.and given_1 narrow_1)) && decide (Cond.stringRef "EndingMarket" q.1 q.2 ∈ lw_tbl)) = true := by decide +kernel
  intro q hq
  have h1 := List.all_eq_true.mp h q hq
  rw [Bool.and_eq_true, decide_eq_true_eq, decide_eq_true_eq] at h1
  exact h1
theorem s_w4 : ∀ w ∈ [Cond.laysStatic Bundle.tN "UNASSIGNED_STACK" Bundle.steD, .laysStatic Bundle.tN "SUPPRESSED_SENTINEL" Bundle.listD, .laysStatic "jdk/internal/util/Preconditions" "SIOOBE_FORMATTER" "Ljava/util/function/BiFunction;", .laysStatic "java/lang/String" "COMPACT_STRINGS" "Z", .initialized Bundle.tN, .initialized "jdk/internal/util/Preconditions", .initialized "java/lang/String", .stringRef "EndingMarket$Tape" 51 a_tS, .arrayClass .int, .arrayClass .long, .arrayClass .boolean, .arrayClass .byte, .arrayOver (.object "EndingMarket$Affairs"), .arrayOver (.object "EndingMarket$Image")], w ∈ lw_tbl := by
  intro w hw
  have h : ([Cond.laysStatic Bundle.tN "UNASSIGNED_STACK" Bundle.steD, .laysStatic Bundle.tN "SUPPRESSED_SENTINEL" Bundle.listD, .laysStatic "jdk/internal/util/Preconditions" "SIOOBE_FORMATTER" "Ljava/util/function/BiFunction;", .laysStatic "java/lang/String" "COMPACT_STRINGS" "Z", .initialized Bundle.tN, .initialized "jdk/internal/util/Preconditions", .initialized "java/lang/String", .stringRef "EndingMarket$Tape" 51 a_tS, .arrayClass .int, .arrayClass .long, .arrayClass .boolean, .arrayClass .byte, .arrayOver (.object "EndingMarket$Affairs"), .arrayOver (.object "EndingMarket$Image")].all fun w => decide (w ∈ lw_tbl)) = true := by decide +kernel
  exact of_decide_eq_true (List.all_eq_true.mp h w hw)
theorem s_ins : (a_cl.all fun q => decide (Cond.instantiable q.1 q.2.2 ∈ lw_tbl)) = true := by decide +kernel
theorem s_nwon : ∀ w ∈ a_nw, w.onTables = true := by decide +kernel
theorem s_arr {args : Array Value} {s : State} {ty : FieldType} (h : (Cond.arrayClass ty).before args s = true) : ∃ c, ArrOfT s c ty ∧ s.vm.findClass ("[" ++ ty.toString) = some c := by
  obtain ⟨c, k, comp, h1, h2, h3⟩ := Cond.arrayClass_spec h
  exact ⟨c, fun n z => ⟨(fun k h => by cases h), k, h2, comp, h3⟩, h1⟩
theorem s_aro {args : Array Value} {s : State} {C : String} (h : (Cond.arrayOver (.object C)).before args s = true) : ∃ c, ArrOfT s c (.object C) ∧ va_RA s c (.object C) := by
  obtain ⟨comp, c, k, h1, h2, h3, h4, h5⟩ := Cond.arrayOver_spec h
  exact ⟨c, fun n z => ⟨(fun k h => by cases h), k, h3, comp, h4⟩, k, comp, h3, h4, h1, h5⟩
/-- what the Statement gives: the tables' world -/
theorem s_K {s : State} {args : Array Value} (hts : ∀ w ∈ lw_tbl, w.before args s = true) : ∃ (D : va_G) (aC : Nat → ClassId), a_K D aC s := by
  have h0 : ∀ k : Nat, ∃ z : ClassId × (Nat → Nat), ∀ q : vw_C, a_cl[k]? = some q → u_Kn s q.1 q.2.1 q.2.2 z.1 z.2 := by
    intro k
    cases hq : a_cl[k]? with
    | none => exact ⟨(0, fun _ => 0), fun q h => by cases h⟩
    | some q =>
      obtain ⟨h1, -⟩ := a_clok hq
      have h2 := of_decide_eq_true (List.all_eq_true.mp s_ins q (List.mem_of_getElem? hq))
      obtain ⟨c, iS, h3⟩ := u_known (C := q.1) (T := q.2.1) (N := q.2.2) (n := q.2.2) hts (fun w hw => (List.mem_filter.mp (h1 w hw)).1) (hts _ h2)
      exact ⟨(c, iS), fun q2 h => by cases h; exact h3⟩
  obtain ⟨f, hf⟩ := Classical.axiomOfChoice h0
  obtain ⟨c0, a0, b0⟩ := s_arr (hts _ (s_w4 (.arrayClass .int) (by simp)))
  obtain ⟨c1, a1, b1⟩ := s_arr (hts _ (s_w4 (.arrayClass .long) (by simp)))
  obtain ⟨c2, a2, b2⟩ := s_arr (hts _ (s_w4 (.arrayClass .boolean) (by simp)))
  obtain ⟨c3, a3, b3⟩ := s_arr (hts _ (s_w4 (.arrayClass .byte) (by simp)))
  obtain ⟨c4, a4, b4⟩ := s_aro (hts _ (s_w4 (.arrayOver (.object "EndingMarket$Affairs")) (by simp)))
  obtain ⟨c5, a5, b5⟩ := s_aro (hts _ (s_w4 (.arrayOver (.object "EndingMarket$Image")) (by simp)))
  refine ⟨(fun k => (f k).1, fun k => (f k).2), fun k => match k with
    | 0 => c0
    | 1 => c1
    | 2 => c2
    | 3 => c3
    | 4 => c4
    | _ => c5, ⟨fun k q hq => hf k q hq, fun k q hq => ?_⟩, fun w hw => va_Nw.of (s_nwon w hw) (hts w (a_nw_in w hw)), va_AO.of (hts _ (s_w4 (.arrayOver (.object "EndingMarket$Affairs")) (by simp))), va_AO.of (hts _ (s_w4 (.arrayOver (.object "EndingMarket$Image")) (by simp)))⟩
  match k, hq with
  | 0, hq => cases hq; exact ⟨a0, b0⟩
  | 1, hq => cases hq; exact ⟨a1, b1⟩
  | 2, hq => cases hq; exact ⟨a2, b2⟩
  | 3, hq => cases hq; exact ⟨a3, b3⟩
  | 4, hq => cases hq; exact ⟨a4, b4⟩
  | 5, hq => cases hq; exact ⟨a5, b5⟩
  | k + 6, hq => simp [a_tys] at hq
/-- .. and the heap's -/
theorem s_Z {s : State} {args : Array Value} (hts : ∀ w ∈ lw_tbl, w.before args s = true) (hgv : (Jvm.Cond.and given_1 narrow_1).before args s = true) : ∃ sa, a_Z s.heap.size sa s s.heap := by
  have hs := flat_of_before _ hgv
  have hA : ∀ a : Nat, a < s.heap.size → ¬ (fun q : Nat => s.heap.size ≤ q) a := fun a h => Nat.not_le.mpr h
  obtain ⟨u1, u2, u3, u4⟩ := s_w1
  obtain ⟨v1, v2, v3, v4⟩ := s_w2
  obtain ⟨adK, adV, hS, hE⟩ := vk_Sof (args := args) (s := s) (N := 1) (tm := fun _ => .string "EndingMarket$Tape" 51) (len := [94]) (byt := [a_tx]) (A := fun q => s.heap.size ≤ q)
    (fun i hi => by rw [show i = 0 by omega]; decide) (fun i hi => hs _ v1) (fun i hi => hs _ v2) (fun i hi => hs _ v3) (fun i hi => by rw [show i = 0 by omega]; exact hs _ v4)
    (fun i hi j hj => by rw [show i = 0 by omega] at hj ⊢; exact hs _ (s_el j hj)) (fun i j hi hj hij => absurd (show i = j by omega) hij) hA
  obtain ⟨g1, g2, g3, g4⟩ := hS.1 0 (by decide)
  refine ⟨adK 0, vx_Zqof (hts _ (s_w4 (.laysStatic Bundle.tN "UNASSIGNED_STACK" Bundle.steD) (by simp))) (hts _ (s_w4 (.initialized Bundle.tN) (by simp))) (hs _ u1) hA, vx_Zqof (hts _ (s_w4 (.laysStatic Bundle.tN "SUPPRESSED_SENTINEL" Bundle.listD) (by simp))) (hts _ (s_w4 (.initialized Bundle.tN) (by simp))) (hs _ u2) hA, fun q hq => ?_,
    va_Zof (hts _ (s_w4 (.laysStatic "java/lang/String" "COMPACT_STRINGS" "Z") (by simp))) (hts _ (s_w4 (.initialized "java/lang/String") (by simp))) (va_eqt (hs _ u4)) hA,
    va_Zqof (hts _ (s_w4 (.laysStatic "jdk/internal/util/Preconditions" "SIOOBE_FORMATTER" "Ljava/util/function/BiFunction;") (by simp))) (hts _ (s_w4 (.initialized "jdk/internal/util/Preconditions") (by simp))) (hs _ u3) hA,
    vk_R.of (hts _ (s_w4 (.stringRef "EndingMarket$Tape" 51 a_tS) (by simp))) (hE 0 (by decide)), adV 0, g1, g2, g3, g4⟩
  obtain ⟨q1, q2⟩ := s_w3 q hq
  obtain ⟨a, cc, cA, kA, h1, -⟩ := Cond.exactly_spec (args := args) (first := s) (o := none) (s := s) (idx := []) (t := .string "EndingMarket" q.1) (cls := "java/lang/String") (hs _ q1)
  exact ⟨a, vk_R.of (hts _ q2) h1⟩
