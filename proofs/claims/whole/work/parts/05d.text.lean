/-! THE TEXT OF THE WORDS: length and charAt by contract -/
def a_tx : List Int32 := [107, 105, 110, 100, 32, 109, 97, 110, 32, 116, 104, 105, 110, 103, 32, 101, 110, 100, 105, 110, 103, 32, 102, 97, 108, 115, 101, 32, 100, 117, 115, 107, 32, 98, 117, 121, 115, 32, 112, 117, 116, 115, 32, 100, 97, 121, 32, 111, 114, 32, 97, 110, 100, 32, 110, 111, 116, 32, 101, 110, 100, 101, 100, 32, 111, 102, 32, 104, 97, 115, 32, 102, 105, 116, 115, 32, 111, 112, 101, 110, 32, 112, 97, 103, 101, 115, 32, 110, 117, 109, 98, 101, 114, 32]
def a_tS : String := "kind man thing ending false dusk buys puts day or and not ended of has fits open pages number "
theorem a_tx_len : a_tx.length = 94 := by decide +kernel
theorem a_tx_ok : ∀ x ∈ a_tx, ((x &&& 255).toUInt32 % 65536).toInt32 = x ∧ narrow .char (.int x) = .int x := by decide +kernel
/-- the words on the text, below base -/
def a_Tt (base sa : Nat) (U : State) (H : Heap) : Prop :=
  va_Z "java/lang/String" "COMPACT_STRINGS" "Z" (.int 1) (fun q => base ≤ q) U H ∧
  va_Zq "jdk/internal/util/Preconditions" "SIOOBE_FORMATTER" "Ljava/util/function/BiFunction;" (fun q => base ≤ q) U H ∧
  vk_R "EndingMarket$Tape" 51 a_tS sa U ∧
  ∃ ad, va_O "java/lang/String" sa (fun q => base ≤ q) U H ∧ va_OF "java/lang/String" "coder" "B" (.int 0) sa (fun q => base ≤ q) U H ∧ va_OF "java/lang/String" "value" "[B" (.ref ad) sa (fun q => base ≤ q) U H ∧ va_T .byte ad 94 (fun j => .int (a_tx.getD j 0)) (fun q => base ≤ q) U H
theorem a_Tt.warm {base sa : Nat} {s U : State} {H : Heap} (hW : s.WarmedH U.vm) (h : a_Tt base sa s H) : a_Tt base sa U H := by
  obtain ⟨h1, h2, h3, ad, h4, h5, h6, h7⟩ := h
  exact ⟨va_Z.moved hW.alike h1, va_Zq.moved hW.alike h2, vk_R.warm hW h3, ad, va_O.moved hW.alike h4, va_OF.moved hW.alike h5, va_OF.moved hW.alike h6, va_T.moved hW.alike h7⟩
theorem a_Tt.same {base sa : Nat} {u U : State} {H : Heap} (hv : u.vm = U.vm) (h : a_Tt base sa u H) : a_Tt base sa U H := by
  obtain ⟨h1, h2, h3, ad, h4, h5, h6, h7⟩ := h
  have ha : u.vm.Alike U.vm := by rw [hv]; exact Vm.Alike.refl _
  exact ⟨va_Z.moved ha h1, va_Zq.moved ha h2, vk_R.same hv.symm h3, ad, va_O.moved ha h4, va_OF.moved ha h5, va_OF.moved ha h6, va_T.moved ha h7⟩
theorem a_Tt.kept {base sa : Nat} {U : State} {H H1 : Heap} (h : a_Tt base sa U H) (hq : ∀ a : Nat, a < H.size → ¬ base ≤ a → H1[a]? = H[a]?) : a_Tt base sa U H1 := by
  obtain ⟨h1, h2, h3, ad, h4, h5, h6, h7⟩ := h
  exact ⟨h1.kept hq, h2.kept hq, h3, ad, h4.kept hq, h5.kept hq, h6.kept hq, h7.kept hq⟩
theorem a_SF {A : Nat → Prop} {H0 H : Heap} {locs : List Loc} (h : va_S (fun _ => False) H0 H locs) : va_S A H0 H locs := ⟨h.1, fun q h1 _ => h.2.1 q h1 (fun z => z), fun l hl => (h.2.2 l hl).elim⟩
theorem a_Tt.go {base sa : Nat} {s U : State} {H : Heap} {locs : List Loc} (h : a_Tt base sa s s.heap) (hS : va_S (fun q => base ≤ q) s.heap H locs) (hU : U.heap = H) (hW : s.WarmedH U.vm) : a_Tt base sa U U.heap := by
  rw [hU]
  exact (h.warm hW).kept hS.2.1
theorem a_Tt_blind {base sa : Nat} {av : List Value} : FrameBlind (va_Pc av (fun U => a_Tt base sa U U.heap)) := by
  intro a U g mk q
  exact ⟨q.1, a_Tt.same (u := U) (U := U.calling g mk a) rfl q.2⟩
abbrev a_QI (v : Int32) : Array Value → State → Outcome → State → Prop := va_Qi (S := Unit) (fun r _ => r = v) (fun _ _ => True) (fun _ => False)
abbrev a_QV : Array Value → State → Outcome → State → Prop := va_Qv (S := Unit) (fun _ => True) (fun _ _ => True) (fun _ => False)
abbrev a_r0 (f n : Nat) : Room := { frames := f, cells := 0, slots := 0, locals := n }
set_option maxRecDepth 100000 in
theorem j_coder (l : Launch) (base sa : Nat) : Met l yJ0_coder_7d493 wsJ0_coder_7d493 (a_r0 0 0) (va_Pc [.ref sa] (fun U => a_Tt base sa U U.heap)) (a_QI 0) 0 0 (fun _ => False) := by
  refine Met.ofW (cc := cJ0_coder_7d493) (maxL := 1) (ret := some .byte) (by decide) rfl ?_
  intro p e s m args below meth c s₁ B hml hv0
  obtain ⟨rfl, hZ⟩ := hv0
  have hx := B.exec
  have hb := B.bytes
  have hr := B.returns
  have hts := atoms_spec (ws := wsJ0_coder_7d493) B.pre
  have hown : s.vm.findClass RJ0 = some m.cls := findClass_of_methodNamed B.named
  have hlocks := B.notSynchronized
  have hS : va_S (fun _ => False) s.heap s.heap [] := va_S.rf
  obtain ⟨z1, z2, z3, ad, z4, z5, z6, z7⟩ := hZ
  have hl := lv_entry ([.ref sa]) (n := 1) (Nat.le_of_ble_eq_true rfl)
  rw [lg_entry_eq]
  generalize (lg_sl ([.ref sa]) ++ List.replicate (1 - (lg_sl ([.ref sa])).length) Slot.unset).toArray = ls at hl ⊢
  have hl : lv_has ls 1 [(0, .ref sa)] := hl
  refine va_gets hx hb z1 (a_SF hS) hown (hts (.fieldLink RJ0 38 "java/lang/String" "COMPACT_STRINGS" "Z") (by decide +kernel)) (fun _ h9 => h9) dJ0_coder_7d493_0 ?_
  refine lv_if_eq hx hb dJ0_coder_7d493_3 (tgt := 13) rfl (fun h => absurd h (by decide)) (fun _ => ?_)
  refine lv_aload_n hx hb dJ0_coder_7d493_6 rfl (lv_at hl 0 rfl) ?_
  refine vk_getf hx hb z5 (a_SF hS) hown (hts (.fieldLink RJ0 15 "java/lang/String" "coder" "B") (by decide +kernel)) (fun _ h9 => h9) dJ0_coder_7d493_7 ?_
  refine lv_goto hx hb dJ0_coder_7d493_10 (tgt := 14) rfl ?_
  exact W.zret (ty := .byte) hx hb hr (by decide) (fun t ht hW => ⟨⟨0, (), rfl, rfl, trivial⟩, hS.F ht⟩) hS.2.2 dJ0_coder_7d493_14
set_option maxRecDepth 100000 in
theorem j_latin (l : Launch) (base sa : Nat) : Met l yJ0_isLatin1_aae02 wsJ0_isLatin1_aae02 (a_r0 0 0) (va_Pc [.ref sa] (fun U => a_Tt base sa U U.heap)) (a_QI 1) 0 0 (fun _ => False) := by
  refine Met.ofW (cc := cJ0_isLatin1_aae02) (maxL := 1) (ret := some .boolean) (by decide) rfl ?_
  intro p e s m args below meth c s₁ B hml hv0
  obtain ⟨rfl, hZ⟩ := hv0
  have hx := B.exec
  have hb := B.bytes
  have hr := B.returns
  have hts := atoms_spec (ws := wsJ0_isLatin1_aae02) B.pre
  have hown : s.vm.findClass RJ0 = some m.cls := findClass_of_methodNamed B.named
  have hlocks := B.notSynchronized
  have hS : va_S (fun _ => False) s.heap s.heap [] := va_S.rf
  obtain ⟨z1, z2, z3, ad, z4, z5, z6, z7⟩ := hZ
  have hl := lv_entry ([.ref sa]) (n := 1) (Nat.le_of_ble_eq_true rfl)
  rw [lg_entry_eq]
  generalize (lg_sl ([.ref sa]) ++ List.replicate (1 - (lg_sl ([.ref sa])).length) Slot.unset).toArray = ls at hl ⊢
  have hl : lv_has ls 1 [(0, .ref sa)] := hl
  refine va_gets hx hb z1 (a_SF hS) hown (hts (.fieldLink RJ0 38 "java/lang/String" "COMPACT_STRINGS" "Z") (by decide +kernel)) (fun _ h9 => h9) dJ0_isLatin1_aae02_0 ?_
  refine lv_if_eq hx hb dJ0_isLatin1_aae02_3 (tgt := 17) rfl (fun h => absurd h (by decide)) (fun _ => ?_)
  refine lv_aload_n hx hb dJ0_isLatin1_aae02_6 rfl (lv_at hl 0 rfl) ?_
  refine vk_getf hx hb z5 (a_SF hS) hown (hts (.fieldLink RJ0 15 "java/lang/String" "coder" "B") (by decide +kernel)) (fun _ h9 => h9) dJ0_isLatin1_aae02_7 ?_
  refine lv_if_ne hx hb dJ0_isLatin1_aae02_10 (tgt := 17) rfl (fun h => absurd rfl h) (fun _ => ?_)
  refine lv_iconst hx hb dJ0_isLatin1_aae02_13 (v := 1) rfl ?_
  refine lv_goto hx hb dJ0_isLatin1_aae02_14 (tgt := 18) rfl ?_
  exact W.zret (ty := .boolean) hx hb hr (by decide) (fun t ht hW => ⟨⟨1, (), rfl, rfl, trivial⟩, hS.F ht⟩) hS.2.2 dJ0_isLatin1_aae02_18
set_option maxRecDepth 100000 in
theorem j_ck3 (l : Launch) {k n : Nat} (hk : k < n) (hn : n < 2 ^ 31) {v : Value} (hv : v = .null ∨ ∃ t : Nat, v = .ref t) : Met l yJ3_checkIndex_8e157 wsJ3_checkIndex_8e157 (a_r0 0 0) (va_Pc [.int (nI k), .int (nI n), v] (fun _ => True)) (a_QI (nI k)) 0 0 (fun _ => False) := by
  refine Met.ofW (cc := cJ3_checkIndex_8e157) (maxL := 3) (ret := some .int) (by decide) rfl ?_
  intro p e s m args below meth c s₁ B hml hv0
  obtain ⟨rfl, -⟩ := hv0
  have hx := B.exec
  have hb := B.bytes
  have hr := B.returns
  have hlocks := B.notSynchronized
  have hS : va_S (fun _ => False) s.heap s.heap [] := va_S.rf
  have hl := lv_entry ([.int (nI k), .int (nI n), v]) (n := 3) (by rcases hv with rfl | ⟨t, rfl⟩ <;> exact Nat.le_of_ble_eq_true rfl)
  rw [lg_entry_eq]
  generalize (lg_sl ([.int (nI k), .int (nI n), v]) ++ List.replicate (3 - (lg_sl ([.int (nI k), .int (nI n), v])).length) Slot.unset).toArray = ls at hl ⊢
  have hl : lv_has ls 3 [(0, .int (nI k)), (1, .int (nI n)), (2, v)] := hl
  refine lv_iload_n hx hb dJ3_checkIndex_8e157_0 rfl (lv_at hl 0 rfl) ?_
  refine lv_if_lt hx hb dJ3_checkIndex_8e157_1 (tgt := 9) rfl (fun h => absurd h (nI_pos (by omega))) (fun _ => ?_)
  refine lv_iload_n hx hb dJ3_checkIndex_8e157_4 rfl (lv_at hl 0 rfl) ?_
  refine lv_iload_n hx hb dJ3_checkIndex_8e157_5 rfl (lv_at hl 1 rfl) ?_
  refine lv_icmp_lt hx hb dJ3_checkIndex_8e157_6 (tgt := 16) rfl (fun _ => ?_) (fun h => absurd (nI_lt hk hn) h)
  refine lv_iload_n hx hb dJ3_checkIndex_8e157_16 rfl (lv_at hl 0 rfl) ?_
  exact W.iret hx hb hr (fun t ht hW => ⟨⟨nI k, (), rfl, rfl, trivial⟩, hS.F ht⟩) hS.2.2 dJ3_checkIndex_8e157_17
theorem j_true_blind {av : List Value} : FrameBlind (va_Pc av (fun _ => True)) := fun _ _ _ _ q => ⟨q.1, trivial⟩
theorem j_g3 : GoodIn wsJ0_checkIndex_df160 (va_wsS RJ0 1059 yJ3_checkIndex_8e157 wsJ3_checkIndex_8e157) := goodIn_of _ (by decide +kernel)
set_option maxRecDepth 100000 in
theorem j_ck0 (l : Launch) (base sa : Nat) {k n : Nat} (hk : k < n) (hn : n < 2 ^ 31) : Met l yJ0_checkIndex_df160 wsJ0_checkIndex_df160 (a_r0 1 22) (va_Pc [.int (nI k), .int (nI n)] (fun U => a_Tt base sa U U.heap)) a_QV 0 0 (fun _ => False) := by
  refine Met.ofW (cc := cJ0_checkIndex_df160) (maxL := 2) (ret := none) (by decide) rfl ?_
  intro p e s m args below meth c s₁ B hml hv0
  obtain ⟨rfl, hZ⟩ := hv0
  have hx := B.exec
  have hb := B.bytes
  have hr := B.returns
  have hts := atoms_spec (ws := wsJ0_checkIndex_df160) B.pre
  have hown : s.vm.findClass RJ0 = some m.cls := findClass_of_methodNamed B.named
  have hlocks := B.notSynchronized
  have hS : va_S (fun _ => False) s.heap s.heap [] := va_S.rf
  obtain ⟨z1, z2, -⟩ := hZ
  have hl := lv_entry ([.int (nI k), .int (nI n)]) (n := 2) (Nat.le_of_ble_eq_true rfl)
  rw [lg_entry_eq]
  generalize (lg_sl ([.int (nI k), .int (nI n)]) ++ List.replicate (2 - (lg_sl ([.int (nI k), .int (nI n)])).length) Slot.unset).toArray = ls at hl ⊢
  have hl : lv_has ls 2 [(0, .int (nI k)), (1, .int (nI n))] := hl
  refine lv_iload_n hx hb dJ0_checkIndex_df160_0 rfl (lv_at hl 0 rfl) ?_
  refine lv_iload_n hx hb dJ0_checkIndex_df160_1 rfl (lv_at hl 1 rfl) ?_
  have key : ∀ v : Value, (v = .null ∨ ∃ t : Nat, v = .ref t) → va_Z "jdk/internal/util/Preconditions" "SIOOBE_FORMATTER" "Ljava/util/function/BiFunction;" v (fun q => base ≤ q) s s.heap → W p l e (headSpec wsJ0_checkIndex_df160 (a_r0 1 22)).room s m ([Value.int (nI k), Value.int (nI n)] : List Value).toArray below meth c s.heap [] 0 0 (MQ below a_QV ([Value.int (nI k), Value.int (nI n)] : List Value).toArray s 0 0 (fun _ => False)) (F0 m 2 ls [.int (nI n), .int (nI k)]) := by
    intro v hv hz
    refine va_gets hx hb hz (a_SF hS) hown (hts (.fieldLink RJ0 1053 "jdk/internal/util/Preconditions" "SIOOBE_FORMATTER" "Ljava/util/function/BiFunction;") (by decide +kernel)) (fun _ h9 => h9) dJ0_checkIndex_df160_2 ?_
    refine va_calli (va_runS (As := [.int (nI k), .int (nI n), v]) (rest := []) ⟨hx, hb, hml, hown, hts⟩ (j_ck3 l hk hn hv) (va_cwS 3 hts j_g3 rfl rfl rfl (by decide +kernel) ⟨Nat.le_of_ble_eq_true rfl, Nat.le_of_ble_eq_true rfl⟩) ⟨j_true_blind, fun _ _ _ => ⟨rfl, trivial⟩⟩ rfl rfl hl.1 rfl (Nat.le_of_ble_eq_true rfl) dJ0_checkIndex_df160_5 ⟨Nat.le_refl _, Nat.le_refl _⟩) hS (fun _ _ h => h) (fun _ h => h) (fun r u t H1 locs1 ht hvm hp _ hz1 hk1 hS1 => ?_)
    refine lv_pop hx hb dJ0_checkIndex_df160_8 rfl ?_
    exact W.vret hx hb hr (fun t ht hW => ⟨⟨(), rfl, trivial, trivial⟩, hS1.F ht⟩) hS1.2.2 dJ0_checkIndex_df160_9
  rcases z2 with h | ⟨t, h⟩
  · exact key .null (Or.inl rfl) h
  · exact key (.ref t) (Or.inr ⟨t, rfl⟩) h
theorem j_g1 : GoodIn wsJ1_charAt_3b067 (va_wsS RJ1 9 yJ0_checkIndex_df160 wsJ0_checkIndex_df160) := goodIn_of _ (by decide +kernel)
def a_ch (k : Nat) : Int32 := a_tx.getD k 0
theorem a_ch_ok {k : Nat} (hk : k < 94) : ((a_ch k &&& 255).toUInt32 % 65536).toInt32 = a_ch k ∧ narrow .char (.int (a_ch k)) = .int (a_ch k) := by
  refine a_tx_ok _ ?_
  unfold a_ch
  have hk : k < a_tx.length := by rw [a_tx_len]; exact hk
  rw [List.getD_eq_getElem?_getD, List.getElem?_eq_getElem hk]
  exact List.getElem_mem _
set_option maxRecDepth 100000 in
theorem j_ch1 (l : Launch) (base sa : Nat) {k ad : Nat} (hk : k < 94) : Met l yJ1_charAt_3b067 wsJ1_charAt_3b067 (a_r0 2 43) (va_Pc [.ref ad, .int (nI k)] (fun U => a_Tt base sa U U.heap ∧ va_T .byte ad 94 (fun j => .int (a_tx.getD j 0)) (fun q => base ≤ q) U U.heap)) (a_QI (a_ch k)) 0 0 (fun _ => False) := by
  refine Met.ofW (cc := cJ1_charAt_3b067) (maxL := 2) (ret := some .char) (by decide) rfl ?_
  intro p e s m args below meth c s₁ B hml hv0
  obtain ⟨rfl, hZ, z7⟩ := hv0
  have hx := B.exec
  have hb := B.bytes
  have hr := B.returns
  have hts := atoms_spec (ws := wsJ1_charAt_3b067) B.pre
  have hown : s.vm.findClass RJ1 = some m.cls := findClass_of_methodNamed B.named
  have hlocks := B.notSynchronized
  have hS : va_S (fun _ => False) s.heap s.heap [] := va_S.rf
  have hl := lv_entry ([.ref ad, .int (nI k)]) (n := 2) (Nat.le_of_ble_eq_true rfl)
  rw [lg_entry_eq]
  generalize (lg_sl ([.ref ad, .int (nI k)]) ++ List.replicate (2 - (lg_sl ([.ref ad, .int (nI k)])).length) Slot.unset).toArray = ls at hl ⊢
  have hl : lv_has ls 2 [(0, .ref ad), (1, .int (nI k))] := hl
  refine lv_iload_n hx hb dJ1_charAt_3b067_0 rfl (lv_at hl 1 rfl) ?_
  refine lv_aload_n hx hb dJ1_charAt_3b067_1 rfl (lv_at hl 0 rfl) ?_
  refine va_tlen hx hb z7 (a_SF hS) (v := nI 94) rfl dJ1_charAt_3b067_2 ?_
  refine va_callv (va_runS (As := [.int (nI k), .int (nI 94)]) (rest := []) ⟨hx, hb, hml, hown, hts⟩ (j_ck0 l base sa hk (by decide)) (va_cwS 2 hts j_g1 rfl rfl rfl (by decide +kernel) ⟨Nat.le_of_ble_eq_true rfl, Nat.le_of_ble_eq_true rfl⟩) ⟨a_Tt_blind, fun U hU hW => ⟨rfl, hZ.go (a_SF hS) hU hW⟩⟩ rfl rfl hl.1 rfl (Nat.le_of_ble_eq_true rfl) dJ1_charAt_3b067_3 ⟨Nat.le_refl _, Nat.le_refl _⟩) hS (fun _ _ h => h) (fun _ h => h) (fun u t H1 locs1 ht hvm hp _ hz1 hk1 hS1 => ?_)
  refine lv_aload_n hx hb dJ1_charAt_3b067_6 rfl (lv_at hl 0 rfl) ?_
  refine lv_iload_n hx hb dJ1_charAt_3b067_7 rfl (lv_at hl 1 rfl) ?_
  refine va_tb hx hb z7 (a_SF hS1) (v := .int (a_ch k)) (vp_in_nI hk (by decide)) (by rw [nI_clamp (by omega)]; rfl) dJ1_charAt_3b067_8 ?_
  refine lv_sipush hx hb dJ1_charAt_3b067_9 (v := 255) (by decide) ?_
  refine lv_iand hx hb dJ1_charAt_3b067_12 ?_
  refine lv_i2c hx hb dJ1_charAt_3b067_13 (a_ch_ok hk).1 ?_
  exact W.zret (ty := .char) hx hb hr (a_ch_ok hk).2 (fun t ht hW => ⟨⟨a_ch k, (), rfl, rfl, trivial⟩, hS1.F ht⟩) hS1.2.2 dJ1_charAt_3b067_14
theorem j_gl : GoodIn wsJ0_length_8abf5 (wsV RJ0 335 RJ0 yJ0_coder_7d493 wsJ0_coder_7d493) := goodIn_of _ (by decide +kernel)
theorem j_recv {base sa : Nat} {s : State} {H : Heap} {locs : List Loc} (hZ : a_Tt base sa s s.heap) (hS : va_S (fun q => base ≤ q) s.heap H locs) : ∃ cell : Cell, H[sa]? = some cell ∧ cell.vm.isStatics = false ∧ s.vm.findClass "java/lang/String" = some cell.cls := by
  obtain ⟨z1, z2, z3, ad, z4, -⟩ := hZ
  obtain ⟨cell, h1, h2, h3, -⟩ := z4.kept hS.2.1
  exact ⟨cell, h1, h2, h3⟩
set_option maxRecDepth 100000 in
theorem j_len (l : Launch) (base sa : Nat) : Met l yJ0_length_8abf5 wsJ0_length_8abf5 (a_r0 1 20) (va_Pc [.ref sa] (fun U => a_Tt base sa U U.heap)) (a_QI (nI 94)) 0 0 (fun _ => False) := by
  refine Met.ofW (cc := cJ0_length_8abf5) (maxL := 1) (ret := some .int) (by decide) rfl ?_
  intro p e s m args below meth c s₁ B hml hv0
  obtain ⟨rfl, hZ⟩ := hv0
  have hx := B.exec
  have hb := B.bytes
  have hr := B.returns
  have hts := atoms_spec (ws := wsJ0_length_8abf5) B.pre
  have hown : s.vm.findClass RJ0 = some m.cls := findClass_of_methodNamed B.named
  have hlocks := B.notSynchronized
  have hS : va_S (fun _ => False) s.heap s.heap [] := va_S.rf
  obtain ⟨z1, z2, z3, ad, z4, z5, z6, z7⟩ := id hZ
  have hl := lv_entry ([.ref sa]) (n := 1) (Nat.le_of_ble_eq_true rfl)
  rw [lg_entry_eq]
  generalize (lg_sl ([.ref sa]) ++ List.replicate (1 - (lg_sl ([.ref sa])).length) Slot.unset).toArray = ls at hl ⊢
  have hl : lv_has ls 1 [(0, .ref sa)] := hl
  refine lv_aload_n hx hb dJ0_length_8abf5_0 rfl (lv_at hl 0 rfl) ?_
  refine vk_getf hx hb z6 (a_SF hS) hown (hts (.fieldLink RJ0 9 "java/lang/String" "value" "[B") (by decide +kernel)) (fun _ h9 => h9) dJ0_length_8abf5_1 ?_
  refine va_tlen hx hb z7 (a_SF hS) (v := nI 94) rfl dJ0_length_8abf5_4 ?_
  refine lv_aload_n hx hb dJ0_length_8abf5_5 rfl (lv_at hl 0 rfl) ?_
  refine va_calli (va_runV (As := []) (rest := [.int (nI 94)]) ⟨hx, hb, hml, hown, hts⟩ (j_coder l base sa) (cwV 0 hts j_gl rfl rfl rfl (by decide +kernel) ⟨Nat.le_of_ble_eq_true rfl, Nat.le_of_ble_eq_true rfl⟩) ⟨a_Tt_blind, j_recv hZ (a_SF hS), fun U hU hW => ⟨rfl, hZ.go (a_SF hS) hU hW⟩⟩ rfl rfl hl.1 rfl (Nat.le_of_ble_eq_true rfl) dJ0_length_8abf5_6 ⟨Nat.le_refl _, Nat.le_refl _⟩) hS (fun _ _ h => h) (fun _ h => h) (fun r u t H1 locs1 ht hvm hp _ hz1 hk1 hS1 => ?_)
  obtain rfl : r = (0 : Int32) := hp
  refine lv_ishr hx hb dJ0_length_8abf5_9 ?_
  exact W.iret hx hb hr (fun t ht hW => ⟨⟨_, (), rfl, (by decide), trivial⟩, hS1.F ht⟩) hS1.2.2 dJ0_length_8abf5_10
def wsJ0_ch : List Cond := .code yJ0_charAt_5068e cJ0_charAt_5068e 2 (some .char) :: [.fieldLink RJ0 9 "java/lang/String" "value" "[B", .methodLink RJ0 492 yJ0_isLatin1_aae02, .instanceMethod yJ0_isLatin1_aae02, .selects RJ0 yJ0_isLatin1_aae02 yJ0_isLatin1_aae02, .initialized RJ0, .code yJ0_isLatin1_aae02 cJ0_isLatin1_aae02 1 (some .boolean), .fieldLink RJ0 38 "java/lang/String" "COMPACT_STRINGS" "Z", .fieldLink RJ0 15 "java/lang/String" "coder" "B", .methodLink RJ0 495 yJ1_charAt_3b067, .static yJ1_charAt_3b067, .initialized RJ1, .code yJ1_charAt_3b067 cJ1_charAt_3b067 2 (some .char), .methodLink RJ1 9 yJ0_checkIndex_df160, .static yJ0_checkIndex_df160, .code yJ0_checkIndex_df160 cJ0_checkIndex_df160 2 none, .fieldLink RJ0 1053 "jdk/internal/util/Preconditions" "SIOOBE_FORMATTER" "Ljava/util/function/BiFunction;", .methodLink RJ0 1059 yJ3_checkIndex_8e157, .static yJ3_checkIndex_8e157, .initialized RJ3, .code yJ3_checkIndex_8e157 cJ3_checkIndex_8e157 3 (some .int)]
theorem j_gc1 : GoodIn wsJ0_ch (wsV RJ0 492 RJ0 yJ0_isLatin1_aae02 wsJ0_isLatin1_aae02) := goodIn_of _ (by decide +kernel)
theorem j_gc2 : GoodIn wsJ0_ch (va_wsS RJ0 495 yJ1_charAt_3b067 wsJ1_charAt_3b067) := goodIn_of _ (by decide +kernel)
theorem j_ch1_blind {base sa ad : Nat} {av : List Value} : FrameBlind (va_Pc av (fun U => a_Tt base sa U U.heap ∧ va_T .byte ad 94 (fun j => .int (a_tx.getD j 0)) (fun q => base ≤ q) U U.heap)) := by
  intro a U g mk q
  exact ⟨q.1, a_Tt.same (u := U) (U := U.calling g mk a) rfl q.2.1, va_T.moved (u := U) (U := U.calling g mk a) (Vm.Alike.refl _) q.2.2⟩
set_option maxRecDepth 100000 in
theorem j_chr (l : Launch) (base sa : Nat) {k : Nat} (hk : k < 94) : Met l yJ0_charAt_5068e wsJ0_ch (a_r0 3 64) (va_Pc [.ref sa, .int (nI k)] (fun U => a_Tt base sa U U.heap)) (a_QI (a_ch k)) 0 0 (fun _ => False) := by
  refine Met.ofW (cc := cJ0_charAt_5068e) (maxL := 2) (ret := some .char) (by decide) rfl ?_
  intro p e s m args below meth c s₁ B hml hv0
  obtain ⟨rfl, hZ⟩ := hv0
  have hx := B.exec
  have hb := B.bytes
  have hr := B.returns
  have hts := atoms_spec (ws := wsJ0_ch) B.pre
  have hown : s.vm.findClass RJ0 = some m.cls := findClass_of_methodNamed B.named
  have hlocks := B.notSynchronized
  have hS : va_S (fun _ => False) s.heap s.heap [] := va_S.rf
  obtain ⟨z1, z2, z3, ad, z4, z5, z6, z7⟩ := id hZ
  have hl := lv_entry ([.ref sa, .int (nI k)]) (n := 2) (Nat.le_of_ble_eq_true rfl)
  rw [lg_entry_eq]
  generalize (lg_sl ([.ref sa, .int (nI k)]) ++ List.replicate (2 - (lg_sl ([.ref sa, .int (nI k)])).length) Slot.unset).toArray = ls at hl ⊢
  have hl : lv_has ls 2 [(0, .ref sa), (1, .int (nI k))] := hl
  refine lv_aload_n hx hb dJ0_charAt_5068e_0 rfl (lv_at hl 0 rfl) ?_
  refine va_calli (va_runV (As := []) (rest := []) ⟨hx, hb, hml, hown, hts⟩ (j_latin l base sa) (cwV 0 hts j_gc1 rfl rfl rfl (by decide +kernel) ⟨Nat.le_of_ble_eq_true rfl, Nat.le_of_ble_eq_true rfl⟩) ⟨a_Tt_blind, j_recv hZ (a_SF hS), fun U hU hW => ⟨rfl, hZ.go (a_SF hS) hU hW⟩⟩ rfl rfl hl.1 rfl (Nat.le_of_ble_eq_true rfl) dJ0_charAt_5068e_1 ⟨Nat.le_of_ble_eq_true rfl, Nat.le_of_ble_eq_true rfl⟩) hS (fun _ _ h => h) (fun _ h => h) (fun r u t H1 locs1 ht hvm hp _ hz1 hk1 hS1 => ?_)
  obtain rfl : r = (1 : Int32) := hp
  refine lv_if_eq hx hb dJ0_charAt_5068e_4 (tgt := 16) rfl (fun h => absurd h (by decide)) (fun _ => ?_)
  refine lv_aload_n hx hb dJ0_charAt_5068e_7 rfl (lv_at hl 0 rfl) ?_
  refine vk_getf hx hb z6 (a_SF hS1) hown (hts (.fieldLink RJ0 9 "java/lang/String" "value" "[B") (by decide +kernel)) (fun _ h9 => h9) dJ0_charAt_5068e_8 ?_
  refine lv_iload_n hx hb dJ0_charAt_5068e_11 rfl (lv_at hl 1 rfl) ?_
  refine va_calli (va_runS (As := [.ref ad, .int (nI k)]) (rest := []) ⟨hx, hb, hml, hown, hts⟩ (j_ch1 l base sa (ad := ad) hk) (va_cwS 2 hts j_gc2 rfl rfl rfl (by decide +kernel) ⟨Nat.le_of_ble_eq_true rfl, Nat.le_of_ble_eq_true rfl⟩) ⟨j_ch1_blind, fun U hU hW => ⟨rfl, hZ.go (a_SF hS1) hU hW, by rw [hU]; exact (va_T.moved hW.alike z7).kept (a_SF hS1).2.1⟩⟩ rfl rfl hl.1 rfl (Nat.le_of_ble_eq_true rfl) dJ0_charAt_5068e_12 ⟨Nat.le_of_ble_eq_true rfl, Nat.le_of_ble_eq_true rfl⟩) hS1 (fun _ _ h => h) (fun _ h => h) (fun r u t H2 locs2 ht hvm hp _ hz2 hk2 hS2 => ?_)
  obtain rfl : r = a_ch k := hp
  exact W.zret (ty := .char) hx hb hr (a_ch_ok hk).2 (fun t ht hW => ⟨⟨a_ch k, (), rfl, rfl, trivial⟩, hS2.F ht⟩) hS2.2.2 dJ0_charAt_5068e_15
/-! what a throw stands on; the world ahead of a method, but its cells -/
def a_txs : List (Nat × String) := [(147, "no such thing"), (172, "nothing such is told of a thing"), (184, "no such ending"), (207, "nothing such is told of an ending")]
def a_Z (base sa : Nat) (U : State) (H : Heap) : Prop :=
  vx_Zq Bundle.tN "UNASSIGNED_STACK" Bundle.steD (fun q => base ≤ q) U H ∧ vx_Zq Bundle.tN "SUPPRESSED_SENTINEL" Bundle.listD (fun q => base ≤ q) U H ∧ (∀ q ∈ a_txs, ∃ sb, vk_R "EndingMarket" q.1 q.2 sb U) ∧ a_Tt base sa U H
def a_X (base : Nat) (b : Nat × Nat) (X : Nat × (Nat → Int32)) (U : State) (H : Heap) : Prop := (X.1 < 4000 → va_X b.1 X.1 X.2 U H) ∧ a_Z base b.2 U H
theorem a_X.warm {base : Nat} {b : Nat × Nat} {X : Nat × (Nat → Int32)} {s U : State} {H : Heap} (hW : s.WarmedH U.vm) (h : a_X base b X s H) : a_X base b X U H := by
  obtain ⟨h1, h2, h3, h4, h5⟩ := h
  exact ⟨fun z => va_X.moved hW.alike (h1 z), vx_Zq.moved hW.alike h2, vx_Zq.moved hW.alike h3, fun q hq => (h4 q hq).imp fun _ h => vk_R.warm hW h, h5.warm hW⟩
theorem a_X.same {base : Nat} {b : Nat × Nat} {X : Nat × (Nat → Int32)} {u U : State} {H : Heap} (hv : u.vm = U.vm) (h : a_X base b X u H) : a_X base b X U H := by
  obtain ⟨h1, h2, h3, h4, h5⟩ := h
  have ha : u.vm.Alike U.vm := by rw [hv]; exact Vm.Alike.refl _
  exact ⟨fun z => va_X.moved ha (h1 z), vx_Zq.moved ha h2, vx_Zq.moved ha h3, fun q hq => (h4 q hq).imp fun _ h => vk_R.same hv.symm h, h5.same hv⟩
theorem a_X.kept {base : Nat} {b : Nat × Nat} {X : Nat × (Nat → Int32)} {U : State} {H H1 : Heap} (h : a_X base b X U H) (hb : b.1 < H.size) (hn : ¬ base ≤ b.1) (hq : ∀ a : Nat, a < H.size → ¬ base ≤ a → H1[a]? = H[a]?) : a_X base b X U H1 := by
  obtain ⟨h1, h2, h3, h4, h5⟩ := h
  exact ⟨fun z => (h1 z).kept (hq _ hb hn), h2.kept hq, h3.kept hq, h4, h5.kept hq⟩
/-- the words on the text's two calls -/
theorem j_tl0 : ∀ w ∈ wsV "EndingMarket$Tape" 53 RJ0 yJ0_length_8abf5 wsJ0_length_8abf5, w ∈ a_G := by
  have h : (wsV "EndingMarket$Tape" 53 RJ0 yJ0_length_8abf5 wsJ0_length_8abf5).all (fun w => decide (w ∈ lw_tbl) && goodWord w) = true := by decide +kernel
  intro w hw
  have h1 := List.all_eq_true.mp h w hw
  rw [Bool.and_eq_true] at h1
  exact List.mem_filter.mpr ⟨of_decide_eq_true h1.1, h1.2⟩
theorem j_tc0 : ∀ w ∈ wsV "EndingMarket$Tape" 59 RJ0 yJ0_charAt_5068e wsJ0_ch, w ∈ a_G := by
  have h : (wsV "EndingMarket$Tape" 59 RJ0 yJ0_charAt_5068e wsJ0_ch).all (fun w => decide (w ∈ lw_tbl) && goodWord w) = true := by decide +kernel
  intro w hw
  have h1 := List.all_eq_true.mp h w hw
  rw [Bool.and_eq_true] at h1
  exact List.mem_filter.mpr ⟨of_decide_eq_true h1.1, h1.2⟩
theorem j_gin {Ts L : List Cond} (hG : ∀ w ∈ a_G, w ∈ Ts) (h : ∀ w ∈ L, w ∈ a_G) : GoodIn Ts L := fun w hw => ⟨hG w (h w hw), good_of_word (List.mem_filter.mp (h w hw)).2⟩
