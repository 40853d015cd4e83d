/-! THE STEP: every instruction of the table -/
theorem a_at_drop {r : List A_O} {n : Nat} {o : A_O} {r2 : List A_O} (h : r.drop n = o :: r2) : a_at r n = some o.1 := by unfold a_at; rw [h]
theorem a_jm_inv {all r : List A_O} {pc : Nat} {off : Int} {aux : List Nat} (h : a_jm all r pc off aux = true) : (∃ n t, aux = [0, n] ∧ a_at r n = some t ∧ (pc : Int) + off = (t : Int)) ∨ (∃ n t, aux = [1, n] ∧ a_at all n = some t ∧ (pc : Int) + off = (t : Int)) := by
  unfold a_jm at h
  split at h
  · split at h
    · exact Or.inl ⟨_, _, rfl, by assumption, of_decide_eq_true h⟩
    · cases h
  · split at h
    · exact Or.inr ⟨_, _, rfl, by assumption, of_decide_eq_true h⟩
    · cases h
  · cases h
section SP
variable {p : Program} {l : Launch} {e : Env} {R : Room} {s : State} {m : MethodId} {args : Array Value} {below : List Frame} {meth : Method} {c : Code} {Q : State → Prop} {cc : ByteArray} {nL : Nat} {own nm : String} {Ts : List Cond} {D : va_G} {aC : Nat → ClassId} {base : Nat} {b : Nat × Nat} {X : Nat × (Nat → Int32)} {n0 : Nat × Nat} {d : Nat}
variable {hf : A_H} {v : Option Value} {pc : Nat} {L S : List Value} {h : A_H} {tx : List Int32} {M : Nat → List Value → A_H → A_R} {ag : Nat → List Value → A_H → A_R} {k : Nat → List Value → List Value → A_H → A_R} {all r : List A_O}
/-- a jump -/
theorem a_jmp {off : Int} {aux : List Nat} (hk : ∀ n L S h1, k n L S h1 = some (hf, v) → ∃ pc2, a_at r n = some pc2 ∧ a_Wn (fun H locs cells slots g => W p l e R s m args below meth c H locs cells slots Q g) (a_Dy s D aC base n0) m base b nL hf h1 L S pc2)
    (hg : ∀ t L h1, ag t L h1 = some (hf, v) → ∃ pc2, a_at all t = some pc2 ∧ a_Wn (fun H locs cells slots g => W p l e R s m args below meth c H locs cells slots Q g) (a_Dy s D aC base n0) m base b nL hf h1 L [] pc2)
    (hc : a_jm all r pc off aux = true) (hr : a_jp ag k aux L S h = some (hf, v)) : ∃ t : Nat, (pc : Int) + off = (t : Int) ∧ a_Wn (fun H locs cells slots g => W p l e R s m args below meth c H locs cells slots Q g) (a_Dy s D aC base n0) m base b nL hf h L S t := by
  rcases a_jm_inv hc with ⟨n, t, rfl, h1, h2⟩ | ⟨n, t, rfl, h1, h2⟩
  · obtain ⟨pc2, h3, h4⟩ := hk n L S h hr
    cases h1.symm.trans h3
    exact ⟨t, h2, h4⟩
  · cases S with
    | nil =>
      obtain ⟨pc2, h3, h4⟩ := hg n L h hr
      cases h1.symm.trans h3
      exact ⟨t, h2, h4⟩
    | cons a S => cases hr
theorem a_jm_nn {off : Int} {aux : List Nat} (hc : a_jm all r pc off aux = true) : ∃ t : Nat, (pc : Int) + off = (t : Int) := by
  rcases a_jm_inv hc with ⟨n, t, rfl, h1, h2⟩ | ⟨n, t, rfl, h1, h2⟩
  · exact ⟨t, h2⟩
  · exact ⟨t, h2⟩
theorem a_bool {x : Int32} (h : x &&& 1 = x) : narrow .boolean (.int x) = .int x ∧ fits .boolean (.int x) = true := by
  have hb : x = 0 ∨ x = 1 := by
    obtain ⟨j, h1, h2⟩ := pk_andE x (m := 1) 1 (by decide)
    rw [h] at h2
    have h1 : j < 2 := h1
    rcases (show j = 0 ∨ j = 1 by omega) with rfl | rfl
    · exact Or.inl h2
    · exact Or.inr h2
  rcases hb with rfl | rfl <;> exact ⟨by decide, by decide⟩

set_option maxHeartbeats 4000000 in
theorem a_step (F : a_Fx p R s m args meth c cc nL own nm Ts D aC base b X d) (hRc : a_nc hf ≤ n0.1 + R.cells) (hRs : a_ns hf ≤ n0.2 + R.slots)
    (hk : ∀ n L S h1, k n L S h1 = some (hf, v) → ∃ pc2, a_at r n = some pc2 ∧ a_Wn (fun H locs cells slots g => W p l e R s m args below meth c H locs cells slots Q g) (a_Dy s D aC base n0) m base b nL hf h1 L S pc2)
    (hg : ∀ t L h1, ag t L h1 = some (hf, v) → ∃ pc2, a_at all t = some pc2 ∧ a_Wn (fun H locs cells slots g => W p l e R s m args below meth c H locs cells slots Q g) (a_Dy s D aC base n0) m base b nL hf h1 L [] pc2)
    (hM : a_Sm l D aC base b X d M) {rz : Nat}
    (hf1 : v = none → rz = 2 → ∀ H locs cells slots ls pc, a_Dy s D aC base n0 hf H locs cells slots → decode cc pc = .ok (.return_, 1) → W p l e R s m args below meth c H locs cells slots Q (F0 m pc ls []))
    (hf2 : ∀ x, v = some (.int x) → rz ≤ 1 → (rz = 1 → x &&& 1 = x) → ∀ H locs cells slots ls pc, a_Dy s D aC base n0 hf H locs cells slots → decode cc pc = .ok (.ireturn, 1) → W p l e R s m args below meth c H locs cells slots Q (F0 m pc ls [.int x]))
    (hf3 : v = some (.retAddr 0) → ∀ h1 mc ms i L pc, hf = a_th h1 mc ms → (pc, .new i, [1, mc, ms]) ∈ all → ∀ H locs cells slots ls, a_Dy s D aC base n0 h1 H locs cells slots → a_LR base b ls nL L → W p l e R s m args below meth c H locs cells slots Q (F0 m pc ls []))
    {i : Instr} {aux : List Nat} {len : Nat} (hdec : decode cc pc = .ok (i, len)) (hlen : a_lo1 i len = true) (hnx : ∀ pc2, a_at r 0 = some pc2 → pc2 = pc + len) (hin : (pc, i, aux) ∈ all)
    (hc : a_c1 a_nw a_tn own nm rz all r pc i aux = true) (hr : a_st X a_tx M ag k i aux L S h = some (hf, v)) :
    a_Wn (fun H locs cells slots g => W p l e R s m args below meth c H locs cells slots Q g) (a_Dy s D aC base n0) m base b nL hf h L S pc := by
  obtain ⟨hx, hb, hmL, hown, hts, hG, hK, hX, hbl, hz, hnm, hfr, hlo⟩ := id F
  have nx : ∀ L S h1, k 0 L S h1 = some (hf, v) → a_Wn (fun H locs cells slots g => W p l e R s m args below meth c H locs cells slots Q g) (a_Dy s D aC base n0) m base b nL hf h1 L S (pc + len) := by
    intro L S h1 h2
    obtain ⟨pc2, h3, h4⟩ := hk 0 L S h1 h2
    rw [hnx pc2 h3] at h4
    exact h4
  cases i <;> simp only [a_st] at hr <;> first | (cases hr; done) | skip
  case aload n =>
    have hlen := of_decide_eq_true hlen
    subst hlen
    rcases a_la_inv hr with ⟨y, h1, h2⟩ | ⟨h1, h2⟩
    · obtain ⟨hle, hw⟩ := nx _ _ _ h2
      exact ⟨hle, fun H locs cells slots ls hD hL => lv_aload hx hb hdec (hL.2.2.2 _ _ h1 (by simp)) (hw H locs cells slots ls hD hL)⟩
    · obtain ⟨hle, hw⟩ := nx _ _ _ h2
      exact ⟨hle, fun H locs cells slots ls hD hL => lv_aload hx hb hdec (hL.2.2.2 _ _ h1 (by simp)) (hw H locs cells slots ls hD hL)⟩
  case aload_n n =>
    have hlen := of_decide_eq_true hlen
    subst hlen
    rcases a_la_inv hr with ⟨y, h1, h2⟩ | ⟨h1, h2⟩
    · obtain ⟨hle, hw⟩ := nx _ _ _ h2
      exact ⟨hle, fun H locs cells slots ls hD hL => lv_aload_n hx hb hdec rfl (hL.2.2.2 _ _ h1 (by simp)) (hw H locs cells slots ls hD hL)⟩
    · obtain ⟨hle, hw⟩ := nx _ _ _ h2
      exact ⟨hle, fun H locs cells slots ls hD hL => lv_aload_n hx hb hdec rfl (hL.2.2.2 _ _ h1 (by simp)) (hw H locs cells slots ls hD hL)⟩
  case iload n =>
    have hlen := of_decide_eq_true hlen
    subst hlen
    obtain ⟨y, h1, h2⟩ := a_li_inv hr
    obtain ⟨hle, hw⟩ := nx _ _ _ h2
    exact ⟨hle, fun H locs cells slots ls hD hL => lv_iload hx hb hdec (hL.2.2.2 _ _ h1 (by simp)) (hw H locs cells slots ls hD hL)⟩
  case iload_n n =>
    have hlen := of_decide_eq_true hlen
    subst hlen
    obtain ⟨y, h1, h2⟩ := a_li_inv hr
    obtain ⟨hle, hw⟩ := nx _ _ _ h2
    exact ⟨hle, fun H locs cells slots ls hD hL => lv_iload_n hx hb hdec rfl (hL.2.2.2 _ _ h1 (by simp)) (hw H locs cells slots ls hD hL)⟩
  case lload n =>
    have hlen := of_decide_eq_true hlen
    subst hlen
    obtain ⟨y, h1, h2⟩ := a_ll_inv hr
    obtain ⟨hle, hw⟩ := nx _ _ _ h2
    exact ⟨hle, fun H locs cells slots ls hD hL => lv_lload hx hb hdec (hL.2.2.2 _ _ h1 (by simp)) (hw H locs cells slots ls hD hL)⟩
  case lload_n n =>
    have hlen := of_decide_eq_true hlen
    subst hlen
    obtain ⟨y, h1, h2⟩ := a_ll_inv hr
    obtain ⟨hle, hw⟩ := nx _ _ _ h2
    exact ⟨hle, fun H locs cells slots ls hD hL => lv_lload_n hx hb hdec rfl (hL.2.2.2 _ _ h1 (by simp)) (hw H locs cells slots ls hD hL)⟩
  case istore n =>
    have hlen := of_decide_eq_true hlen
    subst hlen
    obtain ⟨y, S1, rfl, h2⟩ := a_pi_inv hr
    obtain ⟨h3, h4, h5⟩ := a_s1_inv h2
    obtain ⟨hle, hw⟩ := nx _ _ _ h5
    exact ⟨hle, fun H locs cells slots ls hD hL => lv_istore hx hb hdec hL.has (by rw [← hL.2.2.1]; exact h3) rfl fun ls2 hl2 => hw H locs cells slots ls2 hD (hL.put1 rfl h4 hl2)⟩
  case istore_n n =>
    have hlen := of_decide_eq_true hlen
    subst hlen
    obtain ⟨y, S1, rfl, h2⟩ := a_pi_inv hr
    obtain ⟨h3, h4, h5⟩ := a_s1_inv h2
    obtain ⟨hle, hw⟩ := nx _ _ _ h5
    exact ⟨hle, fun H locs cells slots ls hD hL => lv_istore_n hx hb hdec rfl hL.has (by rw [← hL.2.2.1]; exact h3) rfl fun ls2 hl2 => hw H locs cells slots ls2 hD (hL.put1 rfl h4 hl2)⟩
  case astore n =>
    have hlen := of_decide_eq_true hlen
    subst hlen
    obtain ⟨y, S1, rfl, h2⟩ := a_pa_inv hr
    obtain ⟨h3, h4, h5⟩ := a_s1_inv h2
    obtain ⟨hle, hw⟩ := nx _ _ _ h5
    exact ⟨hle, fun H locs cells slots ls hD hL => lv_astore hx hb hdec hL.has (by rw [← hL.2.2.1]; exact h3) rfl fun ls2 hl2 => hw H locs cells slots ls2 hD (hL.put1 rfl h4 hl2)⟩
  case astore_n n =>
    have hlen := of_decide_eq_true hlen
    subst hlen
    obtain ⟨y, S1, rfl, h2⟩ := a_pa_inv hr
    obtain ⟨h3, h4, h5⟩ := a_s1_inv h2
    obtain ⟨hle, hw⟩ := nx _ _ _ h5
    exact ⟨hle, fun H locs cells slots ls hD hL => lv_astore_n hx hb hdec rfl hL.has (by rw [← hL.2.2.1]; exact h3) rfl fun ls2 hl2 => hw H locs cells slots ls2 hD (hL.put1 rfl h4 hl2)⟩
  case lstore n =>
    have hlen := of_decide_eq_true hlen
    subst hlen
    obtain ⟨y, S1, rfl, h2⟩ := a_pl_inv hr
    obtain ⟨h3, h4, h5⟩ := a_s2_inv h2
    obtain ⟨hle, hw⟩ := nx _ _ _ h5
    exact ⟨hle, fun H locs cells slots ls hD hL => lv_lstore hx hb hdec hL.has (by rw [← hL.2.2.1]; exact h3) rfl fun ls2 hl2 => hw H locs cells slots ls2 hD (hL.put2 h4 hl2)⟩
  case lstore_n n =>
    have hlen := of_decide_eq_true hlen
    subst hlen
    obtain ⟨y, S1, rfl, h2⟩ := a_pl_inv hr
    obtain ⟨h3, h4, h5⟩ := a_s2_inv h2
    obtain ⟨hle, hw⟩ := nx _ _ _ h5
    exact ⟨hle, fun H locs cells slots ls hD hL => lv_lstore_n hx hb hdec rfl hL.has (by rw [← hL.2.2.1]; exact h3) rfl fun ls2 hl2 => hw H locs cells slots ls2 hD (hL.put2 h4 hl2)⟩
  case iinc n q =>
    have hlen := of_decide_eq_true hlen
    subst hlen
    simp only [a_c1] at hc
    split at hc
    rotate_left
    · cases hc
    rename_i q2
    have hc := of_decide_eq_true hc
    obtain ⟨y, h1, h2⟩ := a_li_inv hr
    obtain ⟨h3, h4, h5⟩ := a_s1_inv h2
    obtain ⟨hle, hw⟩ := nx _ _ _ h5
    refine ⟨hle, fun H locs cells slots ls hD hL => ?_⟩
    obtain ⟨j, hj⟩ := List.getElem?_of_mem (a_lv_mem (base := base) (b := b) (q := (n, .int y)).mpr ⟨.int y, h1, by simp, rfl⟩)
    exact lv_iinc hx hb hdec hL.has hj (by rw [hc]) (by rw [← hL.2.2.1]; exact h3) rfl fun ls2 hl2 => hw H locs cells slots ls2 hD (hL.put1 rfl h4 hl2)
  case iconst n =>
    have hlen := of_decide_eq_true hlen
    subst hlen
    simp only [a_c1] at hc
    split at hc
    rotate_left
    · cases hc
    rename_i q2
    have hc := of_decide_eq_true hc
    obtain ⟨hle, hw⟩ := nx _ _ _ hr
    exact ⟨hle, fun H locs cells slots ls hD hL => lv_iconst hx hb hdec hc (hw H locs cells slots ls hD hL)⟩
  case bipush n =>
    have hlen := of_decide_eq_true hlen
    subst hlen
    simp only [a_c1] at hc
    split at hc
    rotate_left
    · cases hc
    rename_i q2
    have hc := of_decide_eq_true hc
    obtain ⟨hle, hw⟩ := nx _ _ _ hr
    exact ⟨hle, fun H locs cells slots ls hD hL => lv_bipush hx hb hdec hc (hw H locs cells slots ls hD hL)⟩
  case sipush n =>
    have hlen := of_decide_eq_true hlen
    subst hlen
    simp only [a_c1] at hc
    split at hc
    rotate_left
    · cases hc
    rename_i q2
    have hc := of_decide_eq_true hc
    obtain ⟨hle, hw⟩ := nx _ _ _ hr
    exact ⟨hle, fun H locs cells slots ls hD hL => lv_sipush hx hb hdec hc (hw H locs cells slots ls hD hL)⟩
  case lconst n =>
    have hlen := of_decide_eq_true hlen
    subst hlen
    simp only [a_c1] at hc
    split at hc
    rotate_left
    · cases hc
    rename_i q2
    have hc := of_decide_eq_true hc
    obtain ⟨hle, hw⟩ := nx _ _ _ hr
    exact ⟨hle, fun H locs cells slots ls hD hL => lv_lconst hx hb hdec hc (hw H locs cells slots ls hD hL)⟩
  case ldc n =>
    have hlen := of_decide_eq_true hlen
    subst hlen
    simp only [a_c1] at hc
    split at hc
    · obtain ⟨hle, hw⟩ := nx _ _ _ hr
      exact ⟨hle, fun H locs cells slots ls hD hL => lv_ldc hx hb hown (hts _ (hG _ (a_lk_inv hc))) hdec (hw H locs cells slots ls hD hL)⟩
    · simp only [Bool.and_eq_true, decide_eq_true_eq] at hc
      obtain ⟨c1, c2⟩ := hc
      subst c2
      rw [c1] at hown
      obtain ⟨hle, hw⟩ := nx _ _ _ hr
      exact ⟨hle, fun H locs cells slots ls hD hL => va_ldcS hx hb hown hX.2.2.2.2.2.2.1 hdec (hw H locs cells slots ls hD hL)⟩
    · cases hr
    · cases hc
  case ldc_w n =>
    have hlen := of_decide_eq_true hlen
    subst hlen
    simp only [a_c1] at hc
    split at hc
    · obtain ⟨hle, hw⟩ := nx _ _ _ hr
      exact ⟨hle, fun H locs cells slots ls hD hL => lv_ldcw hx hb hown (hts _ (hG _ (a_lk_inv hc))) hdec (hw H locs cells slots ls hD hL)⟩
    · cases hc
  case ldc2_w n =>
    have hlen := of_decide_eq_true hlen
    subst hlen
    simp only [a_c1] at hc
    split at hc
    · obtain ⟨hle, hw⟩ := nx _ _ _ hr
      exact ⟨hle, fun H locs cells slots ls hD hL => lv_ldc2 hx hb hown (hts _ (hG _ (a_lk_inv hc))) hdec (hw H locs cells slots ls hD hL)⟩
    · cases hc
  case iadd =>
    have hlen := of_decide_eq_true hlen
    subst hlen
    obtain ⟨y, S1, rfl, h2⟩ := a_pi_inv hr
    obtain ⟨x, S2, rfl, h3⟩ := a_pi_inv h2
    obtain ⟨hle, hw⟩ := nx _ _ _ h3
    exact ⟨hle, fun H locs cells slots ls hD hL => lv_iadd hx hb hdec (hw H locs cells slots ls hD hL)⟩
  case isub =>
    have hlen := of_decide_eq_true hlen
    subst hlen
    obtain ⟨y, S1, rfl, h2⟩ := a_pi_inv hr
    obtain ⟨x, S2, rfl, h3⟩ := a_pi_inv h2
    obtain ⟨hle, hw⟩ := nx _ _ _ h3
    exact ⟨hle, fun H locs cells slots ls hD hL => lv_isub hx hb hdec (hw H locs cells slots ls hD hL)⟩
  case imul =>
    have hlen := of_decide_eq_true hlen
    subst hlen
    obtain ⟨y, S1, rfl, h2⟩ := a_pi_inv hr
    obtain ⟨x, S2, rfl, h3⟩ := a_pi_inv h2
    obtain ⟨hle, hw⟩ := nx _ _ _ h3
    exact ⟨hle, fun H locs cells slots ls hD hL => lv_imul hx hb hdec (hw H locs cells slots ls hD hL)⟩
  case iand =>
    have hlen := of_decide_eq_true hlen
    subst hlen
    obtain ⟨y, S1, rfl, h2⟩ := a_pi_inv hr
    obtain ⟨x, S2, rfl, h3⟩ := a_pi_inv h2
    obtain ⟨hle, hw⟩ := nx _ _ _ h3
    exact ⟨hle, fun H locs cells slots ls hD hL => lv_iand hx hb hdec (hw H locs cells slots ls hD hL)⟩
  case ior =>
    have hlen := of_decide_eq_true hlen
    subst hlen
    obtain ⟨y, S1, rfl, h2⟩ := a_pi_inv hr
    obtain ⟨x, S2, rfl, h3⟩ := a_pi_inv h2
    obtain ⟨hle, hw⟩ := nx _ _ _ h3
    exact ⟨hle, fun H locs cells slots ls hD hL => lv_ior hx hb hdec (hw H locs cells slots ls hD hL)⟩
  case ixor =>
    have hlen := of_decide_eq_true hlen
    subst hlen
    obtain ⟨y, S1, rfl, h2⟩ := a_pi_inv hr
    obtain ⟨x, S2, rfl, h3⟩ := a_pi_inv h2
    obtain ⟨hle, hw⟩ := nx _ _ _ h3
    exact ⟨hle, fun H locs cells slots ls hD hL => lv_ixor hx hb hdec (hw H locs cells slots ls hD hL)⟩
  case ishl =>
    have hlen := of_decide_eq_true hlen
    subst hlen
    obtain ⟨y, S1, rfl, h2⟩ := a_pi_inv hr
    obtain ⟨x, S2, rfl, h3⟩ := a_pi_inv h2
    obtain ⟨hle, hw⟩ := nx _ _ _ h3
    exact ⟨hle, fun H locs cells slots ls hD hL => lv_ishl hx hb hdec (hw H locs cells slots ls hD hL)⟩
  case ishr =>
    have hlen := of_decide_eq_true hlen
    subst hlen
    obtain ⟨y, S1, rfl, h2⟩ := a_pi_inv hr
    obtain ⟨x, S2, rfl, h3⟩ := a_pi_inv h2
    obtain ⟨hle, hw⟩ := nx _ _ _ h3
    exact ⟨hle, fun H locs cells slots ls hD hL => lv_ishr hx hb hdec (hw H locs cells slots ls hD hL)⟩
  case iushr =>
    have hlen := of_decide_eq_true hlen
    subst hlen
    obtain ⟨y, S1, rfl, h2⟩ := a_pi_inv hr
    obtain ⟨x, S2, rfl, h3⟩ := a_pi_inv h2
    obtain ⟨hle, hw⟩ := nx _ _ _ h3
    exact ⟨hle, fun H locs cells slots ls hD hL => lv_iushr hx hb hdec rfl (hw H locs cells slots ls hD hL)⟩
  case idiv =>
    have hlen := of_decide_eq_true hlen
    subst hlen
    obtain ⟨y, S1, rfl, h2⟩ := a_pi_inv hr
    obtain ⟨x, S2, rfl, h3⟩ := a_pi_inv h2
    split at h3
    · cases h3
    · rename_i hne
      obtain ⟨hle, hw⟩ := nx _ _ _ h3
      exact ⟨hle, fun H locs cells slots ls hD hL => lv_idiv hx hb hdec hne (hw H locs cells slots ls hD hL)⟩
  case irem =>
    have hlen := of_decide_eq_true hlen
    subst hlen
    obtain ⟨y, S1, rfl, h2⟩ := a_pi_inv hr
    obtain ⟨x, S2, rfl, h3⟩ := a_pi_inv h2
    split at h3
    · cases h3
    · rename_i hne
      obtain ⟨hle, hw⟩ := nx _ _ _ h3
      exact ⟨hle, fun H locs cells slots ls hD hL => lv_irem hx hb hdec hne (hw H locs cells slots ls hD hL)⟩
  case i2l =>
    have hlen := of_decide_eq_true hlen
    subst hlen
    obtain ⟨x, S2, rfl, h3⟩ := a_pi_inv hr
    obtain ⟨hle, hw⟩ := nx _ _ _ h3
    exact ⟨hle, fun H locs cells slots ls hD hL => lv_i2l hx hb hdec rfl (hw H locs cells slots ls hD hL)⟩
  case i2b =>
    have hlen := of_decide_eq_true hlen
    subst hlen
    obtain ⟨x, S2, rfl, h3⟩ := a_pi_inv hr
    obtain ⟨hle, hw⟩ := nx _ _ _ h3
    exact ⟨hle, fun H locs cells slots ls hD hL => lv_i2b hx hb hdec rfl (hw H locs cells slots ls hD hL)⟩
  case ladd =>
    have hlen := of_decide_eq_true hlen
    subst hlen
    obtain ⟨y, S1, rfl, h2⟩ := a_pl_inv hr
    obtain ⟨x, S2, rfl, h3⟩ := a_pl_inv h2
    obtain ⟨hle, hw⟩ := nx _ _ _ h3
    exact ⟨hle, fun H locs cells slots ls hD hL => lv_ladd hx hb hdec (hw H locs cells slots ls hD hL)⟩
  case lmul =>
    have hlen := of_decide_eq_true hlen
    subst hlen
    obtain ⟨y, S1, rfl, h2⟩ := a_pl_inv hr
    obtain ⟨x, S2, rfl, h3⟩ := a_pl_inv h2
    obtain ⟨hle, hw⟩ := nx _ _ _ h3
    exact ⟨hle, fun H locs cells slots ls hD hL => lv_lmul hx hb hdec (hw H locs cells slots ls hD hL)⟩
  case lor =>
    have hlen := of_decide_eq_true hlen
    subst hlen
    obtain ⟨y, S1, rfl, h2⟩ := a_pl_inv hr
    obtain ⟨x, S2, rfl, h3⟩ := a_pl_inv h2
    obtain ⟨hle, hw⟩ := nx _ _ _ h3
    exact ⟨hle, fun H locs cells slots ls hD hL => lv_lor hx hb hdec (hw H locs cells slots ls hD hL)⟩
  case lcmp =>
    have hlen := of_decide_eq_true hlen
    subst hlen
    obtain ⟨y, S1, rfl, h2⟩ := a_pl_inv hr
    obtain ⟨x, S2, rfl, h3⟩ := a_pl_inv h2
    obtain ⟨hle, hw⟩ := nx _ _ _ h3
    exact ⟨hle, fun H locs cells slots ls hD hL => W.lcmp hx hb hdec (hw H locs cells slots ls hD hL)⟩
  case lshl =>
    have hlen := of_decide_eq_true hlen
    subst hlen
    obtain ⟨y, S1, rfl, h2⟩ := a_pi_inv hr
    obtain ⟨x, S2, rfl, h3⟩ := a_pl_inv h2
    obtain ⟨hle, hw⟩ := nx _ _ _ h3
    exact ⟨hle, fun H locs cells slots ls hD hL => lv_lshl hx hb hdec rfl (hw H locs cells slots ls hD hL)⟩
  case dup =>
    have hlen := of_decide_eq_true hlen
    subst hlen
    split at hr
    · obtain ⟨hle, hw⟩ := nx _ _ _ hr
      exact ⟨hle, fun H locs cells slots ls hD hL => lv_dup hx hb hdec rfl (hw H locs cells slots ls hD hL)⟩
    · obtain ⟨hle, hw⟩ := nx _ _ _ hr
      exact ⟨hle, fun H locs cells slots ls hD hL => lv_dup hx hb hdec rfl (hw H locs cells slots ls hD hL)⟩
    · cases hr
  case dup2 =>
    have hlen := of_decide_eq_true hlen
    subst hlen
    split at hr
    · obtain ⟨hle, hw⟩ := nx _ _ _ hr
      exact ⟨hle, fun H locs cells slots ls hD hL => lv_dup2_11 hx hb hdec rfl rfl (hw H locs cells slots ls hD hL)⟩
    · cases hr
  case pop =>
    have hlen := of_decide_eq_true hlen
    subst hlen
    obtain ⟨x, S2, rfl, h3⟩ := a_pi_inv hr
    obtain ⟨hle, hw⟩ := nx _ _ _ h3
    exact ⟨hle, fun H locs cells slots ls hD hL => lv_pop hx hb hdec rfl (hw H locs cells slots ls hD hL)⟩
  case goto off =>
    have hlen := of_decide_eq_true hlen
    subst hlen
    obtain ⟨t, ht, hle, hw⟩ := a_jmp hk hg hc hr
    exact ⟨hle, fun H locs cells slots ls hD hL => lv_goto hx hb hdec ht (hw H locs cells slots ls hD hL)⟩
  case ifCond cn off =>
    have hlen := of_decide_eq_true hlen
    subst hlen
    obtain ⟨x, S1, rfl, h3⟩ := a_pi_inv hr
    cases cn
    · simp only [a_ic] at h3
      split at h3
      · rename_i hcc
        obtain ⟨t, ht, hle, hw⟩ := a_jmp hk hg hc h3
        exact ⟨hle, fun H locs cells slots ls hD hL => lv_if_eq hx hb hdec ht (fun _ => hw H locs cells slots ls hD hL) (fun z => absurd hcc z)⟩
      · rename_i hcc
        obtain ⟨hle, hw⟩ := nx _ _ _ h3
        obtain ⟨t, ht⟩ := a_jm_nn hc
        exact ⟨hle, fun H locs cells slots ls hD hL => lv_if_eq hx hb hdec ht (fun z => absurd z hcc) (fun _ => hw H locs cells slots ls hD hL)⟩
    · simp only [a_ic] at h3
      split at h3
      · rename_i hcc
        obtain ⟨hle, hw⟩ := nx _ _ _ h3
        obtain ⟨t, ht⟩ := a_jm_nn hc
        exact ⟨hle, fun H locs cells slots ls hD hL => lv_if_ne hx hb hdec ht (fun z => absurd hcc z) (fun _ => hw H locs cells slots ls hD hL)⟩
      · rename_i hcc
        obtain ⟨t, ht, hle, hw⟩ := a_jmp hk hg hc h3
        exact ⟨hle, fun H locs cells slots ls hD hL => lv_if_ne hx hb hdec ht (fun _ => hw H locs cells slots ls hD hL) (fun z => absurd z hcc)⟩
    · simp only [a_ic] at h3
      split at h3
      · rename_i hcc
        obtain ⟨t, ht, hle, hw⟩ := a_jmp hk hg hc h3
        exact ⟨hle, fun H locs cells slots ls hD hL => lv_if_lt hx hb hdec ht (fun _ => hw H locs cells slots ls hD hL) (fun z => absurd hcc z)⟩
      · rename_i hcc
        obtain ⟨hle, hw⟩ := nx _ _ _ h3
        obtain ⟨t, ht⟩ := a_jm_nn hc
        exact ⟨hle, fun H locs cells slots ls hD hL => lv_if_lt hx hb hdec ht (fun z => absurd z hcc) (fun _ => hw H locs cells slots ls hD hL)⟩
    · simp only [a_ic] at h3
      split at h3
      · rename_i hcc
        obtain ⟨t, ht, hle, hw⟩ := a_jmp hk hg hc h3
        exact ⟨hle, fun H locs cells slots ls hD hL => lv_if_ge hx hb hdec ht (fun _ => hw H locs cells slots ls hD hL) (fun z => absurd hcc z)⟩
      · rename_i hcc
        obtain ⟨hle, hw⟩ := nx _ _ _ h3
        obtain ⟨t, ht⟩ := a_jm_nn hc
        exact ⟨hle, fun H locs cells slots ls hD hL => lv_if_ge hx hb hdec ht (fun z => absurd z hcc) (fun _ => hw H locs cells slots ls hD hL)⟩
    · simp only [a_ic] at h3
      split at h3
      · rename_i hcc
        obtain ⟨t, ht, hle, hw⟩ := a_jmp hk hg hc h3
        exact ⟨hle, fun H locs cells slots ls hD hL => lv_if_gt hx hb hdec ht (fun _ => hw H locs cells slots ls hD hL) (fun z => absurd hcc z)⟩
      · rename_i hcc
        obtain ⟨hle, hw⟩ := nx _ _ _ h3
        obtain ⟨t, ht⟩ := a_jm_nn hc
        exact ⟨hle, fun H locs cells slots ls hD hL => lv_if_gt hx hb hdec ht (fun z => absurd z hcc) (fun _ => hw H locs cells slots ls hD hL)⟩
    · simp only [a_ic] at h3
      split at h3
      · rename_i hcc
        obtain ⟨t, ht, hle, hw⟩ := a_jmp hk hg hc h3
        exact ⟨hle, fun H locs cells slots ls hD hL => lv_if_le hx hb hdec ht (fun _ => hw H locs cells slots ls hD hL) (fun z => absurd hcc z)⟩
      · rename_i hcc
        obtain ⟨hle, hw⟩ := nx _ _ _ h3
        obtain ⟨t, ht⟩ := a_jm_nn hc
        exact ⟨hle, fun H locs cells slots ls hD hL => lv_if_le hx hb hdec ht (fun z => absurd z hcc) (fun _ => hw H locs cells slots ls hD hL)⟩
  case if_icmp cn off =>
    have hlen := of_decide_eq_true hlen
    subst hlen
    obtain ⟨y, S1, rfl, h2⟩ := a_pi_inv hr
    obtain ⟨x, S2, rfl, h3⟩ := a_pi_inv h2
    cases cn
    · simp only [a_ic] at h3
      split at h3
      · rename_i hcc
        obtain ⟨t, ht, hle, hw⟩ := a_jmp hk hg hc h3
        exact ⟨hle, fun H locs cells slots ls hD hL => lv_icmp_eq hx hb hdec ht (fun _ => hw H locs cells slots ls hD hL) (fun z => absurd hcc z)⟩
      · rename_i hcc
        obtain ⟨hle, hw⟩ := nx _ _ _ h3
        obtain ⟨t, ht⟩ := a_jm_nn hc
        exact ⟨hle, fun H locs cells slots ls hD hL => lv_icmp_eq hx hb hdec ht (fun z => absurd z hcc) (fun _ => hw H locs cells slots ls hD hL)⟩
    · simp only [a_ic] at h3
      split at h3
      · rename_i hcc
        obtain ⟨hle, hw⟩ := nx _ _ _ h3
        obtain ⟨t, ht⟩ := a_jm_nn hc
        exact ⟨hle, fun H locs cells slots ls hD hL => lv_icmp_ne hx hb hdec ht (fun z => absurd hcc z) (fun _ => hw H locs cells slots ls hD hL)⟩
      · rename_i hcc
        obtain ⟨t, ht, hle, hw⟩ := a_jmp hk hg hc h3
        exact ⟨hle, fun H locs cells slots ls hD hL => lv_icmp_ne hx hb hdec ht (fun _ => hw H locs cells slots ls hD hL) (fun z => absurd z hcc)⟩
    · simp only [a_ic] at h3
      split at h3
      · rename_i hcc
        obtain ⟨t, ht, hle, hw⟩ := a_jmp hk hg hc h3
        exact ⟨hle, fun H locs cells slots ls hD hL => lv_icmp_lt hx hb hdec ht (fun _ => hw H locs cells slots ls hD hL) (fun z => absurd hcc z)⟩
      · rename_i hcc
        obtain ⟨hle, hw⟩ := nx _ _ _ h3
        obtain ⟨t, ht⟩ := a_jm_nn hc
        exact ⟨hle, fun H locs cells slots ls hD hL => lv_icmp_lt hx hb hdec ht (fun z => absurd z hcc) (fun _ => hw H locs cells slots ls hD hL)⟩
    · simp only [a_ic] at h3
      split at h3
      · rename_i hcc
        obtain ⟨t, ht, hle, hw⟩ := a_jmp hk hg hc h3
        exact ⟨hle, fun H locs cells slots ls hD hL => lv_icmp_ge hx hb hdec ht (fun _ => hw H locs cells slots ls hD hL) (fun z => absurd hcc z)⟩
      · rename_i hcc
        obtain ⟨hle, hw⟩ := nx _ _ _ h3
        obtain ⟨t, ht⟩ := a_jm_nn hc
        exact ⟨hle, fun H locs cells slots ls hD hL => lv_icmp_ge hx hb hdec ht (fun z => absurd z hcc) (fun _ => hw H locs cells slots ls hD hL)⟩
    · simp only [a_ic] at h3
      split at h3
      · rename_i hcc
        obtain ⟨t, ht, hle, hw⟩ := a_jmp hk hg hc h3
        exact ⟨hle, fun H locs cells slots ls hD hL => lv_icmp_gt hx hb hdec ht (fun _ => hw H locs cells slots ls hD hL) (fun z => absurd hcc z)⟩
      · rename_i hcc
        obtain ⟨hle, hw⟩ := nx _ _ _ h3
        obtain ⟨t, ht⟩ := a_jm_nn hc
        exact ⟨hle, fun H locs cells slots ls hD hL => lv_icmp_gt hx hb hdec ht (fun z => absurd z hcc) (fun _ => hw H locs cells slots ls hD hL)⟩
    · simp only [a_ic] at h3
      split at h3
      · rename_i hcc
        obtain ⟨t, ht, hle, hw⟩ := a_jmp hk hg hc h3
        exact ⟨hle, fun H locs cells slots ls hD hL => lv_icmp_le hx hb hdec ht (fun _ => hw H locs cells slots ls hD hL) (fun z => absurd hcc z)⟩
      · rename_i hcc
        obtain ⟨hle, hw⟩ := nx _ _ _ h3
        obtain ⟨t, ht⟩ := a_jm_nn hc
        exact ⟨hle, fun H locs cells slots ls hD hL => lv_icmp_le hx hb hdec ht (fun z => absurd z hcc) (fun _ => hw H locs cells slots ls hD hL)⟩
  case tableswitch df lo hi offs =>
    cases aux with
    | nil => cases hr
    | cons dd sk =>
      obtain ⟨x, S1, rfl, h3⟩ := a_pi_inv hr
      simp only [a_c1, Bool.and_eq_true, decide_eq_true_eq] at hc
      obtain ⟨⟨⟨c1, c2⟩, c3⟩, c4⟩ := hc
      unfold a_ts at h3
      split at h3
      · rename_i hlo1
        obtain ⟨t, ht, hle, hw⟩ := a_jmp hk hg c1 (show a_jp ag k [0, dd] L S1 h = some (hf, v) from h3)
        exact ⟨hle, fun H locs cells slots ls hD hL => lv_tableOut hx hb hdec (Or.inl hlo1) ht (hw H locs cells slots ls hD hL)⟩
      · rename_i hlo1
        rw [List.getElem?_map] at h3
        cases hj : sk[(x.toInt - lo).toNat]? with
        | none =>
          rw [hj] at h3
          have hjl := List.getElem?_eq_none_iff.mp hj
          obtain ⟨t, ht, hle, hw⟩ := a_jmp hk hg c1 (show a_jp ag k [0, dd] L S1 h = some (hf, v) from h3)
          exact ⟨hle, fun H locs cells slots ls hD hL => lv_tableOut hx hb hdec (Or.inr (by omega)) ht (hw H locs cells slots ls hD hL)⟩
        | some n =>
          rw [hj] at h3
          have hjl := (List.getElem?_eq_some_iff.mp hj).1
          have c5 := List.all_eq_true.mp c4 (x.toInt - lo).toNat (List.mem_range.mpr hjl)
          rw [hj] at c5
          split at c5
          · rename_i n2 off2 e1 e2
            cases e1
            obtain ⟨t, ht, hle, hw⟩ := a_jmp hk hg c5 (show a_jp ag k [0, n] L S1 h = some (hf, v) from h3)
            exact ⟨hle, fun H locs cells slots ls hD hL => lv_tableIn hx hb hdec hlo1 (by omega) e2 ht (hw H locs cells slots ls hD hL)⟩
          · cases c5
  case getfield idx =>
    have hlen := of_decide_eq_true hlen
    subst hlen
    simp only [a_c1] at hc
    have hc0 := hc
    unfold a_fl at hc0
    split at hc0
    · rename_i ci f t md wi
      unfold a_gf at hr
      split at hr
      · rename_i e1
        cases e1
        obtain ⟨a, S1, rfl, h2⟩ := a_pa_inv hr
        obtain ⟨h3, h4⟩ := a_kc_inv h2
        obtain ⟨hle, hw⟩ := nx _ _ _ h4
        refine ⟨hle, fun H locs cells slots ls hD hL => a_get F hD hc h3 hdec fun q _ _ hq => ?_⟩
        have e1 : a_fv base h a (q.2.1 f).2.2.1 f = .int (a_iv h a f) := by simp [a_fv, ← hq]
        rw [e1]
        exact hw H locs cells slots ls hD hL
      · rename_i e1
        cases e1
        obtain ⟨a, S1, rfl, h2⟩ := a_pa_inv hr
        obtain ⟨h3, h4⟩ := a_kc_inv h2
        obtain ⟨hle, hw⟩ := nx _ _ _ h4
        refine ⟨hle, fun H locs cells slots ls hD hL => a_get F hD hc h3 hdec fun q _ _ hq => ?_⟩
        have e1 : a_fv base h a (q.2.1 f).2.2.1 f = .int (a_iv h a f) := by simp [a_fv, ← hq]
        rw [e1]
        exact hw H locs cells slots ls hD hL
      · rename_i e1
        cases e1
        obtain ⟨a, S1, rfl, h2⟩ := a_pa_inv hr
        obtain ⟨h3, h4⟩ := a_kc_inv h2
        obtain ⟨hle, hw⟩ := nx _ _ _ h4
        refine ⟨hle, fun H locs cells slots ls hD hL => a_get F hD hc h3 hdec fun q _ _ hq => ?_⟩
        have e1 : a_fv base h a (q.2.1 f).2.2.1 f = .long (a_jv h a f) := by simp [a_fv, ← hq]
        rw [e1]
        exact hw H locs cells slots ls hD hL
      · rename_i e1
        cases e1
        obtain ⟨a, S1, rfl, h2⟩ := a_pa_inv hr
        obtain ⟨h3, h4⟩ := a_kc_inv h2
        obtain ⟨y, h5, h6⟩ := a_fo_inv h4
        obtain ⟨hle, hw⟩ := nx _ _ _ h6
        refine ⟨hle, fun H locs cells slots ls hD hL => a_get F hD hc h3 hdec fun q _ _ hq => ?_⟩
        have e1 : a_fv base h a (q.2.1 f).2.2.1 f = .ref (base + y) := by simp [a_fv, ← hq, h5, va_rf]
        rw [e1]
        exact hw H locs cells slots ls hD hL
      · cases hr
    · cases hc0
  case putfield idx =>
    have hlen := of_decide_eq_true hlen
    subst hlen
    simp only [a_c1, Bool.and_eq_true] at hc
    obtain ⟨hc, hc9⟩ := hc
    have hc0 := hc
    unfold a_fl at hc0
    split at hc0
    · rename_i ci f t md wi
      unfold a_pf at hr
      split at hr
      · rename_i e1
        cases e1
        obtain ⟨x, S1, rfl, h1⟩ := a_pi_inv hr
        obtain ⟨a, S2, rfl, h2⟩ := a_pa_inv h1
        obtain ⟨h3, h4⟩ := a_kc_inv h2
        obtain ⟨hle, hw⟩ := nx _ _ _ h4
        refine ⟨hle, fun H locs cells slots ls hD hL => a_putx (w := .int x) (g := a_sI h a f x) F hD hc hc9 h3 hdec ?_ rfl (fun j hj => a_E_sI hj) h3 (fun q _ hq => ⟨by simp [a_fv, ← hq, a_iv, a_sI, va_up, upd], fun j hj => by simp [a_fv, a_iv, a_jv, a_rf, a_sI, va_up, upd, hj]⟩) rfl fun H1 locs1 hD1 => hw H1 locs1 cells slots ls hD1 hL⟩
        intro ty hty
        simp only [a_tt] at hty
        rw [of_decide_eq_true hty]
        exact ⟨rfl, rfl⟩
      · rename_i e1
        cases e1
        obtain ⟨x, S1, rfl, h1⟩ := a_pi_inv hr
        obtain ⟨a, S2, rfl, h2⟩ := a_pa_inv h1
        obtain ⟨h3, h4⟩ := a_kc_inv h2
        split at h4
        rotate_left
        · cases h4
        rename_i hx1
        obtain ⟨hle, hw⟩ := nx _ _ _ h4
        refine ⟨hle, fun H locs cells slots ls hD hL => a_putx (w := .int x) (g := a_sI h a f x) F hD hc hc9 h3 hdec ?_ rfl (fun j hj => a_E_sI hj) h3 (fun q _ hq => ⟨by simp [a_fv, ← hq, a_iv, a_sI, va_up, upd], fun j hj => by simp [a_fv, a_iv, a_jv, a_rf, a_sI, va_up, upd, hj]⟩) rfl fun H1 locs1 hD1 => hw H1 locs1 cells slots ls hD1 hL⟩
        intro ty hty
        simp only [a_tt] at hty
        rw [of_decide_eq_true hty]
        exact a_bool hx1
      · rename_i e1
        cases e1
        obtain ⟨x, S1, rfl, h1⟩ := a_pl_inv hr
        obtain ⟨a, S2, rfl, h2⟩ := a_pa_inv h1
        obtain ⟨h3, h4⟩ := a_kc_inv h2
        obtain ⟨hle, hw⟩ := nx _ _ _ h4
        refine ⟨hle, fun H locs cells slots ls hD hL => a_putx (w := .long x) (g := a_sJ h a f x) F hD hc hc9 h3 hdec ?_ rfl (fun j hj => a_E_sJ hj) h3 (fun q _ hq => ⟨by simp [a_fv, ← hq, a_jv, a_sJ, va_up, vp_updL], fun j hj => by simp [a_fv, a_iv, a_jv, a_rf, a_sJ, va_up, vp_updL, hj]⟩) rfl fun H1 locs1 hD1 => hw H1 locs1 cells slots ls hD1 hL⟩
        intro ty hty
        simp only [a_tt] at hty
        rw [of_decide_eq_true hty]
        exact ⟨rfl, rfl⟩
      · rename_i e1
        cases e1
        obtain ⟨x, S1, rfl, h1⟩ := a_pa_inv hr
        obtain ⟨a, S2, rfl, h2⟩ := a_pa_inv h1
        obtain ⟨h3, h4⟩ := a_kc_inv h2
        obtain ⟨h5, h4⟩ := a_if_inv h4
        have h5 : f < a_rl h a := by simpa [Nat.blt_eq] using h5
        obtain ⟨hle, hw⟩ := nx _ _ _ h4
        refine ⟨hle, fun H locs cells slots ls hD hL => a_putx (w := .ref (base + x)) (g := a_sR h a f x) F hD hc hc9 h3 hdec ?_ a_sR_len (fun j hj => a_E_sR hj) ?_ ?_ rfl fun H1 locs1 hD1 => hw H1 locs1 cells slots ls hD1 hL⟩
        · intro ty hty
          have hty : a_isr ty = true := hty
          cases ty <;> first | exact ⟨rfl, rfl⟩ | (simp [a_isr] at hty)
        · have hla : a < h.1.length := by
            unfold a_rl at h5
            cases e1 : h.1[a]? with
            | none => rw [e1] at h5; exact absurd h5 (Nat.not_lt_zero _)
            | some q => exact (List.getElem?_eq_some_iff.mp e1).1
          rw [a_sR_kd hla]
          exact h3
        · have hla : a < h.1.length := by
            unfold a_rl at h5
            cases e1 : h.1[a]? with
            | none => rw [e1] at h5; exact absurd h5 (Nat.not_lt_zero _)
            | some q => exact (List.getElem?_eq_some_iff.mp e1).1
          intro q _ hq
          have hz2 : ∀ j, a_rf (a_sR h a f x) a j = if j = f then some x else a_rf h a j := fun j => by
            rw [a_sR_rf hla]
            by_cases hj : j = f
            · rw [if_pos ⟨hj, h5⟩, if_pos hj]
            · rw [if_neg (fun z => hj z.1), if_neg hj]
          refine ⟨by simp [a_fv, ← hq, hz2, va_rf], fun j hj => ?_⟩
          have e1 : a_iv (a_sR h a f x) a j = a_iv h a j := rfl
          have e2 : a_jv (a_sR h a f x) a j = a_jv h a j := rfl
          unfold a_fv
          rw [e1, e2, hz2, if_neg hj]
      · cases hr
    · cases hc0
  case iaload =>
    have hlen := of_decide_eq_true hlen
    subst hlen
    unfold a_al at hr
    split at hr
    · obtain ⟨h3, h4⟩ := a_kc_inv hr
      obtain ⟨h5, h6⟩ := a_ix_inv h4
      obtain ⟨hle, hw⟩ := nx _ _ _ h6
      exact ⟨hle, fun H locs cells slots ls hD hL => a_iald1 F hD h3 h5 hdec (hw H locs cells slots ls hD hL)⟩
    · obtain ⟨h5, h6⟩ := a_if_inv hr
      obtain ⟨hle, hw⟩ := nx _ _ _ h6
      exact ⟨hle, fun H locs cells slots ls hD hL => a_sld1 F hD (a_xn_in (a_in_vp h5)).1 (a_xn_in (a_in_vp h5)).2 hdec (hw H locs cells slots ls hD hL)⟩
    · cases hr
  case iastore =>
    have hlen := of_decide_eq_true hlen
    subst hlen
    split at hr
    · obtain ⟨h3, h4⟩ := a_kc_inv hr
      obtain ⟨h5, h6⟩ := a_ix_inv h4
      obtain ⟨hle, hw⟩ := nx _ _ _ h6
      exact ⟨hle, fun H locs cells slots ls hD hL => a_iast1 F hD h3 h5 hdec fun H1 locs1 hD1 => hw H1 locs1 cells slots ls hD1 hL⟩
    · cases hr
  case laload =>
    have hlen := of_decide_eq_true hlen
    subst hlen
    split at hr
    · obtain ⟨h3, h4⟩ := a_kc_inv hr
      obtain ⟨h5, h6⟩ := a_ix_inv h4
      obtain ⟨hle, hw⟩ := nx _ _ _ h6
      exact ⟨hle, fun H locs cells slots ls hD hL => a_lald1 F hD h3 h5 hdec (hw H locs cells slots ls hD hL)⟩
    · cases hr
  case lastore =>
    have hlen := of_decide_eq_true hlen
    subst hlen
    split at hr
    · obtain ⟨h3, h4⟩ := a_kc_inv hr
      obtain ⟨h5, h6⟩ := a_ix_inv h4
      obtain ⟨hle, hw⟩ := nx _ _ _ h6
      exact ⟨hle, fun H locs cells slots ls hD hL => a_last1 F hD h3 h5 hdec fun H1 locs1 hD1 => hw H1 locs1 cells slots ls hD1 hL⟩
    · cases hr
  case baload =>
    have hlen := of_decide_eq_true hlen
    subst hlen
    unfold a_bl at hr
    split at hr
    · split at hr
      · rename_i h3
        obtain ⟨h5, h6⟩ := a_ix_inv hr
        obtain ⟨hle, hw⟩ := nx _ _ _ h6
        exact ⟨hle, fun H locs cells slots ls hD hL => a_bald1 F hD h3 h5 hdec (hw H locs cells slots ls hD hL)⟩
      · cases hr
    · cases hr
  case bastore =>
    have hlen := of_decide_eq_true hlen
    subst hlen
    unfold a_bs at hr
    split at hr
    · split at hr
      · rename_i h3
        obtain ⟨h5, h6⟩ := a_ix_inv hr
        obtain ⟨hle, hw⟩ := nx _ _ _ h6
        exact ⟨hle, fun H locs cells slots ls hD hL => a_zast1 F hD h3 h5 hdec fun H1 locs1 hD1 => hw H1 locs1 cells slots ls hD1 hL⟩
      · split at hr
        · rename_i h3
          obtain ⟨h5, h6⟩ := a_ix_inv hr
          obtain ⟨hle, hw⟩ := nx _ _ _ h6
          exact ⟨hle, fun H locs cells slots ls hD hL => a_bast1 F hD h3 h5 hdec fun H1 locs1 hD1 => hw H1 locs1 cells slots ls hD1 hL⟩
        · cases hr
    · cases hr
  case aaload =>
    have hlen := of_decide_eq_true hlen
    subst hlen
    unfold a_aa at hr
    split at hr
    · split at hr
      · rename_i h3
        obtain ⟨h5, h6⟩ := a_ix_inv hr
        obtain ⟨y, h7, h8⟩ := a_fo_inv h6
        obtain ⟨hle, hw⟩ := nx _ _ _ h8
        exact ⟨hle, fun H locs cells slots ls hD hL => a_aald1 F hD h3 h5 h7 hdec (hw H locs cells slots ls hD hL)⟩
      · cases hr
    · cases hr
  case aastore =>
    have hlen := of_decide_eq_true hlen
    subst hlen
    unfold a_as at hr
    split at hr
    · split at hr
      · rename_i h3
        obtain ⟨h4, h5⟩ := a_kc_inv hr
        obtain ⟨h6, h7⟩ := a_ix_inv h5
        obtain ⟨h8, h9⟩ := a_if_inv h7
        obtain ⟨hle, hw⟩ := nx _ _ _ h9
        exact ⟨hle, fun H locs cells slots ls hD hL => a_aast1 F hD h3 h4 h6 (by simpa [Nat.blt_eq] using h8) hdec fun H1 locs1 hD1 => hw H1 locs1 cells slots ls hD1 hL⟩
      · cases hr
    · cases hr
  case arraylength =>
    have hlen := of_decide_eq_true hlen
    subst hlen
    unfold a_an at hr
    split at hr
    · obtain ⟨h3, h4⟩ := a_kc_inv hr
      obtain ⟨hle, hw⟩ := nx _ _ _ h4
      exact ⟨hle, fun H locs cells slots ls hD hL => a_alen1 F hD h3 hdec (hw H locs cells slots ls hD hL)⟩
    · obtain ⟨h3, h4⟩ := a_if_inv hr
      obtain ⟨hle, hw⟩ := nx _ _ _ h4
      exact ⟨hle, fun H locs cells slots ls hD hL => a_slen1 F hD (by simp only [Nat.blt_eq] at h3; exact h3) hdec (hw H locs cells slots ls hD hL)⟩
    · cases hr
  case newarray aty =>
    have hlen := of_decide_eq_true hlen
    subst hlen
    unfold a_na at hr
    obtain ⟨n, S1, rfl, h1⟩ := a_pi_inv hr
    obtain ⟨h2, h3⟩ := a_if_inv h1
    simp only [Bool.and_eq_true] at h2
    obtain ⟨⟨h4, h5⟩, h6⟩ := h2
    have h6 : n.toNatClampNeg ≤ 60000 := Nat.le_of_ble_eq_true h6
    simp only [a_c1] at hc
    split at hc
    rotate_left
    · cases hc
    rename_i w1
    cases aty <;> simp only at h3 <;> first | (cases h3; done) | skip
    case int =>
      obtain ⟨hle, hw⟩ := nx _ _ _ h3
      have hle2 := hle
      obtain ⟨hl1, hl2, -⟩ := hle2
      have hl1 : a_nc h + 1 ≤ a_nc hf := hl1
      have hl2 : a_ns h + n.toNatClampNeg ≤ a_ns hf := hl2
      refine ⟨a_mk_le.trans hle, fun H locs cells slots ls hD hL => ?_⟩
      obtain ⟨-, -, -, hcn, hsn⟩ := id hD
      refine a_newa1 (kk0 := 100) (t0 := 0) (ty := .int) F hD h4 (a_nn h5) h6 rfl (by decide) hc rfl id (a_E_arr.1 a_mk_kd) ?_ (by omega) (by omega) hdec fun H1 hD1 => hw H1 locs _ _ ls hD1 hL
      rw [a_mk_ln]
      simp only [a_mk, va_up]
      simp
      rfl
    case long =>
      obtain ⟨hle, hw⟩ := nx _ _ _ h3
      have hle2 := hle
      obtain ⟨hl1, hl2, -⟩ := hle2
      have hl1 : a_nc h + 1 ≤ a_nc hf := hl1
      have hl2 : a_ns h + n.toNatClampNeg ≤ a_ns hf := hl2
      refine ⟨a_mk_le.trans hle, fun H locs cells slots ls hD hL => ?_⟩
      obtain ⟨-, -, -, hcn, hsn⟩ := id hD
      refine a_newa1 (kk0 := 101) (t0 := 1) (ty := .long) F hD h4 (a_nn h5) h6 rfl (by decide) hc rfl id (a_E_arr.2.1 a_mk_kd) ?_ (by omega) (by omega) hdec fun H1 hD1 => hw H1 locs _ _ ls hD1 hL
      rw [a_mk_ln]
      simp only [a_mk, va_up]
      simp
      rfl
    case boolean =>
      obtain ⟨hle, hw⟩ := nx _ _ _ h3
      have hle2 := hle
      obtain ⟨hl1, hl2, -⟩ := hle2
      have hl1 : a_nc h + 1 ≤ a_nc hf := hl1
      have hl2 : a_ns h + n.toNatClampNeg ≤ a_ns hf := hl2
      refine ⟨a_mk_le.trans hle, fun H locs cells slots ls hD hL => ?_⟩
      obtain ⟨-, -, -, hcn, hsn⟩ := id hD
      refine a_newa1 (kk0 := 102) (t0 := 2) (ty := .boolean) F hD h4 (a_nn h5) h6 rfl (by decide) hc rfl id (a_E_arr.2.2.1 a_mk_kd) ?_ (by omega) (by omega) hdec fun H1 hD1 => hw H1 locs _ _ ls hD1 hL
      rw [a_mk_ln]
      simp only [a_mk, va_up]
      simp
      rfl
    case byte =>
      obtain ⟨hle, hw⟩ := nx _ _ _ h3
      have hle2 := hle
      obtain ⟨hl1, hl2, -⟩ := hle2
      have hl1 : a_nc h + 1 ≤ a_nc hf := hl1
      have hl2 : a_ns h + n.toNatClampNeg ≤ a_ns hf := hl2
      refine ⟨a_mk_le.trans hle, fun H locs cells slots ls hD hL => ?_⟩
      obtain ⟨-, -, -, hcn, hsn⟩ := id hD
      refine a_newa1 (kk0 := 103) (t0 := 3) (ty := .byte) F hD h4 (a_nn h5) h6 rfl (by decide) hc rfl id (a_E_arr.2.2.2.1 a_mk_kd) ?_ (by omega) (by omega) hdec fun H1 hD1 => hw H1 locs _ _ ls hD1 hL
      rw [a_mk_ln]
      simp only [a_mk, va_up]
      simp
      rfl
  case anewarray idx =>
    have hlen := of_decide_eq_true hlen
    subst hlen
    simp only [a_c1] at hc
    split at hc
    · obtain ⟨n, S1, rfl, h1⟩ := a_pi_inv hr
      obtain ⟨h2, h3⟩ := a_if_inv h1
      simp only [Bool.and_eq_true] at h2
      obtain ⟨⟨h4, h5⟩, h6⟩ := h2
      have h6 : n.toNatClampNeg ≤ 60000 := Nat.le_of_ble_eq_true h6
      obtain ⟨hle, hw⟩ := nx _ _ _ h3
      have hle2 := hle
      obtain ⟨hl1, hl2, -⟩ := hle2
      have hl1 : a_nc h + 1 ≤ a_nc hf := hl1
      have hl2 : a_ns h + n.toNatClampNeg ≤ a_ns hf := hl2
      refine ⟨a_mk_le.trans hle, fun H locs cells slots ls hD hL => ?_⟩
      obtain ⟨-, -, -, hcn, hsn⟩ := id hD
      refine a_newq1 (k0 := 104) (t0 := 4) F hD h4 (a_nn h5) h6 hK.2.2.1 hc rfl ?_ (by omega) (by omega) hdec fun H1 hD1 => hw H1 locs _ _ ls hD1 hL
      rw [a_E_arr.2.2.2.2.1 a_mk_kd, a_mk_ln]
      simp only [a_mk_rf]
      rfl
    · obtain ⟨n, S1, rfl, h1⟩ := a_pi_inv hr
      obtain ⟨h2, h3⟩ := a_if_inv h1
      simp only [Bool.and_eq_true] at h2
      obtain ⟨⟨h4, h5⟩, h6⟩ := h2
      have h6 : n.toNatClampNeg ≤ 60000 := Nat.le_of_ble_eq_true h6
      obtain ⟨hle, hw⟩ := nx _ _ _ h3
      have hle2 := hle
      obtain ⟨hl1, hl2, -⟩ := hle2
      have hl1 : a_nc h + 1 ≤ a_nc hf := hl1
      have hl2 : a_ns h + n.toNatClampNeg ≤ a_ns hf := hl2
      refine ⟨a_mk_le.trans hle, fun H locs cells slots ls hD hL => ?_⟩
      obtain ⟨-, -, -, hcn, hsn⟩ := id hD
      refine a_newq1 (k0 := 105) (t0 := 5) F hD h4 (a_nn h5) h6 hK.2.2.2 hc rfl ?_ (by omega) (by omega) hdec fun H1 hD1 => hw H1 locs _ _ ls hD1 hL
      rw [a_E_arr.2.2.2.2.2 a_mk_kd, a_mk_ln]
      simp only [a_mk_rf]
      rfl
    · cases hc
  case new idx =>
    have hlen := of_decide_eq_true hlen
    subst hlen
    simp only [a_c1] at hc
    split at hc
    · rename_i ci n w1 w2 w3
      split at hc
      · rename_i C T N hcl
        simp only [Bool.and_eq_true, decide_eq_true_eq] at hc
        obtain ⟨⟨⟨c0, c1⟩, c2⟩, c3⟩ := hc
        subst c0
        obtain ⟨h4, h3⟩ := a_if_inv hr
        obtain ⟨hle, hw⟩ := nx _ _ _ h3
        have hle2 := hle
        obtain ⟨hl1, hl2, -⟩ := hle2
        have hl1 : a_nc h + 1 ≤ a_nc hf := hl1
        have hl2 : a_ns h + n ≤ a_ns hf := hl2
        refine ⟨a_mk_le.trans hle, fun H locs cells slots ls hD hL => ?_⟩
        obtain ⟨-, -, -, hcn, hsn⟩ := id hD
        exact a_new1 F hD h4 hcl c1 c2 c3 (by omega) (by show slots + n ≤ _; omega) hdec fun H1 hD1 => hw H1 locs _ _ ls hD1 hL
      · cases hc
    · rename_i mc ms
      cases S with
      | nil =>
        have hr : some (a_th h mc ms, some (Value.retAddr 0)) = some (hf, v) := hr
        cases hr
        refine ⟨⟨Nat.le_add_right _ _, Nat.le_add_right _ _, fun z => (by cases z)⟩, fun H locs cells slots ls hD hL => ?_⟩
        exact hf3 rfl h mc ms idx L pc rfl hin H locs cells slots ls hD hL
      | cons x S =>
        have hr : (none : A_R) = some (hf, v) := hr
        cases hr
    · cases hc
  case invokevirtual idx =>
    have hlen := of_decide_eq_true hlen
    subst hlen
    simp only [a_c1] at hc
    unfold a_cv at hc
    split at hc
    · simp only [Bool.and_eq_true, decide_eq_true_eq] at hc
      exact absurd hc.1 (by decide)
    · rename_i y n t ci md wl w1 w2 wi
      simp only [Bool.and_eq_true, decide_eq_true_eq] at hc
      obtain ⟨-, hc⟩ := hc
      split at hc
      rotate_left
      · cases hc
      rename_i z mL rt C T N htn hcl
      simp only [Bool.and_eq_true, decide_eq_true_eq] at hc
      obtain ⟨⟨⟨⟨⟨⟨c0, c1⟩, c2⟩, c3⟩, c4⟩, c5⟩, c6⟩ := hc
      simp only [a_iw] at hr
      split at hr
      rotate_left
      · cases hr
      rename_i a S1 hS1
      obtain ⟨h1, h2⟩ := a_if_inv hr
      have hwd : a_wd S1 ≤ 8 := Nat.le_of_ble_eq_true h1
      obtain ⟨hka, h2⟩ := a_kc_inv h2
      obtain ⟨h3, v1, h4, h5, h6, -⟩ := a_bk_inv h2
      obtain ⟨g1, ⟨bytes, g3, g4, g5⟩ | ⟨q1, -⟩⟩ := hM _ _ _ _ _ h4 h6 _ _ _ htn
      rotate_left
      · exact absurd (c0.symm.trans q1) (a_cl_law hcl)
      have hw := nx _ _ _ h5
      have hsl : n < S.length := by
        rcases Nat.lt_or_ge n S.length with q | q
        · exact q
        · rw [List.drop_eq_nil_of_le q] at hS1; cases hS1
      refine ⟨g1.trans hw.1, fun H locs cells slots ls hD hL => ?_⟩
      refine a_cal F hRc hRs g1 hw.1 g3 g4 g5 c1 c4 c5 hD hL.1 (rest := S1) (fun hcb hpre hroom => ?_) hw hL
      have hst : S.map (a_cV base b) = (((S.take n).reverse).map (a_cV base b)).reverse ++ .ref (base + a) :: S1.map (a_cV base b) := by
        rw [← List.map_reverse, List.reverse_reverse]
        conv => lhs; rw [← List.take_append_drop n S, hS1]
        rw [List.map_append]
        rfl
      have hinst : (Cond.instanceMethod z).before args s = true := hts _ (hG _ (a_lk_inv c2))
      have hsel : (Cond.selects C z z).before args s = true := hts _ (hG _ (a_lk_inv c3))
      have hnn : (((S.take n).reverse).map (a_cV base b)).length = n := by simp; omega
      have hat := a_ws_at (aC := aC) (base := base) (a_kd_lt hka (by have : ci < 13 := (List.getElem?_eq_some_iff.mp hcl).1; omega))
      rw [a_E_obj hka hcl] at hat
      have hrec := va_recv hK.1 hD.1 hcl hat
      rcases hcb with hcb | hcb
      · exact va_runV (C := C) ⟨hx, hb, hmL, hown, hts⟩ g5 ⟨hcb, hinst, hsel⟩ ⟨a_Wd_blind, hrec, hpre⟩ rfl hnn hL.1 hst (by rw [a_wd_map]; simpa [JFrame.monitorRoom] using hwd) hdec hroom
      · exact va_runVN (C := C) ⟨hx, hb, hmL, hown, hts⟩ g5 ⟨hcb, hinst, hsel⟩ ⟨a_Wd_blind, hrec, hpre⟩ rfl hnn hL.1 hst (by rw [a_wd_map]; simpa [JFrame.monitorRoom] using hwd) hdec hroom
    · simp only [Bool.and_eq_true, decide_eq_true_eq] at hc
      exact absurd hc.1 (by decide)
    · simp only [Bool.and_eq_true, decide_eq_true_eq] at hc
      exact absurd hc.1.1.1 (by decide)
    · simp only [Bool.and_eq_true, decide_eq_true_eq] at hc
      exact absurd hc.1.1.1.1 (by decide)
    · simp only [Bool.and_eq_true, decide_eq_true_eq] at hc
      exact absurd hc.1.1.1.1 (by decide)
    · simp only [Bool.and_eq_true, decide_eq_true_eq] at hc
      exact absurd hc.1.1.1.1 (by decide)
    · simp only [Bool.and_eq_true, decide_eq_true_eq] at hc
      exact absurd hc.1.1.1.1 (by decide)
    · simp only [Bool.and_eq_true, decide_eq_true_eq] at hc
      obtain ⟨⟨-, c1⟩, c2⟩ := hc
      subst c2
      rw [c1] at hown
      simp only [a_iw] at hr
      split at hr
      rotate_left
      · cases hr
      rename_i S1
      obtain ⟨h1, h2⟩ := a_if_inv hr
      have hwd : a_wd S1 ≤ 8 := Nat.le_of_ble_eq_true h1
      rw [a_tx_len] at h2
      have hw := nx _ _ _ h2
      refine ⟨hw.1, fun H locs cells slots ls hD hL => ?_⟩
      obtain ⟨hP, hS, hsz, hcn, hsn⟩ := id hD
      obtain ⟨hl1, hl2, -⟩ := id hw.1
      have hZ := hX.2.2.2.2
      refine va_calli (va_runV (As := []) (rest := S1.map (a_cV base b)) ⟨hx, hb, hmL, hown, hts⟩ (j_len l base b.2) (cwV 0 hts (j_gin hG j_tl0) rfl rfl rfl (by decide +kernel) ⟨by show 1 + 1 ≤ R.frames; omega, by show 8 + (1 + 11) + 20 ≤ R.locals; omega⟩) ⟨a_Tt_blind, j_recv hZ hS, fun U hU hW => ⟨rfl, hZ.go hS hU hW⟩⟩ rfl rfl hL.1 rfl (by rw [a_wd_map]; simpa [JFrame.monitorRoom] using hwd) hdec ⟨by omega, by omega⟩) hS (fun _ _ h => h.elim) (fun _ h => h.elim) (fun r u t H1 locs1 ht hvm hp _ hz1 hk1 hS1 => ?_)
      obtain rfl : r = nI 94 := hp
      exact hw.2 H1 locs1 _ _ ls ⟨hP.kept (fun k q hk => hk1 q.1 (hP k q hk).lt (fun z => z)), hS1, hsz, by omega, by omega⟩ hL
    · simp only [Bool.and_eq_true, decide_eq_true_eq] at hc
      obtain ⟨⟨-, c1⟩, c2⟩ := hc
      subst c2
      rw [c1] at hown
      simp only [a_iw] at hr
      split at hr
      rotate_left
      · cases hr
      rename_i i0 S1
      obtain ⟨h1, h2⟩ := a_if_inv hr
      have hwd : a_wd S1 ≤ 8 := Nat.le_of_ble_eq_true h1
      obtain ⟨x, h3, h4⟩ := a_fo_inv h2
      split at h3
      rotate_left
      · cases h3
      rename_i hin2
      have hin2 := a_in_vp hin2
      obtain ⟨k, hk, rfl⟩ := nI_of (fun q => hin2 (Or.inl q))
      rw [nI_clamp hk] at h3
      have hk9 : k < 94 := by
        have := (List.getElem?_eq_some_iff.mp h3).1
        rwa [a_tx_len] at this
      have hx9 : a_ch k = x := by
        unfold a_ch
        rw [List.getD_eq_getElem?_getD, h3]
        rfl
      subst hx9
      have hw := nx _ _ _ h4
      refine ⟨hw.1, fun H locs cells slots ls hD hL => ?_⟩
      obtain ⟨hP, hS, hsz, hcn, hsn⟩ := id hD
      obtain ⟨hl1, hl2, -⟩ := id hw.1
      have hZ := hX.2.2.2.2
      refine va_calli (va_runV (As := [.int (nI k)]) (rest := S1.map (a_cV base b)) ⟨hx, hb, hmL, hown, hts⟩ (j_chr l base b.2 hk9) (cwV 1 hts (j_gin hG j_tc0) rfl rfl rfl (by decide +kernel) ⟨by show 3 + 1 ≤ R.frames; omega, by show 8 + (2 + 11) + 64 ≤ R.locals; omega⟩) ⟨a_Tt_blind, j_recv hZ hS, fun U hU hW => ⟨rfl, hZ.go hS hU hW⟩⟩ rfl rfl hL.1 rfl (by rw [a_wd_map]; simpa [JFrame.monitorRoom] using hwd) hdec ⟨by omega, by omega⟩) hS (fun _ _ h => h.elim) (fun _ h => h.elim) (fun r u t H1 locs1 ht hvm hp _ hz1 hk1 hS1 => ?_)
      obtain rfl : r = a_ch k := hp
      exact hw.2 H1 locs1 _ _ ls ⟨hP.kept (fun k q hk => hk1 q.1 (hP k q hk).lt (fun z => z)), hS1, hsz, by omega, by omega⟩ hL
    · cases hr
    · cases hc
  case invokestatic idx =>
    have hlen := of_decide_eq_true hlen
    subst hlen
    simp only [a_c1] at hc
    unfold a_cv at hc
    split at hc
    · rename_i y n t md wl ws wi
      simp only [Bool.and_eq_true, decide_eq_true_eq] at hc
      obtain ⟨-, hc⟩ := hc
      split at hc
      rotate_left
      · cases hc
      rename_i z mL rt htn
      simp only [Bool.and_eq_true, decide_eq_true_eq] at hc
      obtain ⟨⟨⟨⟨c1, c2⟩, c3⟩, c4⟩, c5⟩ := hc
      simp only [a_iw] at hr
      obtain ⟨h1, h2⟩ := a_if_inv hr
      simp only [Bool.and_eq_true] at h1
      have hsl : n ≤ S.length := Nat.le_of_ble_eq_true h1.1
      have hwd : a_wd (S.drop n) ≤ 8 := Nat.le_of_ble_eq_true h1.2
      obtain ⟨h3, v1, h4, h5, h6, -⟩ := a_bk_inv h2
      obtain ⟨g1, ⟨bytes, g3, g4, g5⟩ | ⟨q1, -, bytes, hh, g3, g4, g5⟩⟩ := hM _ _ _ _ _ h4 h6 _ _ _ htn
      rotate_left
      · have hw := nx _ _ _ h5
        refine ⟨g1.trans hw.1, fun H locs cells slots ls hD hL => ?_⟩
        have hst : S.map (a_cV base b) = (((S.take n).reverse).map (a_cV base b)).reverse ++ (S.drop n).map (a_cV base b) := by
          rw [← List.map_reverse, List.reverse_reverse, ← List.map_append, List.take_append_drop]
        have hnn : (((S.take n).reverse).map (a_cV base b)).length = n := by simp; omega
        unfold a_ml at c1
        split at c1
        · exact a_calW F hRc hRs g1 hw.1 g3 g4 c1 c2 c3 c4 hD (rest := S.drop n) (fun hcb hpre hroom => vx_runSW ⟨hx, hb, hmL, hown, hts⟩ g5 hcb ⟨a_Wd_blind, hpre⟩ rfl hnn hL.1 hst (by rw [a_wd_map]; simpa [JFrame.monitorRoom] using hwd) hdec hroom) hw hL
        · exact absurd q1 (a_nw_law (of_decide_eq_true c1))
      have hw := nx _ _ _ h5
      refine ⟨g1.trans hw.1, fun H locs cells slots ls hD hL => ?_⟩
      refine a_cal F hRc hRs g1 hw.1 g3 g4 g5 c1 c3 c4 hD hL.1 (rest := S.drop n) (fun hcb hpre hroom => ?_) hw hL
      have hst : S.map (a_cV base b) = (((S.take n).reverse).map (a_cV base b)).reverse ++ (S.drop n).map (a_cV base b) := by
        rw [← List.map_reverse, List.reverse_reverse, ← List.map_append, List.take_append_drop]
      have hstat : (Cond.static z).before args s = true := hts _ (hG _ (a_lk_inv c2))
      have hnn : (((S.take n).reverse).map (a_cV base b)).length = n := by simp; omega
      rcases hcb with hcb | hcb
      · exact va_runS ⟨hx, hb, hmL, hown, hts⟩ g5 ⟨hcb, hstat⟩ ⟨a_Wd_blind, hpre⟩ rfl hnn hL.1 hst (by rw [a_wd_map]; simpa [JFrame.monitorRoom] using hwd) hdec hroom
      · exact va_runSN ⟨hx, hb, hmL, hown, hts⟩ g5 ⟨hcb, hstat, trivial⟩ ⟨a_Wd_blind, hpre⟩ rfl hnn hL.1 hst (by rw [a_wd_map]; simpa [JFrame.monitorRoom] using hwd) hdec hroom
    · simp only [Bool.and_eq_true, decide_eq_true_eq] at hc
      exact absurd hc.1 (by decide)
    · simp only [Bool.and_eq_true, decide_eq_true_eq] at hc
      exact absurd hc.1 (by decide)
    · simp only [Bool.and_eq_true, decide_eq_true_eq] at hc
      exact absurd hc.1.1.1 (by decide)
    · rename_i wl w1 w2 wi
      simp only [Bool.and_eq_true, decide_eq_true_eq] at hc
      obtain ⟨⟨⟨⟨-, c1⟩, c2⟩, c3⟩, c4⟩ := hc
      simp only [a_iw] at hr
      split at hr
      rotate_left
      · cases hr
      obtain ⟨h1, h2⟩ := a_if_inv hr
      have hwd := Nat.le_of_ble_eq_true h1
      obtain ⟨k1, h2⟩ := a_kc_inv h2
      obtain ⟨k2, h2⟩ := a_kc_inv h2
      obtain ⟨h3, h4⟩ := a_if_inv h2
      simp only [Bool.and_eq_true] at h3
      obtain ⟨⟨⟨⟨s1, s2⟩, s3⟩, s4⟩, s5⟩ := h3
      obtain ⟨hle, hw⟩ := nx _ _ _ h4
      refine ⟨hle, fun H locs cells slots ls hD hL => ?_⟩
      exact a_copi F hD hL.1 c1 c2 c3 c4 k1 k2 (a_nn s1) (a_nn s2) (a_nn s3) (Nat.le_of_ble_eq_true s4) (Nat.le_of_ble_eq_true s5) (by rw [a_wd_map]; exact hwd) hdec fun H1 locs1 hD1 => hw H1 locs1 cells slots ls hD1 hL
    · rename_i wl w1 w2 wi
      simp only [Bool.and_eq_true, decide_eq_true_eq] at hc
      obtain ⟨⟨⟨⟨-, c1⟩, c2⟩, c3⟩, c4⟩ := hc
      simp only [a_iw] at hr
      split at hr
      rotate_left
      · cases hr
      obtain ⟨h1, h2⟩ := a_if_inv hr
      have hwd := Nat.le_of_ble_eq_true h1
      obtain ⟨k1, h2⟩ := a_kc_inv h2
      obtain ⟨k2, h2⟩ := a_kc_inv h2
      obtain ⟨h3, h4⟩ := a_if_inv h2
      simp only [Bool.and_eq_true] at h3
      obtain ⟨⟨⟨⟨s1, s2⟩, s3⟩, s4⟩, s5⟩ := h3
      obtain ⟨hle, hw⟩ := nx _ _ _ h4
      refine ⟨hle, fun H locs cells slots ls hD hL => ?_⟩
      exact a_copj F hD hL.1 c1 c2 c3 c4 k1 k2 (a_nn s1) (a_nn s2) (a_nn s3) (Nat.le_of_ble_eq_true s4) (Nat.le_of_ble_eq_true s5) (by rw [a_wd_map]; exact hwd) hdec fun H1 locs1 hD1 => hw H1 locs1 cells slots ls hD1 hL
    · rename_i wl w1 wi wc
      simp only [Bool.and_eq_true, decide_eq_true_eq] at hc
      obtain ⟨⟨⟨⟨-, c1⟩, c2⟩, c3⟩, c4⟩ := hc
      simp only [a_iw] at hr
      obtain ⟨y, S1, rfl, h1⟩ := a_pi_inv hr
      obtain ⟨x, S2, rfl, h2⟩ := a_pi_inv h1
      obtain ⟨h3, h4⟩ := a_if_inv h2
      have hwd := Nat.le_of_ble_eq_true h3
      obtain ⟨hle, hw⟩ := nx _ _ _ h4
      refine ⟨hle, fun H locs cells slots ls hD hL => ?_⟩
      obtain ⟨-, -, -, hcn, hsn⟩ := id hD
      obtain ⟨hl1, hl2, -⟩ := id hle
      have hw8 : ((S2.map (a_cV base b)).map fun v => v.category).sum ≤ 8 := by rw [a_wd_map]; exact hwd
      exact va_mmin hx hb (hmL.trans hL.1.symm) hown (hts _ (hG _ (a_lk_inv c1))) (hts _ (hG _ (a_lk_inv c2))) (hts _ (hG _ (a_lk_inv c3))) (hts _ (hG _ (a_lk_inv c4))) (by omega) (by omega) (by omega) (by omega) hdec (hw H locs cells slots ls hD hL)
    · rename_i wl w1 wi wc
      simp only [Bool.and_eq_true, decide_eq_true_eq] at hc
      obtain ⟨⟨⟨⟨-, c1⟩, c2⟩, c3⟩, c4⟩ := hc
      simp only [a_iw] at hr
      obtain ⟨y, S1, rfl, h1⟩ := a_pi_inv hr
      obtain ⟨x, S2, rfl, h2⟩ := a_pi_inv h1
      obtain ⟨h3, h4⟩ := a_if_inv h2
      have hwd := Nat.le_of_ble_eq_true h3
      obtain ⟨hle, hw⟩ := nx _ _ _ h4
      refine ⟨hle, fun H locs cells slots ls hD hL => ?_⟩
      obtain ⟨-, -, -, hcn, hsn⟩ := id hD
      obtain ⟨hl1, hl2, -⟩ := id hle
      have hw8 : ((S2.map (a_cV base b)).map fun v => v.category).sum ≤ 8 := by rw [a_wd_map]; exact hwd
      exact va_mmax hx hb (hmL.trans hL.1.symm) hown (hts _ (hG _ (a_lk_inv c1))) (hts _ (hG _ (a_lk_inv c2))) (hts _ (hG _ (a_lk_inv c3))) (hts _ (hG _ (a_lk_inv c4))) (by omega) (by omega) (by omega) (by omega) hdec (hw H locs cells slots ls hD hL)
    · simp only [Bool.and_eq_true, decide_eq_true_eq] at hc
      exact absurd hc.1.1 (by decide)
    · simp only [Bool.and_eq_true, decide_eq_true_eq] at hc
      exact absurd hc.1.1 (by decide)
    · cases hr
    · cases hc
  case invokespecial idx =>
    have hlen := of_decide_eq_true hlen
    subst hlen
    simp only [a_c1] at hc
    unfold a_cv at hc
    split at hc
    · simp only [Bool.and_eq_true, decide_eq_true_eq] at hc
      exact absurd hc.1 (by decide)
    · simp only [Bool.and_eq_true, decide_eq_true_eq] at hc
      exact absurd hc.1 (by decide)
    · rename_i y n md wl w1 wi
      simp only [Bool.and_eq_true, decide_eq_true_eq] at hc
      obtain ⟨-, hc⟩ := hc
      split at hc
      rotate_left
      · cases hc
      rename_i z mL rt htn
      simp only [Bool.and_eq_true, decide_eq_true_eq] at hc
      obtain ⟨⟨⟨⟨⟨c1, c2⟩, c3⟩, c4⟩, c5⟩, c6⟩ := hc
      subst c6
      simp only [a_iw] at hr
      split at hr
      rotate_left
      · cases hr
      rename_i a S1 hS1
      obtain ⟨h1, h2⟩ := a_if_inv hr
      have hwd : a_wd S1 ≤ 8 := Nat.le_of_ble_eq_true h1
      obtain ⟨h3, v1, h4, h5, h6, h7⟩ := a_bk_inv h2
      have hv1 : v1 = none := by rcases h7 with ⟨-, q⟩ | ⟨q, -⟩ | ⟨q, -⟩ <;> first | exact q | cases q
      subst hv1
      obtain ⟨g1, ⟨bytes, g3, g4, g5⟩ | ⟨-, q1, -⟩⟩ := hM _ _ _ _ _ h4 h6 _ _ _ htn
      rotate_left
      · exact absurd c5 q1
      have hw := nx _ _ _ h5
      have hsl : n < S.length := by
        rcases Nat.lt_or_ge n S.length with q | q
        · exact q
        · rw [List.drop_eq_nil_of_le q] at hS1; cases hS1
      refine ⟨g1.trans hw.1, fun H locs cells slots ls hD hL => ?_⟩
      refine a_cal F hRc hRs g1 hw.1 g3 g4 g5 c1 c3 c4 hD hL.1 (rest := S1) (fun hcb hpre hroom => ?_) hw hL
      have hst : S.map (a_cV base b) = (((S.take n).reverse).map (a_cV base b)).reverse ++ .ref (base + a) :: S1.map (a_cV base b) := by
        rw [← List.map_reverse, List.reverse_reverse]
        conv => lhs; rw [← List.take_append_drop n S, hS1]
        rw [List.map_append]
        rfl
      have hinst : (Cond.instanceMethod z).before args s = true := hts _ (hG _ (a_lk_inv c2))
      have hnn : (((S.take n).reverse).map (a_cV base b)).length = n := by simp; omega
      rcases hcb with hcb | hcb
      · exact va_runI ⟨hx, hb, hmL, hown, hts⟩ g5 ⟨hcb, c5, hinst⟩ ⟨a_Wd_blind, hpre⟩ rfl hnn hL.1 hst (by rw [a_wd_map]; simpa [JFrame.monitorRoom] using hwd) hdec hroom
      · exact va_runIN ⟨hx, hb, hmL, hown, hts⟩ g5 ⟨hcb, c5, hinst⟩ ⟨a_Wd_blind, hpre⟩ rfl hnn hL.1 hst (by rw [a_wd_map]; simpa [JFrame.monitorRoom] using hwd) hdec hroom
    · rename_i wl w1 w2
      simp only [Bool.and_eq_true, decide_eq_true_eq] at hc
      obtain ⟨⟨⟨-, c1⟩, c2⟩, c3⟩ := hc
      simp only [a_iw] at hr
      obtain ⟨a, S1, rfl, h1⟩ := a_pa_inv hr
      obtain ⟨h2, h3⟩ := a_if_inv h1
      have hwd : a_wd S1 ≤ 8 := Nat.le_of_ble_eq_true h2
      obtain ⟨hle, hw⟩ := nx _ _ _ h3
      refine ⟨hle, fun H locs cells slots ls hD hL => ?_⟩
      have hw8 : ((S1.map (a_cV base b)).map fun v => v.category).sum ≤ 8 := by rw [a_wd_map]; exact hwd
      exact W.objInit hx hb hown (hts _ (hG _ (a_lk_inv c1))) (hts _ (hG _ (a_lk_inv c2))) (hts _ (hG _ (a_lk_inv c3))) rfl (hL.1.trans hmL.symm) rfl hdec (by omega) (by simp only [JFrame.monitorRoom]; omega) (hw H locs cells slots ls hD hL)
    · simp only [Bool.and_eq_true, decide_eq_true_eq] at hc
      exact absurd hc.1.1.1.1 (by decide)
    · simp only [Bool.and_eq_true, decide_eq_true_eq] at hc
      exact absurd hc.1.1.1.1 (by decide)
    · simp only [Bool.and_eq_true, decide_eq_true_eq] at hc
      exact absurd hc.1.1.1.1 (by decide)
    · simp only [Bool.and_eq_true, decide_eq_true_eq] at hc
      exact absurd hc.1.1.1.1 (by decide)
    · simp only [Bool.and_eq_true, decide_eq_true_eq] at hc
      exact absurd hc.1.1 (by decide)
    · simp only [Bool.and_eq_true, decide_eq_true_eq] at hc
      exact absurd hc.1.1 (by decide)
    · cases hr
    · cases hc
  case ireturn =>
    have hlen := of_decide_eq_true hlen
    subst hlen
    simp only [a_c1, Bool.and_eq_true, decide_eq_true_eq] at hc
    obtain ⟨hc, hc2⟩ := hc
    have hc2 := Nat.le_of_ble_eq_true hc2
    split at hr
    · rename_i x
      cases hr
      refine ⟨a_le.refl, fun H locs cells slots ls hD hL => hf2 x rfl hc2 (fun z => ?_) H locs cells slots ls pc hD hdec⟩
      rw [z] at hc
      simp at hc
    · rename_i x
      split at hr
      · rename_i hx1
        cases hr
        exact ⟨a_le.refl, fun H locs cells slots ls hD hL => hf2 x rfl hc2 (fun _ => hx1) H locs cells slots ls pc hD hdec⟩
      · cases hr
    · cases hr
  case return_ =>
    have hlen := of_decide_eq_true hlen
    subst hlen
    simp only [a_c1, decide_eq_true_eq] at hc
    split at hr
    · cases hr
      exact ⟨a_le.refl, fun H locs cells slots ls hD hL => hf1 rfl hc H locs cells slots ls pc hD hdec⟩
    · cases hr
end SP
