/-! the heap only grows: of the abstract machine alone -/
section MO
variable {hf : A_H} {v : Option Value} {X : Nat × (Nat → Int32)} {tx : List Int32} {M : Nat → List Value → A_H → A_R}
theorem a_mkle {h : A_H} {c : A_C} {w : Nat} (h1 : a_le (a_mk h c w) hf) : a_le h hf := a_mk_le.trans h1
set_option maxHeartbeats 4000000 in
theorem a_st_le {ag : Nat → List Value → A_H → A_R} {k : Nat → List Value → List Value → A_H → A_R} (hk : ∀ n L S h1, k n L S h1 = some (hf, v) → a_le h1 hf) (hg : ∀ t L h1, ag t L h1 = some (hf, v) → a_le h1 hf) (hM : ∀ y vs h h1 w, M y vs h = some (h1, w) → a_le h h1)
    {i : Instr} {aux : List Nat} {L S : List Value} {h : A_H} (hr : a_st X tx M ag k i aux L S h = some (hf, v)) : a_le h hf := by
  have hj : ∀ aux L S h, a_jp ag k aux L S h = some (hf, v) → a_le h hf := by
    intro aux L S h hr
    unfold a_jp at hr
    split at hr
    · exact hk _ _ _ _ hr
    · split at hr
      · exact hg _ _ _ hr
      · cases hr
    · cases hr
  have hb : ∀ t r f, (∀ w h1, r = some (h1, w) → a_le h h1) → (∀ w h1, f w h1 = some (hf, v) → a_le h1 hf) → a_bk t r f = some (hf, v) → a_le h hf := by
    intro t r f h1 h2 hr
    obtain ⟨g, w, e1, e2, -⟩ := a_bk_inv hr
    exact (h1 w g e1).trans (h2 w g e2)
  have hiw : ∀ aux L S, a_iw M k tx aux L S h = some (hf, v) → a_le h hf := by
    intro aux L S hr
    unfold a_iw at hr
    split at hr
    · exact hb _ _ _ (fun w h1 e => hM _ _ _ _ _ e) (fun w h1 e => hk _ _ _ _ e) (a_if_inv hr).2
    · split at hr
      · exact hb _ _ _ (fun w h1 e => hM _ _ _ _ _ e) (fun w h1 e => hk _ _ _ _ e) (a_kc_inv (a_if_inv hr).2).2
      · cases hr
    · split at hr
      · exact hb _ _ _ (fun w h1 e => hM _ _ _ _ _ e) (fun w h1 e => hk _ _ _ _ e) (a_if_inv hr).2
      · cases hr
    · obtain ⟨y, S1, rfl, h1⟩ := a_pa_inv hr
      exact hk _ _ _ _ (a_if_inv h1).2
    · split at hr
      · have q := hk _ _ _ _ (a_if_inv (a_kc_inv (a_kc_inv (a_if_inv hr).2).2).2).2
        exact q
      · cases hr
    · split at hr
      · have q := hk _ _ _ _ (a_if_inv (a_kc_inv (a_kc_inv (a_if_inv hr).2).2).2).2
        exact q
      · cases hr
    · obtain ⟨y, S1, rfl, h1⟩ := a_pi_inv hr
      obtain ⟨x, S2, rfl, h2⟩ := a_pi_inv h1
      exact hk _ _ _ _ (a_if_inv h2).2
    · obtain ⟨y, S1, rfl, h1⟩ := a_pi_inv hr
      obtain ⟨x, S2, rfl, h2⟩ := a_pi_inv h1
      exact hk _ _ _ _ (a_if_inv h2).2
    · split at hr
      · exact hk _ _ _ _ (a_if_inv hr).2
      · cases hr
    · split at hr
      · obtain ⟨y, -, h1⟩ := a_fo_inv (a_if_inv hr).2
        exact hk _ _ _ _ h1
      · cases hr
    · cases hr
  cases i
  case ifCond c off =>
    simp only [a_st, a_pi, a_ic] at hr
    cases c <;> (repeat' split at hr) <;> first | (cases hr; done) | exact hj _ _ _ _ hr | exact hk _ _ _ _ hr
  case if_icmp c off =>
    simp only [a_st, a_pi, a_ic] at hr
    cases c <;> (repeat' split at hr) <;> first | (cases hr; done) | exact hj _ _ _ _ hr | exact hk _ _ _ _ hr
  case goto off => exact hj _ _ _ _ hr
  case invokevirtual n => exact hiw _ _ _ hr
  case invokestatic n => exact hiw _ _ _ hr
  case invokespecial n => exact hiw _ _ _ hr
  case tableswitch a b c d =>
    simp only [a_st] at hr
    split at hr
    · obtain ⟨x, S1, rfl, h1⟩ := a_pi_inv hr
      unfold a_ts at h1
      split at h1
      · exact hk _ _ _ _ h1
      · rw [List.getElem?_map] at h1
        split at h1
        · rename_i r1 e1
          obtain ⟨n, -, rfl⟩ := Option.map_eq_some_iff.mp e1
          exact hk _ _ _ _ h1
        · exact hk _ _ _ _ h1
    · cases hr
  case newarray ty =>
    simp only [a_st, a_na] at hr
    obtain ⟨x, S1, rfl, h1⟩ := a_pi_inv hr
    have h1 := (a_if_inv h1).2
    cases ty <;> first | exact a_mkle (hk _ _ _ _ h1) | (cases h1; done)
  case anewarray n =>
    simp only [a_st] at hr
    split at hr
    · obtain ⟨x, S1, rfl, h1⟩ := a_pi_inv hr
      exact a_mkle (hk _ _ _ _ (a_if_inv h1).2)
    · cases hr
  case new n =>
    simp only [a_st] at hr
    split at hr
    · exact a_mkle (hk _ _ _ _ (a_if_inv hr).2)
    · split at hr
      · cases hr
        exact ⟨Nat.le_add_right _ _, Nat.le_add_right _ _, fun z => (by cases z)⟩
      · cases hr
    · cases hr
  case ireturn =>
    simp only [a_st] at hr
    repeat' split at hr
    all_goals first | (cases hr; exact a_le.refl) | (cases hr; done)
  case return_ =>
    simp only [a_st] at hr
    repeat' split at hr
    all_goals first | (cases hr; exact a_le.refl) | (cases hr; done)
  all_goals simp only [a_st, a_gf, a_pf, a_al, a_an, a_bl, a_bs, a_aa, a_as, a_kc, a_ix, a_if, a_fo, a_la, a_li, a_ll, a_s1, a_s2, a_pi, a_pl, a_pa] at hr
  all_goals (repeat' split at hr)
  all_goals first | (cases hr; done) | (have q := hk _ _ _ _ hr; exact q)
theorem a_rn_le {ag : Nat → List Value → A_H → A_R} (hg : ∀ t L h1, ag t L h1 = some (hf, v) → a_le h1 hf) (hM : ∀ y vs h h1 w, M y vs h = some (h1, w) → a_le h h1) : ∀ (r : List A_O) (n : Nat) (L S : List Value) (h : A_H), a_rn X tx M ag r n L S h = some (hf, v) → a_le h hf := by
  intro r
  induction r with
  | nil => intro n L S h hr; simp [a_rn] at hr
  | cons o r ih =>
    intro n L S h hr
    cases n with
    | succ n => exact ih n L S h hr
    | zero => exact a_st_le (k := a_rn X tx M ag r) ih hg hM hr
end MO
theorem a_go_le {hf : A_H} {v : Option Value} {X : Nat × (Nat → Int32)} {tx : List Int32} {M : Nat → List Value → A_H → A_R} {ops : List A_O} (hM : ∀ y vs h h1 w, M y vs h = some (h1, w) → a_le h h1) : ∀ (f t : Nat) (L : List Value) (h : A_H), a_go X tx M ops f t L h = some (hf, v) → a_le h hf := by
  intro f
  induction f with
  | zero => intro t L h hr; cases hr
  | succ f ih => intro t L h hr; exact a_rn_le ih hM _ _ _ _ _ hr
theorem a_ex_le {X : Nat × (Nat → Int32)} {tx : List Int32} {T : List A_M} : ∀ (d y : Nat) (vs : List Value) (h h1 : A_H) (w : Option Value), a_ex X tx T d y vs h = some (h1, w) → a_le h h1 := by
  intro d
  induction d with
  | zero => intro y vs h h1 w hr; cases hr
  | succ d ih =>
    intro y vs h h1 w hr
    unfold a_ex at hr
    split at hr
    · exact a_go_le ih _ _ _ _ (a_if_inv hr).2
    · cases hr
