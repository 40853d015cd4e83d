/-! what it takes that a piece of the abstract machine answers -/
theorem a_if_inv {b : Bool} {r : A_R} {x : A_H × Option Value} (h : a_if b r = some x) : b = true ∧ r = some x := by
  cases b with
  | true => exact ⟨rfl, h⟩
  | false => cases h
theorem a_pi_inv {S : List Value} {f : Int32 → List Value → A_R} {x : A_H × Option Value} (h : a_pi S f = some x) : ∃ y S', S = .int y :: S' ∧ f y S' = some x := by
  unfold a_pi at h
  split at h
  · exact ⟨_, _, rfl, h⟩
  · cases h
theorem a_pl_inv {S : List Value} {f : Int64 → List Value → A_R} {x : A_H × Option Value} (h : a_pl S f = some x) : ∃ y S', S = .long y :: S' ∧ f y S' = some x := by
  unfold a_pl at h
  split at h
  · exact ⟨_, _, rfl, h⟩
  · cases h
theorem a_pa_inv {S : List Value} {f : Nat → List Value → A_R} {x : A_H × Option Value} (h : a_pa S f = some x) : ∃ y S', S = .ref y :: S' ∧ f y S' = some x := by
  unfold a_pa at h
  split at h
  · exact ⟨_, _, rfl, h⟩
  · cases h
theorem a_li_inv {L : List Value} {n : Nat} {f : Int32 → A_R} {x : A_H × Option Value} (h : a_li L n f = some x) : ∃ y, L[n]? = some (.int y) ∧ f y = some x := by
  unfold a_li at h
  split at h
  · exact ⟨_, by assumption, h⟩
  · cases h
theorem a_ll_inv {L : List Value} {n : Nat} {f : Int64 → A_R} {x : A_H × Option Value} (h : a_ll L n f = some x) : ∃ y, L[n]? = some (.long y) ∧ f y = some x := by
  unfold a_ll at h
  split at h
  · exact ⟨_, by assumption, h⟩
  · cases h
theorem a_la_inv {L : List Value} {n : Nat} {f : Value → A_R} {x : A_H × Option Value} (h : a_la L n f = some x) : (∃ y, L[n]? = some (.ref y) ∧ f (.ref y) = some x) ∨ (L[n]? = some (.retAddr 1) ∧ f (.retAddr 1) = some x) := by
  unfold a_la at h
  split at h
  · exact Or.inl ⟨_, by assumption, h⟩
  · exact Or.inr ⟨by assumption, h⟩
  · cases h
theorem a_s1_inv {L : List Value} {n : Nat} {v : Value} {f : List Value → A_R} {x : A_H × Option Value} (h : a_s1 L n v f = some x) : n < L.length ∧ a_nl L n = true ∧ f (L.set n v) = some x := by
  obtain ⟨h1, h2⟩ := a_if_inv h
  rw [Bool.and_eq_true] at h1
  exact ⟨by have := h1.1; simp only [Nat.blt_eq] at this; exact this, h1.2, h2⟩
theorem a_s2_inv {L : List Value} {n : Nat} {v : Value} {f : List Value → A_R} {x : A_H × Option Value} (h : a_s2 L n v f = some x) : n + 1 < L.length ∧ a_nl L n = true ∧ f ((L.set n v).set (n + 1) (.retAddr 0)) = some x := by
  obtain ⟨h1, h2⟩ := a_if_inv h
  rw [Bool.and_eq_true] at h1
  exact ⟨by have := h1.1; simp only [Nat.blt_eq] at this; exact this, h1.2, h2⟩
theorem a_fo_inv {α : Type} {o : Option α} {f : α → A_R} {x : A_H × Option Value} (h : a_fo o f = some x) : ∃ y, o = some y ∧ f y = some x := by
  cases o with
  | none => cases h
  | some y => exact ⟨y, rfl, h⟩
theorem a_kc_inv {h : A_H} {a c : Nat} {r : A_R} {x : A_H × Option Value} (hh : a_kc h a c r = some x) : a_kd h a = c ∧ r = some x := by
  unfold a_kc at hh
  split at hh
  · exact ⟨by assumption, hh⟩
  · cases hh
theorem a_in_vp {i : Int32} {n : Nat} (h : a_in i n = true) : vp_in i n := by
  unfold a_in at h
  rw [Bool.and_eq_true, decide_eq_true_eq, decide_eq_true_eq] at h
  exact vp_in_iff.mpr h
theorem a_ix_inv {h : A_H} {a : Nat} {i : Int32} {r : A_R} {x : A_H × Option Value} (hh : a_ix h a i r = some x) : vp_in i (a_ln h a) ∧ r = some x := by
  obtain ⟨h1, h2⟩ := a_if_inv hh
  exact ⟨a_in_vp h1, h2⟩
theorem a_bk_inv {t : Nat} {r : A_R} {f : Option Value → A_H → A_R} {x : A_H × Option Value} (h : a_bk t r f = some x) : ∃ h1 v, r = some (h1, v) ∧ f v h1 = some x ∧ v ≠ some (.retAddr 0) ∧ ((t = 0 ∧ v = none) ∨ (t = 1 ∧ ∃ y, v = some (.int y)) ∨ (t = 2 ∧ ∃ y, v = some (.long y))) := by
  unfold a_bk at h
  split at h
  · unfold a_b0 at h
    split at h
    · exact ⟨_, _, rfl, h, by simp, Or.inl ⟨rfl, rfl⟩⟩
    · cases h
  · unfold a_b1 at h
    split at h
    · exact ⟨_, _, rfl, h, by simp, Or.inr (Or.inl ⟨rfl, _, rfl⟩)⟩
    · cases h
  · unfold a_b2 at h
    split at h
    · exact ⟨_, _, rfl, h, by simp, Or.inr (Or.inr ⟨rfl, _, rfl⟩)⟩
    · cases h
  · cases h
theorem a_lk_inv {i : Nat} {w : Cond} (h : a_lk i w = true) : w ∈ a_G := by
  unfold a_lk at h
  rw [Bool.and_eq_true, decide_eq_true_eq] at h
  exact List.mem_filter.mpr ⟨List.mem_of_getElem? h.1, h.2⟩
/-- how many cells and slots were made -/
def a_nc (h : A_H) : Nat := h.2.2.2.1.1
def a_ns (h : A_H) : Nat := h.2.2.2.1.2
def a_le (h g : A_H) : Prop := a_nc h ≤ a_nc g ∧ a_ns h ≤ a_ns g ∧ (g.2.2.2.2 = false → h.2.2.2.2 = false)
theorem a_le.refl {h : A_H} : a_le h h := ⟨Nat.le_refl _, Nat.le_refl _, id⟩
theorem a_le.trans {h g k : A_H} (h1 : a_le h g) (h2 : a_le g k) : a_le h k := ⟨Nat.le_trans h1.1 h2.1, Nat.le_trans h1.2.1 h2.2.1, fun z => h1.2.2 (h2.2.2 z)⟩
/-- the class and array tables that the world stands on -/
def a_tys (aC : Nat → ClassId) : List (ClassId × FieldType) := [(aC 0, .int), (aC 1, .long), (aC 2, .boolean), (aC 3, .byte), (aC 4, .object "EndingMarket$Affairs"), (aC 5, .object "EndingMarket$Image")]
def a_K (D : va_G) (aC : Nat → ClassId) (U : State) : Prop := va_K D a_cl (a_tys aC) U ∧ (∀ w ∈ a_nw, va_Nw w U) ∧ va_AO "EndingMarket$Affairs" U ∧ va_AO "EndingMarket$Image" U
def a_wk (w : Cond) : Bool := match w with
  | .fieldLinkNest _ _ _ _ _ _ => true
  | .methodLinkNest _ _ _ _ => true
  | .castable _ _ => true
  | .declares _ => true
  | _ => false
theorem a_nw_k : ∀ w ∈ a_nw, a_wk w = true := by decide +kernel
theorem a_Nw_warm {w : Cond} {s U : State} (hw : a_wk w = true) (hW : s.WarmedH U.vm) (h : va_Nw w s) : va_Nw w U := by
  cases w <;> first | exact va_Nw.warmF hW h | exact va_Nw.warmM hW h | exact va_Nw.warmC hW h | exact va_Nw.warmD hW h | (simp [a_wk] at hw)
theorem a_K.warm {D : va_G} {aC : Nat → ClassId} {s U : State} (hW : s.WarmedH U.vm) (h : a_K D aC s) : a_K D aC U :=
  ⟨va_K.moved hW.alike h.1, fun w hw => a_Nw_warm (a_nw_k w hw) hW (h.2.1 w hw), va_AO.moved hW.alike h.2.2.1, va_AO.moved hW.alike h.2.2.2⟩
theorem a_K.same {D : va_G} {aC : Nat → ClassId} {u U : State} (hv : u.vm = U.vm) (h : a_K D aC u) : a_K D aC U := by
  have ha : u.vm.Alike U.vm := by rw [hv]; exact Vm.Alike.refl _
  refine ⟨va_K.moved ha h.1, fun w hw => va_Nw.same ?_ hv (h.2.1 w hw), va_AO.moved ha h.2.2.1, va_AO.moved ha h.2.2.2⟩
  have := a_nw_k w hw
  cases w <;> first | rfl | (simp [a_wk] at this)
/-- the world that a method starts from -/
def a_Wd (D : va_G) (aC : Nat → ClassId) (base : Nat) (b : Nat × Nat) (X : Nat × (Nat → Int32)) (h : A_H) (U : State) : Prop :=
  va_P D a_cl (a_ws aC base h) U.heap ∧ a_K D aC U ∧ a_X base b X U U.heap ∧ b.1 < base ∧ base ≤ U.heap.size ∧ (h.2.2.2.2 = false → h.1.length = a_nc h ∧ U.heap.size = base + a_nc h)
/-- and the one that it leaves -/
def a_Qc (D : va_G) (aC : Nat → ClassId) (base : Nat) (b : Nat × Nat) (h : A_H) (v : Option Value) : Array Value → State → Outcome → State → Prop := fun _ st oc t =>
  oc = .returned (v.map (a_cV base b)) ∧ va_P D a_cl (a_ws aC base h) t.heap ∧ (h.2.2.2.2 = false → h.1.length = a_nc h) ∧ va_F (fun q => base ≤ q) st t
def a_rm (d mc ms : Nat) : Room := { frames := d + 8, cells := mc, slots := ms, locals := 60 * (d + 8) }
theorem a_rm_f {d mc ms : Nat} : (a_rm d mc ms).frames = d + 8 := rfl
theorem a_rm_l {d mc ms : Nat} : (a_rm d mc ms).locals = 60 * (d + 8) := rfl
theorem a_rm_fit {d mc ms mL : Nat} {R : Room} (hfr : d + 9 ≤ R.frames) (hlo : 60 * (d + 9) ≤ R.locals) (hml : mL ≤ 40) : (a_rm d mc ms).frames + 1 ≤ R.frames ∧ 8 + (mL + 11) + (a_rm d mc ms).locals ≤ R.locals := by
  have e1 := a_rm_f (d := d) (mc := mc) (ms := ms)
  have e2 := a_rm_l (d := d) (mc := mc) (ms := ms)
  generalize (a_rm d mc ms).frames = f at e1 ⊢
  generalize (a_rm d mc ms).locals = g at e2 ⊢
  constructor <;> omega
theorem a_Wd_blind {D : va_G} {aC : Nat → ClassId} {base : Nat} {b : Nat × Nat} {X : Nat × (Nat → Int32)} {h : A_H} {av : List Value} : FrameBlind (va_Pc av (a_Wd D aC base b X h)) := by
  intro a U g mk q
  obtain ⟨q0, h1, h2, h3, h4, h5, h6⟩ := q
  exact ⟨q0, h1, a_K.same (u := U) (U := U.calling g mk a) rfl h2, a_X.same (u := U) (U := U.calling g mk a) rfl h3, h4, h5, h6⟩
