/-! THE LAW'S WALK -/
theorem s_ret : decode code 1422 = .ok (.ireturn, 1) := by decide +kernel
/-- the walk of the law's body -/
theorem whole_start {p : Program} {e : Env} {s : State} {m : MethodId} {below : List Frame} {meth : Method} {c : Code} (l : Launch) (hflags : l.flags = flags0) {b L : Nat} {xs : Nat → Int32} (hL : L ≤ 3072) (C0 : lw_At p s m meth c b L xs) : W p l e room_1 s m #[Value.ref b] below meth c s.heap [] 0 0 (lw_Z below #[Value.ref b] s) (entryFrame m ([Value.ref b] : List Value).toArray 7) := by
  obtain ⟨hx, hb, hr, hml, hown, hts, hX, hbl, hlk, hgv⟩ := C0
  have hst : l.stackTraces = false := by
    unfold Launch.stackTraces
    rw [hflags]
    decide +kernel
  obtain ⟨D, aC, hK⟩ := s_K hts
  obtain ⟨sa, hZ⟩ := s_Z hts hgv
  have hG : ∀ w ∈ a_G, w ∈ lw_tbl := fun w hw => (List.mem_filter.mp hw).1
  have hXX : a_X s.heap.size (b, sa) (L, xs) s s.heap := ⟨fun _ => hX, hZ⟩
  have F : a_Fx p room_1 s m #[Value.ref b] meth c code 7 R_law meth.name lw_tbl D aC s.heap.size (b, sa) (L, xs) 41 :=
    ⟨hx, hb, hml, hown, hts, hG, hK, hXX, hbl, Nat.le_refl _, rfl, Nat.le_of_ble_eq_true rfl, Nat.le_of_ble_eq_true rfl⟩
  obtain ⟨hf, hrun, q1, q2⟩ := s_run (X := (L, xs)) hL
  obtain ⟨pc2, e1, -, hw⟩ := a_go_ok (l := l) (e := e) (below := below) (v := some (.int 1)) (rz := 1) (all := k_La_law_0) (Q := lw_Z below #[Value.ref b] s) (n0 := (0, 0)) F (show a_nc hf ≤ 0 + 601024 by omega) (show a_ns hf ≤ 0 + 7293033 by omega) (oz_M hst)
    (fun hv2 => by cases hv2)
    (fun x hv2 _ _ H locs cells slots ls pc hD hdg => by
      cases hv2
      obtain ⟨dP, dS, dz, dn, dm⟩ := hD
      have dn : 0 + cells = a_nc hf := dn
      have dm : 0 + slots = a_ns hf := dm
      refine va_forget (fun q hq => dS.2.2 q hq) ?_
      refine W.widen (k := 601024) (n := 7293033) (by omega) (by omega) ?_
      exact lw_ret hx hb hr hlk hdg)
    (fun hv2 => by cases hv2) (s_co k_La_law_0 s_pf_law o_La_law) a_fu 0 _ i_hE hrun
  have e2 : a_at k_La_law_0 0 = some 0 := rfl
  cases e2.symm.trans e1
  rw [lg_entry_eq]
  refine hw s.heap [] 0 0 _ ⟨fun k q h => by simp [a_ws, i_hE] at h, va_S.rf, fun _ => ⟨rfl, rfl⟩, rfl, rfl⟩ ?_
  exact a_LR_entry (base := s.heap.size) (b := (b, sa)) (vs := [.retAddr 1]) (n := 7) rfl
