/-! the classes' own facts, all at once -/
def a_isr (t : FieldType) : Bool := match t with
  | .object _ => true
  | .array _ => true
  | _ => false
def a_tt (t : FieldType) (n : Nat) : Bool := match n with
  | 0 => decide (t = .int)
  | 1 => decide (t = .boolean)
  | 2 => decide (t = .long)
  | _ => a_isr t
def a_co2 (q : vw_C) : Prop := (∀ w ∈ u_ws q.1 q.2.1 q.2.2, w ∈ a_G) ∧ (∀ a, a < q.2.2 → ∀ b, b < q.2.2 → a ≠ b → (q.2.1 a).2.1 ≠ (q.2.1 b).2.1) ∧ ∃ ty : Nat → FieldType, (∀ k, k < q.2.2 → parseFieldDescriptor (q.2.1 k).2.2.1 = some (ty k)) ∧ ∀ k, k < q.2.2 → a_tt (ty k) (a_tg (q.2.1 k).2.2.1) = true
theorem a_clok {ci : Nat} {q : vw_C} (hc : a_cl[ci]? = some q) : a_co2 q := by
  match ci, hc with
  | 0, hc => cases hc; exact ⟨a_in0, nmX0, tyX0, tyX0_ok, by decide +kernel⟩
  | 1, hc => cases hc; exact ⟨a_in1, nmX1, tyX1, tyX1_ok, by decide +kernel⟩
  | 2, hc => cases hc; exact ⟨a_in2, nmX2, tyX2, tyX2_ok, by decide +kernel⟩
  | 3, hc => cases hc; exact ⟨a_in3, nmX3, tyX3, tyX3_ok, by decide +kernel⟩
  | 4, hc => cases hc; exact ⟨a_in4, nmX4, tyX4, tyX4_ok, by decide +kernel⟩
  | 5, hc => cases hc; exact ⟨a_in5, nmX5, tyX5, tyX5_ok, by decide +kernel⟩
  | 6, hc => cases hc; exact ⟨a_in6, nmX6, tyX6, tyX6_ok, by decide +kernel⟩
  | 7, hc => cases hc; exact ⟨a_in7, nmX7, tyX7, tyX7_ok, by decide +kernel⟩
  | 8, hc => cases hc; exact ⟨a_in8, nmX8, tyX8, tyX8_ok, by decide +kernel⟩
  | 9, hc => cases hc; exact ⟨a_in9, nmX9, tyX9, tyX9_ok, by decide +kernel⟩
  | 10, hc => cases hc; exact ⟨a_in10, nmX10, tyX10, tyX10_ok, by decide +kernel⟩
  | 11, hc => cases hc; exact ⟨a_in11, nmX11, tyX11, tyX11_ok, by decide +kernel⟩
  | 12, hc => cases hc; exact ⟨a_in12, nmX12, tyX12, tyX12_ok, by decide +kernel⟩
  | n + 13, hc => simp [a_cl] at hc
theorem a_tg_le (d : String) : a_tg d = 0 ∨ a_tg d = 1 ∨ a_tg d = 2 ∨ a_tg d = 3 := by
  unfold a_tg
  repeat' split
  all_goals simp
theorem a_E_arr {aC : Nat → ClassId} {base : Nat} {h : A_H} {a : Nat} : (a_kd h a = 100 → a_E aC base h a = .inl (aC 0, a_ln h a, .inl (h.2.1 a))) ∧ (a_kd h a = 101 → a_E aC base h a = .inl (aC 1, a_ln h a, .inr (.inl (h.2.2.1 a)))) ∧ (a_kd h a = 102 → a_E aC base h a = .inl (aC 2, a_ln h a, .inl (h.2.1 a))) ∧ (a_kd h a = 103 → a_E aC base h a = .inl (aC 3, a_ln h a, .inl (h.2.1 a))) ∧ (a_kd h a = 104 → a_E aC base h a = .inl (aC 4, a_ln h a, .inr (.inr (.inr (.inr (fun i => (a_rf h a i).map (base + ·))))))) ∧ (a_kd h a = 105 → a_E aC base h a = .inl (aC 5, a_ln h a, .inr (.inr (.inr (.inr (fun i => (a_rf h a i).map (base + ·))))))) := by
  refine ⟨fun e => ?_, fun e => ?_, fun e => ?_, fun e => ?_, fun e => ?_, fun e => ?_⟩ <;> (unfold a_E; rw [e]; simp)
section HP
variable {p : Program} {l : Launch} {e : Env} {R : Room} {s : State} {m : MethodId} {args : Array Value} {below : List Frame} {meth : Method} {c : Code} {Q : State → Prop} {cc : ByteArray} {nL : Nat} {own nm : String} {Ts : List Cond} {D : va_G} {aC : Nat → ClassId} {base : Nat} {b : Nat × Nat} {X : Nat × (Nat → Int32)} {n0 : Nat × Nat} {d : Nat}
variable {pc : Nat} {h : A_H} {H : Heap} {locs : List Loc} {cells slots : Nat} {ls : Array Slot} {rest : List Value}
/-- a field is read -/
theorem a_get (F : a_Fx p R s m args meth c cc nL own nm Ts D aC base b X d) (hD : a_Dy s D aC base n0 h H locs cells slots) {ci k t md wi a index : Nat} (hfl : a_fl a_nw own index [ci, k, t, md, wi] = true) (hk : a_kd h a = ci) (hdg : decode cc pc = .ok (.getfield index, 3))
    (kk : ∀ q : vw_C, a_cl[ci]? = some q → k < q.2.2 → t = a_tg (q.2.1 k).2.2.1 → W p l e R s m args below meth c H locs cells slots Q (F0 m (pc + 3) ls (a_fv base h a (q.2.1 k).2.2.1 k :: rest))) : W p l e R s m args below meth c H locs cells slots Q (F0 m pc ls (.ref (base + a) :: rest)) := by
  obtain ⟨hx, hb, hmL, hown, hts, hG, hK, -⟩ := F
  unfold a_fl at hfl
  cases hc : a_cl[ci]? with
  | none => simp [hc] at hfl
  | some q =>
    obtain ⟨C, T, N⟩ := q
    dsimp only at hfl
    rw [hc] at hfl
    simp only [Bool.and_eq_true, decide_eq_true_eq, Nat.blt_eq] at hfl
    obtain ⟨⟨h1, h2⟩, h3⟩ := hfl
    obtain ⟨hin, -⟩ := a_clok hc
    have hlt : a < h.1.length := a_kd_lt hk (by have : ci < 13 := (List.getElem?_eq_some_iff.mp hc).1; omega)
    have hat := a_ws_at (aC := aC) (base := base) hlt
    rw [a_E_obj hk hc] at hat
    have hin2 : ∀ w ∈ u_ws C T N, w ∈ Ts := fun w hw => hG w (hin w hw)
    split at h3
    · exact va_get hx hb hts hin2 hown hK.1 hD.1 a hat hc k h1 (hts _ (hG _ (a_lk_inv h3))) (fun x z => z) (a_fs_at h1) hdg (kk _ hc h1 h2)
    · exact va_getN hx hb hts hin2 hown hK.1 hD.1 a hat hc k h1 (va_Nw.use rfl (hK.2.1 _ (List.mem_of_getElem? (of_decide_eq_true h3)))) (fun x z => z) (a_fs_at h1) hdg (kk _ hc h1 h2)
/-- a field is written: w the value, g the heap behind it -/
theorem a_putx (F : a_Fx p R s m args meth c cc nL own nm Ts D aC base b X d) (hD : a_Dy s D aC base n0 h H locs cells slots) {ci k t md wi a index : Nat} (hfl : a_fl a_nw own index [ci, k, t, md, wi] = true) (hfn : a_fn own nm [ci, k, t, md, wi] = true) (hk : a_kd h a = ci) (hdg : decode cc pc = .ok (.putfield index, 3)) {w : Value} {g : A_H}
    (hw : ∀ ty : FieldType, a_tt ty t = true → narrow ty w = w ∧ fits ty w = true) (hgl : g.1.length = h.1.length) (hgo : ∀ j, j ≠ a → a_E aC base g j = a_E aC base h j) (hgk : a_kd g a = ci) (hgv : ∀ q : vw_C, a_cl[ci]? = some q → t = a_tg (q.2.1 k).2.2.1 → a_fv base g a (q.2.1 k).2.2.1 k = w ∧ ∀ j, j ≠ k → a_fv base g a (q.2.1 j).2.2.1 j = a_fv base h a (q.2.1 j).2.2.1 j) (hgn : g.2.2.2 = h.2.2.2)
    (kk : ∀ (H1 : Heap) (locs1 : List Loc), a_Dy s D aC base n0 g H1 locs1 cells slots → W p l e R s m args below meth c H1 locs1 cells slots Q (F0 m (pc + 3) ls rest)) : W p l e R s m args below meth c H locs cells slots Q (F0 m pc ls (w :: .ref (base + a) :: rest)) := by
  obtain ⟨hx, hb, hmL, hown, hts, hG, hK, -, -, -, hnm, -⟩ := F
  obtain ⟨hP, hS, hsz, hcn, hsn⟩ := hD
  unfold a_fl at hfl
  unfold a_fn at hfn
  cases hc : a_cl[ci]? with
  | none => simp [hc] at hfl
  | some q =>
    obtain ⟨C, T, N⟩ := q
    dsimp only at hfl
    rw [hc] at hfl
    simp only [hc] at hfn
    simp only [Bool.and_eq_true, decide_eq_true_eq, Nat.blt_eq] at hfl
    obtain ⟨⟨h1, h2⟩, h3⟩ := hfl
    obtain ⟨hin, hnd, ty, hty, htt⟩ := a_clok hc
    have hlt : a < h.1.length := a_kd_lt hk (by have : ci < 13 := (List.getElem?_eq_some_iff.mp hc).1; omega)
    have hat := a_ws_at (aC := aC) (base := base) hlt
    rw [a_E_obj hk hc] at hat
    have hin2 : ∀ w ∈ u_ws C T N, w ∈ Ts := fun w hw => hG w (hin w hw)
    obtain ⟨hn, hft⟩ := hw (ty k) (by rw [h2]; exact htt k h1)
    obtain ⟨hv1, hv2⟩ := hgv _ hc h2
    have hws : a_ws aC base g = (a_ws aC base h).set a (base + a, .inr (ci, (a_fs base h a T N).set k w)) := by
      rw [a_ws_put hgl hgo, a_E_obj hgk hc, a_fs_set hv1 hv2]
    have fin : ∀ (H1 : Heap) (locs1 : List Loc), va_P D a_cl ((a_ws aC base h).set a (base + a, .inr (ci, (a_fs base h a T N).set k w))) H1 → va_D (fun q => base ≤ q) ((a_ws aC base h).set a (base + a, .inr (ci, (a_fs base h a T N).set k w))) → va_S (fun q => base ≤ q) s.heap H1 locs1 → W p l e R s m args below meth c H1 locs1 cells slots Q (F0 m (pc + 3) ls rest) := by
      intro H1 locs1 g1 _ g3
      refine kk H1 locs1 ⟨by rw [hws]; exact g1, g3, ?_, ?_, ?_⟩
      · rw [hgn, hgl]
        have : a_nc g = a_nc h := by unfold a_nc; rw [hgn]
        rw [this]
        exact hsz
      · unfold a_nc; rw [hgn]; exact hcn
      · unfold a_ns; rw [hgn]; exact hsn
    by_cases hfi : (T k).2.2.2 = true
    · have h4 : (T k).1 = own ∧ nm = "<init>" ∧ md = 0 := by
        simp only [hfi, Bool.not_true, Bool.false_or, Bool.and_eq_true, decide_eq_true_eq] at hfn
        exact ⟨hfn.1.2, hfn.1.1, hfn.2⟩
      split at h3
      · exact va_putF hx hb hts hin2 ty hty hnd hown hK.1 hP a_D hS a hat hc k h1 (hts _ (hG _ (a_lk_inv h3))) (fun x z => z) hfi (hnm.trans h4.2.1) h4.1 (hty k h1) hn hft (by rw [a_fs_len]; exact h1) hdg fin
      · exact absurd h4.2.2 (by assumption)
    · have hfi : (T k).2.2.2 = false := by simpa using hfi
      split at h3
      · exact va_put hx hb hts hin2 ty hty hnd hown hK.1 hP a_D hS a hat hc k h1 (hts _ (hG _ (a_lk_inv h3))) (fun x z => z) hfi (hty k h1) hn hft (by rw [a_fs_len]; exact h1) hdg fin
      · exact va_putN hx hb hts hin2 ty hty hnd hown hK.1 hP a_D hS a hat hc k h1 (va_Nw.use rfl (hK.2.1 _ (List.mem_of_getElem? (of_decide_eq_true h3)))) (fun x z => z) hfi (hty k h1) hn hft (by rw [a_fs_len]; exact h1) hdg fin
end HP
