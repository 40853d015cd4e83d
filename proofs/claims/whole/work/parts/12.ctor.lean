/-! THE CONSTRUCTORS, run by the kernel (no script: i_X0) -/
noncomputable def i_X0 : Nat × (Nat → Int32) := (4000, fun _ => 0)
def i_hE : A_H := ([], fun _ _ => 0, fun _ _ => 0, (0, 0), false)
def i_hA : A_H := a_mk i_hE (11, 0, List.replicate 17 none) 17
noncomputable def i_r1 : A_R := a_ex i_X0 a_tx a_T 41 151 [.ref 0] i_hA
def i_g (r : A_R) : A_H := match r with
  | some (h, _) => h
  | none => i_hE
noncomputable def i_hB : A_H := a_mk (i_g i_r1) (12, 0, List.replicate 54 none) 54
noncomputable def i_r2 : A_R := a_ex i_X0 a_tx a_T 41 207 [.ref 234] i_hB
noncomputable def i_hC : A_H := a_mk (i_g i_r2) (101, 1, []) 1
def i_ok (r : A_R) : Bool := match r with
  | some (_, none) => true
  | _ => false
theorem i_ok_g {r : A_R} (h : i_ok r = true) : r = some (i_g r, none) := by
  cases r with
  | none => cases h
  | some q =>
    obtain ⟨h1, v⟩ := q
    cases v with
    | none => rfl
    | some v => cases h
/-- the words of the texts, as the two hold them -/
def i_wl : List Nat := [370116, 13358, 21243335, 182592967, 6337125, 153195, 87859, 546451, 4153, 498, 1476, 14836, 5705892, 486, 8243, 206483, 508078, 16817331, 492210354]
def i_cv (L : Nat) : Nat → Nat
  | 0 => 0
  | n + 1 => if L = 0 then 0 else i_cv (L / 32) n * 256 + (L % 32 + 96)
def i_at (h : A_H) (c k v : Nat) : Bool := decide (h.2.1 c k = nI v)
def i_zs (h : A_H) (c n : Nat) : Bool := (List.range n).all fun k => i_at h c k 0
def i_chk (h : A_H) : Bool :=
  ((List.range 533).all fun k => i_at h 236 k (if k = 4 then 1 else 0)) && (i_zs h 10 48 && (i_zs h 13 60 && (i_zs h 14 10 && (((List.range 7).all fun k => i_at h 4 k (if k = 5 then 1 else 0)) && (i_at h 26 1 0 && (i_zs h 30 48 &&
  (i_at h 1 2 0 && (i_at h 234 2 0 && (decide (h.2.1 0 14 = h.2.1 234 15) && (i_at h 50 1 0 && (i_at h 50 2 0 && (i_at h 234 23 0 &&
  (i_at h 148 0 0 && (i_at h 148 1 0 && (i_at h 156 6 0 && (i_at h 234 43 0 && (i_at h 162 3 0 && (i_at h 234 26 4294967295 &&
  (i_at h 234 30 4294967295 && ((List.range 8).all (fun t => i_at h 171 t 4294967295) && (i_at h 234 32 0 && (i_at h 167 7 4294967295 &&
  (i_at h 234 34 0 && (i_at h 0 15 4294967295 && (i_at h 234 36 0 && (i_at h 0 16 4294967295 && (i_at h 178 3 0 && (i_at h 206 3 0 && (i_at h 256 0 0 && i_at h 256 1 0)))))))))))))))))))))))))))))
def i_chw (h : A_H) : Bool := (List.range 19).all fun k => decide (h.2.2.1 3 k = lN (i_wl.getD k 0)) && decide (h.2.2.1 240 k = lN (i_cv (i_wl.getD k 0) 8))
set_option maxRecDepth 1000000 in
theorem i_c1 : i_ok i_r1 = true := by decide +kernel
set_option maxRecDepth 1000000 in
theorem i_c2 : i_ok i_r2 = true := by decide +kernel
set_option maxRecDepth 1000000 in
theorem i_c3 : (a_ok i_hE && (a_ok (i_g i_r1) && (a_ok (i_g i_r2) && (Nat.beq (i_g i_r1).1.length 234 && (Nat.beq (i_g i_r2).1.length 257 && (Nat.ble (a_nc i_hC) 258 && (Nat.ble (a_ns i_hC) 23000 && !i_hC.2.2.2.2))))))) = true := by decide +kernel
set_option maxRecDepth 1000000 in
theorem i_c4 : i_hC.1 = a_G0 := by decide +kernel
set_option maxRecDepth 1000000 in
theorem i_c5 : i_chk i_hC = true := by decide +kernel
set_option maxRecDepth 1000000 in
theorem i_c6 : i_chw i_hC = true := by decide +kernel
