/-! THE CONSTRUCTORS, run -/
noncomputable def i_X0 : Nat × (Nat → Int32) := (4000, fun _ => 0)
def i_hE : A_H := ([], fun _ _ => 0, fun _ _ => 0, (0, 0), false)
def i_h0 : A_H := a_mk i_hE (11, 0, List.replicate 17 none) 17
def i_ht : A_H := a_mk i_h0 (10, 0, List.replicate 12 none) 12
noncomputable def i_rt : A_R := a_ex i_X0 a_tx a_T 41 0 [.ref 1] i_ht
def i_ok (r : A_R) : Bool := match r with
  | some (_, none) => true
  | _ => false
set_option maxRecDepth 1000000 in
theorem i_t1 : i_ok i_rt = true := by decide +kernel
