/-! MATCHES: the row of rests, filled -/
section ST4
variable {X : Nat × (Nat → Int32)} {tx : List Int32} {D d : Nat} {m j : Nat → Nat → Nat} {w : (Nat × Nat) × Bool} {s : Nat → Nat}
/-- what leastRest finds is the rest -/
theorem w_rs_step {set u t : Nat} {f : Nat → Nat} (hE : s 3 ≤ 10) (hT : s 2 ≤ 8) (hp : ∀ e, e < 10 → s (251 + e) ≤ 99) (hu : u < 2 ^ s 3) (ht : t < s 2) (hnd : w_nd s set t = true) (hc : w_ndn s set t = w_pc u) (hf : ∀ v, u < v → v < 2 ^ s 3 → w_rs s set f v) : w_lsc s t u f (s 3) = w_no (w_stv s set (s 2 - t) u) := by
  have hP : 2 ^ s 3 ≤ 1024 := Nat.pow_le_pow_right (n := 2) (by decide) hE
  have h1 := w_stv_succ (s := s) (set := set) (t := t) (q := s 2 - (t + 1)) (u := u) (by omega)
  rw [hnd, if_pos rfl, show s 2 - (t + 1) + 1 = s 2 - t by omega] at h1
  rw [h1]
  refine w_lsc_eq (b := 99 * (s 2 - (t + 1))) (by omega) hp (fun v => w_stv_b hE hp _ v) (fun e he hb => ?_) hE (s 3) (Nat.le_refl _)
  have hu2 : u ||| 2 ^ e < 2 ^ s 3 := Nat.or_lt_two_pow hu (Nat.pow_lt_pow_right (by decide) he)
  have hpc := w_pc_or e (by omega) u (by omega) hb
  have hlt : u < u ||| 2 ^ e := by
    have h2 : u ≤ u ||| 2 ^ e := Nat.left_le_or
    have h3 : u ≠ u ||| 2 ^ e := fun g => by rw [← g] at hpc; omega
    omega
  have h4 : w_ndn s set (t + 1) = w_ndn s set t + b_b (w_nd s set t) := rfl
  rw [hnd, b_bt] at h4
  exact (hf _ hlt hu2).2 (t + 1) (by omega) (by omega)
end ST4
