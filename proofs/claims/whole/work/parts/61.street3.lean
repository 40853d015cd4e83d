/-! MATCHES: the class's rests, pure -/
def w_no (x : Nat) : Nat := if x < 1000000 then x else 4294967295
/-- what lies in the class's row of rests, for one set of given endings -/
def w_rs (s : Nat → Nat) (set : Nat) (f : Nat → Nat) (u : Nat) : Prop := (w_ndn s set (s 2) < w_pc u → f u = 0) ∧ ∀ a, a ≤ s 2 → w_ndn s set a = w_pc u → f u = w_no (w_stv s set (s 2 - a) u)
theorem w_pc_or : ∀ e, e < 10 → ∀ u, u < 1024 → u.testBit e = false → w_pc (u ||| 2 ^ e) = w_pc u + 1 := by decide +kernel
theorem w_lst_b {s : Nat → Nat} {t u b : Nat} {g : Nat → Nat} (hg : ∀ v, g v = 1000000 ∨ g v ≤ b) (hp : ∀ e, e < 10 → s (251 + e) ≤ 99) : ∀ e, e ≤ 10 → w_lst s t u g e = 1000000 ∨ w_lst s t u g e ≤ b + 99
  | 0, _ => Or.inl rfl
  | e + 1, he => by
    have ih := w_lst_b (t := t) (u := u) hg hp e (by omega)
    have h1 := hp e (by omega)
    have h2 := hg (u ||| 2 ^ e)
    unfold w_lst
    split
    · omega
    · exact ih
theorem w_stv_b {s : Nat → Nat} {set : Nat} (hE : s 3 ≤ 10) (hp : ∀ e, e < 10 → s (251 + e) ≤ 99) : ∀ k u, w_stv s set k u = 1000000 ∨ w_stv s set k u ≤ 99 * k
  | 0, _ => Or.inr (Nat.zero_le _)
  | k + 1, u => by
    have h1 : w_stv s set (k + 1) u = if w_nd s set (s 2 - (k + 1)) = true then w_lst s (s 2 - (k + 1)) u (w_stv s set k) (s 3) else w_stv s set k u := rfl
    rw [h1]
    split
    · have := w_lst_b (t := s 2 - (k + 1)) (u := u) (g := w_stv s set k) (b := 99 * k) (fun v => w_stv_b hE hp k v) hp (s 3) hE
      omega
    · have := w_stv_b (set := set) hE hp k u
      omega
/-- things that want nothing are passed by -/
theorem w_stv_skip {s : Nat → Nat} {set a v : Nat} : ∀ b, a ≤ b → b ≤ s 2 → w_ndn s set a = w_ndn s set b → w_stv s set (s 2 - a) v = w_stv s set (s 2 - b) v
  | 0, h, _, _ => by rw [show a = 0 by omega]
  | b + 1, h, hb, he => by
    by_cases c : a = b + 1
    · rw [c]
    · have h1 : w_ndn s set a ≤ w_ndn s set b := z_sum_le_n b (by omega)
      have h2 : w_ndn s set (b + 1) = w_ndn s set b + b_b (w_nd s set b) := rfl
      have h3 : b_b (w_nd s set b) = 0 := by omega
      have h4 : w_nd s set b = false := by
        cases g : w_nd s set b with
        | false => rfl
        | true => rw [g, b_bt] at h3; omega
      have ih := w_stv_skip (s := s) (set := set) (a := a) (v := v) b (by omega) (by omega) (by omega)
      have h5 := w_stv_succ (s := s) (set := set) (t := b) (q := s 2 - (b + 1)) (u := v) (by omega)
      rw [h4, if_neg (by decide), show s 2 - (b + 1) + 1 = s 2 - b by omega] at h5
      rw [ih, h5]
theorem w_stv_none {s : Nat → Nat} {set a v : Nat} (ha : a ≤ s 2) (h : w_ndn s set a = w_ndn s set (s 2)) : w_stv s set (s 2 - a) v = 0 := by
  rw [w_stv_skip (s 2) ha (Nat.le_refl _) h, Nat.sub_self]
  rfl
/-- the least rest behind e endings, as the class finds it -/
def w_lsc (s : Nat → Nat) (t u : Nat) (f : Nat → Nat) : Nat → Nat
  | 0 => 4294967295
  | e + 1 => if u.testBit e = false ∧ w_ends s e t = true ∧ f (u ||| 2 ^ e) ≠ 4294967295 ∧ (w_lsc s t u f e = 4294967295 ∨ f (u ||| 2 ^ e) + s (251 + e) < w_lsc s t u f e) then f (u ||| 2 ^ e) + s (251 + e) else w_lsc s t u f e
theorem w_lsc_eq {s : Nat → Nat} {t u b : Nat} {f g : Nat → Nat} (hb : b ≤ 1000) (hp : ∀ e, e < 10 → s (251 + e) ≤ 99) (hg : ∀ v, g v = 1000000 ∨ g v ≤ b) (hf : ∀ e, e < s 3 → u.testBit e = false → f (u ||| 2 ^ e) = w_no (g (u ||| 2 ^ e))) (hE : s 3 ≤ 10) : ∀ e, e ≤ s 3 → w_lsc s t u f e = w_no (w_lst s t u g e)
  | 0, _ => rfl
  | e + 1, he => by
    have ih := w_lsc_eq (t := t) hb hp hg hf hE e (by omega)
    have h1 := hp e (by omega)
    have h2 := hg (u ||| 2 ^ e)
    have h3 := w_lst_b (t := t) (u := u) hg hp e (by omega)
    have e1 : w_lsc s t u f (e + 1) = if u.testBit e = false ∧ w_ends s e t = true ∧ f (u ||| 2 ^ e) ≠ 4294967295 ∧ (w_lsc s t u f e = 4294967295 ∨ f (u ||| 2 ^ e) + s (251 + e) < w_lsc s t u f e) then f (u ||| 2 ^ e) + s (251 + e) else w_lsc s t u f e := rfl
    have e2 : w_lst s t u g (e + 1) = if u.testBit e = false ∧ w_ends s e t = true then min (w_lst s t u g e) (s (251 + e) + g (u ||| 2 ^ e)) else w_lst s t u g e := rfl
    rw [e1, e2, ih]
    by_cases c1 : u.testBit e = false ∧ w_ends s e t = true
    · rw [if_pos c1, hf e (by omega) c1.1]
      generalize w_lst s t u g e = L at h3
      generalize g (u ||| 2 ^ e) = G at h2
      generalize s (251 + e) = P at h1
      unfold w_no
      by_cases c2 : G < 1000000
      · rw [if_pos c2]
        by_cases c3 : L < 1000000
        · rw [if_pos c3]
          by_cases c4 : G + P < L
          · rw [if_pos ⟨c1.1, c1.2, by omega, Or.inr c4⟩, if_pos (by omega)]
            omega
          · rw [if_neg (fun q => by omega), if_pos (by omega)]
            omega
        · rw [if_neg c3, if_pos ⟨c1.1, c1.2, by omega, Or.inl rfl⟩, if_pos (by omega)]
          omega
      · rw [if_neg c2, if_neg (fun q => q.2.2.1 rfl)]
        by_cases c3 : L < 1000000
        · rw [if_pos c3, if_pos (by omega)]
          omega
        · rw [if_neg c3, if_neg (by omega)]
    · rw [if_neg c1, if_neg (fun q => c1 ⟨q.1, q.2.1⟩)]
