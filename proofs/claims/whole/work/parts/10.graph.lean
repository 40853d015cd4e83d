theorem z_ent {X : Nat × (Nat → Int32)} {tx : List Int32} {T : List A_M} {d y : Nat} {m : A_M} {vs : List Value} {h : A_H} (hm : T[y]? = some m) (hl : Nat.beq (a_lo vs m.2.2.1).length m.2.2.1 = true) : a_ex X tx T (d + 1) y vs h = a_rn X tx (a_ex X tx T d) (a_go X tx (a_ex X tx T d) m.2.2.2.2 a_f1) (m.2.2.2.2.drop 0) 0 (a_lo vs m.2.2.1) [] h := by
  conv => lhs; unfold a_ex
  rw [hm]
  show a_if _ _ = _
  rw [hl]
  rfl
/-! the cells that stand behind the constructors: kind, length, references -/
def a_G0 : List A_C := [(11, 0, [some 1, some 4, some 15, some 26, some 38, some 50, some 148, some 152, some 156, some 162, some 167, some 172, some 176, some 177, none, none, none]),
  (10, 0, [some 2, some 3, none, none, none, none, none, none, none, none, none, none]),
  (100, 940, []),
  (101, 19, []),
  (2, 0, [none, none, none, none, none, none, none, some 5, some 6, some 7, some 8, some 9, some 10, some 11, some 12, some 13, some 14]),
  (101, 30, []),
  (100, 30, []),
  (100, 30, []),
  (100, 6, []),
  (100, 8, []),
  (100, 48, []),
  (100, 10, []),
  (100, 10, []),
  (100, 60, []),
  (100, 10, []),
  (2, 0, [none, none, none, none, none, none, none, some 16, some 17, some 18, some 19, some 20, some 21, some 22, some 23, some 24, some 25]),
  (101, 30, []),
  (100, 30, []),
  (100, 30, []),
  (100, 6, []),
  (100, 8, []),
  (100, 48, []),
  (100, 10, []),
  (100, 10, []),
  (100, 60, []),
  (100, 10, []),
  (0, 0, [some 4, none, some 27, some 28, some 29, some 30, some 31, some 32, some 33, some 34, some 35, some 36, some 37]),
  (100, 6, []),
  (100, 6, []),
  (100, 6, []),
  (100, 48, []),
  (100, 10, []),
  (100, 10, []),
  (100, 10, []),
  (100, 10, []),
  (100, 10, []),
  (100, 10, []),
  (100, 60, []),
  (0, 0, [some 4, none, some 39, some 40, some 41, some 42, some 43, some 44, some 45, some 46, some 47, some 48, some 49]),
  (100, 6, []),
  (100, 6, []),
  (100, 6, []),
  (100, 48, []),
  (100, 10, []),
  (100, 10, []),
  (100, 10, []),
  (100, 10, []),
  (100, 10, []),
  (100, 10, []),
  (100, 60, []),
  (7, 0, [some 51, none, none]),
  (104, 8, [some 52, some 64, some 76, some 88, some 100, some 112, some 124, some 136]),
  (0, 0, [some 4, none, some 53, some 54, some 55, some 56, some 57, some 58, some 59, some 60, some 61, some 62, some 63]),
  (100, 6, []),
  (100, 6, []),
  (100, 6, []),
  (100, 48, []),
  (100, 10, []),
  (100, 10, []),
  (100, 10, []),
  (100, 10, []),
  (100, 10, []),
  (100, 10, []),
  (100, 60, []),
  (0, 0, [some 4, none, some 65, some 66, some 67, some 68, some 69, some 70, some 71, some 72, some 73, some 74, some 75]),
  (100, 6, []),
  (100, 6, []),
  (100, 6, []),
  (100, 48, []),
  (100, 10, []),
  (100, 10, []),
  (100, 10, []),
  (100, 10, []),
  (100, 10, []),
  (100, 10, []),
  (100, 60, []),
  (0, 0, [some 4, none, some 77, some 78, some 79, some 80, some 81, some 82, some 83, some 84, some 85, some 86, some 87]),
  (100, 6, []),
  (100, 6, []),
  (100, 6, []),
  (100, 48, []),
  (100, 10, []),
  (100, 10, []),
  (100, 10, []),
  (100, 10, []),
  (100, 10, []),
  (100, 10, []),
  (100, 60, []),
  (0, 0, [some 4, none, some 89, some 90, some 91, some 92, some 93, some 94, some 95, some 96, some 97, some 98, some 99]),
  (100, 6, []),
  (100, 6, []),
  (100, 6, []),
  (100, 48, []),
  (100, 10, []),
  (100, 10, []),
  (100, 10, []),
  (100, 10, []),
  (100, 10, []),
  (100, 10, []),
  (100, 60, []),
  (0, 0, [some 4, none, some 101, some 102, some 103, some 104, some 105, some 106, some 107, some 108, some 109, some 110, some 111]),
  (100, 6, []),
  (100, 6, []),
  (100, 6, []),
  (100, 48, []),
  (100, 10, []),
  (100, 10, []),
  (100, 10, []),
  (100, 10, []),
  (100, 10, []),
  (100, 10, []),
  (100, 60, []),
  (0, 0, [some 4, none, some 113, some 114, some 115, some 116, some 117, some 118, some 119, some 120, some 121, some 122, some 123]),
  (100, 6, []),
  (100, 6, []),
  (100, 6, []),
  (100, 48, []),
  (100, 10, []),
  (100, 10, []),
  (100, 10, []),
  (100, 10, []),
  (100, 10, []),
  (100, 10, []),
  (100, 60, []),
  (0, 0, [some 4, none, some 125, some 126, some 127, some 128, some 129, some 130, some 131, some 132, some 133, some 134, some 135]),
  (100, 6, []),
  (100, 6, []),
  (100, 6, []),
  (100, 48, []),
  (100, 10, []),
  (100, 10, []),
  (100, 10, []),
  (100, 10, []),
  (100, 10, []),
  (100, 10, []),
  (100, 60, []),
  (0, 0, [some 4, none, some 137, some 138, some 139, some 140, some 141, some 142, some 143, some 144, some 145, some 146, some 147]),
  (100, 6, []),
  (100, 6, []),
  (100, 6, []),
  (100, 48, []),
  (100, 10, []),
  (100, 10, []),
  (100, 10, []),
  (100, 10, []),
  (100, 10, []),
  (100, 10, []),
  (100, 60, []),
  (9, 0, [none, none, some 149, some 150, some 151]),
  (100, 40, []),
  (100, 40, []),
  (100, 40, []),
  (9, 0, [none, none, some 153, some 154, some 155]),
  (100, 40, []),
  (100, 40, []),
  (100, 40, []),
  (4, 0, [none, some 157, some 158, some 159, some 160, some 161, none, none, none, none, none]),
  (100, 40, []),
  (100, 40, []),
  (100, 40, []),
  (100, 40, []),
  (100, 40, []),
  (6, 0, [some 4, some 26, some 163, none, some 164, some 165, some 166, none]),
  (100, 10, []),
  (100, 6, []),
  (100, 6, []),
  (100, 6, []),
  (5, 0, [some 4, some 26, some 168, none, some 169, some 170, some 171, none]),
  (100, 8, []),
  (100, 8, []),
  (100, 1024, []),
  (100, 8, []),
  (8, 0, [some 4, some 26, some 173, some 174, some 175, none]),
  (100, 6, []),
  (100, 6, []),
  (100, 6, []),
  (1, 0, [none]),
  (105, 2, [some 178, some 206]),
  (3, 0, [some 179, some 190, some 202, none]),
  (2, 0, [none, none, none, none, none, none, none, some 180, some 181, some 182, some 183, some 184, some 185, some 186, some 187, some 188, some 189]),
  (101, 30, []),
  (100, 30, []),
  (100, 30, []),
  (100, 6, []),
  (100, 8, []),
  (100, 48, []),
  (100, 10, []),
  (100, 10, []),
  (100, 60, []),
  (100, 10, []),
  (0, 0, [some 179, none, some 191, some 192, some 193, some 194, some 195, some 196, some 197, some 198, some 199, some 200, some 201]),
  (100, 6, []),
  (100, 6, []),
  (100, 6, []),
  (100, 48, []),
  (100, 10, []),
  (100, 10, []),
  (100, 10, []),
  (100, 10, []),
  (100, 10, []),
  (100, 10, []),
  (100, 60, []),
  (9, 0, [none, none, some 203, some 204, some 205]),
  (100, 40, []),
  (100, 40, []),
  (100, 40, []),
  (3, 0, [some 207, some 218, some 230, none]),
  (2, 0, [none, none, none, none, none, none, none, some 208, some 209, some 210, some 211, some 212, some 213, some 214, some 215, some 216, some 217]),
  (101, 30, []),
  (100, 30, []),
  (100, 30, []),
  (100, 6, []),
  (100, 8, []),
  (100, 48, []),
  (100, 10, []),
  (100, 10, []),
  (100, 60, []),
  (100, 10, []),
  (0, 0, [some 207, none, some 219, some 220, some 221, some 222, some 223, some 224, some 225, some 226, some 227, some 228, some 229]),
  (100, 6, []),
  (100, 6, []),
  (100, 6, []),
  (100, 48, []),
  (100, 10, []),
  (100, 10, []),
  (100, 10, []),
  (100, 10, []),
  (100, 10, []),
  (100, 10, []),
  (100, 60, []),
  (9, 0, [none, none, some 231, some 232, some 233]),
  (100, 40, []),
  (100, 40, []),
  (100, 40, []),
  (12, 0, [none, some 235, none, none, none, none, some 236, some 237, some 238, some 239, some 240, none, none, none, none, none, none, none, none, none, none, some 241, some 242, none, some 243, some 244, none, some 245, some 246, some 247, none, none, none, none, none, none, none, some 248, some 249, some 250, none, none, some 251, none, some 252, none, none, none, none, none, some 253, some 254, some 255, some 256]),
  (103, 940, []),
  (100, 533, []),
  (100, 157, []),
  (100, 135, []),
  (101, 60, []),
  (101, 19, []),
  (100, 1560, []),
  (100, 195, []),
  (102, 1024, []),
  (100, 10, []),
  (102, 1024, []),
  (100, 9216, []),
  (100, 8, []),
  (100, 6, []),
  (100, 6, []),
  (100, 6, []),
  (100, 4, []),
  (100, 45, []),
  (102, 45, []),
  (100, 1066, []),
  (101, 60, []),
  (102, 2, []),
  (101, 1, [])]
theorem gk_0 {h : A_H} (e : h.1 = a_G0) : a_kd h 0 = 11 := by unfold a_kd; rw [e]; rfl
theorem gr_0_0 {h : A_H} (e : h.1 = a_G0) : a_rf h 0 0 = some 1 := by unfold a_rf; rw [e]; rfl
theorem gr_0_1 {h : A_H} (e : h.1 = a_G0) : a_rf h 0 1 = some 4 := by unfold a_rf; rw [e]; rfl
theorem gr_0_2 {h : A_H} (e : h.1 = a_G0) : a_rf h 0 2 = some 15 := by unfold a_rf; rw [e]; rfl
theorem gr_0_3 {h : A_H} (e : h.1 = a_G0) : a_rf h 0 3 = some 26 := by unfold a_rf; rw [e]; rfl
theorem gr_0_4 {h : A_H} (e : h.1 = a_G0) : a_rf h 0 4 = some 38 := by unfold a_rf; rw [e]; rfl
theorem gr_0_5 {h : A_H} (e : h.1 = a_G0) : a_rf h 0 5 = some 50 := by unfold a_rf; rw [e]; rfl
theorem gr_0_6 {h : A_H} (e : h.1 = a_G0) : a_rf h 0 6 = some 148 := by unfold a_rf; rw [e]; rfl
theorem gr_0_7 {h : A_H} (e : h.1 = a_G0) : a_rf h 0 7 = some 152 := by unfold a_rf; rw [e]; rfl
theorem gr_0_8 {h : A_H} (e : h.1 = a_G0) : a_rf h 0 8 = some 156 := by unfold a_rf; rw [e]; rfl
theorem gr_0_9 {h : A_H} (e : h.1 = a_G0) : a_rf h 0 9 = some 162 := by unfold a_rf; rw [e]; rfl
theorem gr_0_10 {h : A_H} (e : h.1 = a_G0) : a_rf h 0 10 = some 167 := by unfold a_rf; rw [e]; rfl
theorem gr_0_11 {h : A_H} (e : h.1 = a_G0) : a_rf h 0 11 = some 172 := by unfold a_rf; rw [e]; rfl
theorem gr_0_12 {h : A_H} (e : h.1 = a_G0) : a_rf h 0 12 = some 176 := by unfold a_rf; rw [e]; rfl
theorem gr_0_13 {h : A_H} (e : h.1 = a_G0) : a_rf h 0 13 = some 177 := by unfold a_rf; rw [e]; rfl
theorem gk_1 {h : A_H} (e : h.1 = a_G0) : a_kd h 1 = 10 := by unfold a_kd; rw [e]; rfl
theorem gr_1_0 {h : A_H} (e : h.1 = a_G0) : a_rf h 1 0 = some 2 := by unfold a_rf; rw [e]; rfl
theorem gr_1_1 {h : A_H} (e : h.1 = a_G0) : a_rf h 1 1 = some 3 := by unfold a_rf; rw [e]; rfl
theorem gk_2 {h : A_H} (e : h.1 = a_G0) : a_kd h 2 = 100 := by unfold a_kd; rw [e]; rfl
theorem gl_2 {h : A_H} (e : h.1 = a_G0) : a_ln h 2 = 940 := by unfold a_ln; rw [e]; rfl
theorem gk_3 {h : A_H} (e : h.1 = a_G0) : a_kd h 3 = 101 := by unfold a_kd; rw [e]; rfl
theorem gl_3 {h : A_H} (e : h.1 = a_G0) : a_ln h 3 = 19 := by unfold a_ln; rw [e]; rfl
theorem gk_4 {h : A_H} (e : h.1 = a_G0) : a_kd h 4 = 2 := by unfold a_kd; rw [e]; rfl
theorem gr_4_7 {h : A_H} (e : h.1 = a_G0) : a_rf h 4 7 = some 5 := by unfold a_rf; rw [e]; rfl
theorem gr_4_8 {h : A_H} (e : h.1 = a_G0) : a_rf h 4 8 = some 6 := by unfold a_rf; rw [e]; rfl
theorem gr_4_9 {h : A_H} (e : h.1 = a_G0) : a_rf h 4 9 = some 7 := by unfold a_rf; rw [e]; rfl
theorem gr_4_10 {h : A_H} (e : h.1 = a_G0) : a_rf h 4 10 = some 8 := by unfold a_rf; rw [e]; rfl
theorem gr_4_11 {h : A_H} (e : h.1 = a_G0) : a_rf h 4 11 = some 9 := by unfold a_rf; rw [e]; rfl
theorem gr_4_12 {h : A_H} (e : h.1 = a_G0) : a_rf h 4 12 = some 10 := by unfold a_rf; rw [e]; rfl
theorem gr_4_13 {h : A_H} (e : h.1 = a_G0) : a_rf h 4 13 = some 11 := by unfold a_rf; rw [e]; rfl
theorem gr_4_14 {h : A_H} (e : h.1 = a_G0) : a_rf h 4 14 = some 12 := by unfold a_rf; rw [e]; rfl
theorem gr_4_15 {h : A_H} (e : h.1 = a_G0) : a_rf h 4 15 = some 13 := by unfold a_rf; rw [e]; rfl
theorem gr_4_16 {h : A_H} (e : h.1 = a_G0) : a_rf h 4 16 = some 14 := by unfold a_rf; rw [e]; rfl
theorem gk_5 {h : A_H} (e : h.1 = a_G0) : a_kd h 5 = 101 := by unfold a_kd; rw [e]; rfl
theorem gl_5 {h : A_H} (e : h.1 = a_G0) : a_ln h 5 = 30 := by unfold a_ln; rw [e]; rfl
theorem gk_6 {h : A_H} (e : h.1 = a_G0) : a_kd h 6 = 100 := by unfold a_kd; rw [e]; rfl
theorem gl_6 {h : A_H} (e : h.1 = a_G0) : a_ln h 6 = 30 := by unfold a_ln; rw [e]; rfl
theorem gk_7 {h : A_H} (e : h.1 = a_G0) : a_kd h 7 = 100 := by unfold a_kd; rw [e]; rfl
theorem gl_7 {h : A_H} (e : h.1 = a_G0) : a_ln h 7 = 30 := by unfold a_ln; rw [e]; rfl
theorem gk_8 {h : A_H} (e : h.1 = a_G0) : a_kd h 8 = 100 := by unfold a_kd; rw [e]; rfl
theorem gl_8 {h : A_H} (e : h.1 = a_G0) : a_ln h 8 = 6 := by unfold a_ln; rw [e]; rfl
theorem gk_9 {h : A_H} (e : h.1 = a_G0) : a_kd h 9 = 100 := by unfold a_kd; rw [e]; rfl
theorem gl_9 {h : A_H} (e : h.1 = a_G0) : a_ln h 9 = 8 := by unfold a_ln; rw [e]; rfl
theorem gk_10 {h : A_H} (e : h.1 = a_G0) : a_kd h 10 = 100 := by unfold a_kd; rw [e]; rfl
theorem gl_10 {h : A_H} (e : h.1 = a_G0) : a_ln h 10 = 48 := by unfold a_ln; rw [e]; rfl
theorem gk_11 {h : A_H} (e : h.1 = a_G0) : a_kd h 11 = 100 := by unfold a_kd; rw [e]; rfl
theorem gl_11 {h : A_H} (e : h.1 = a_G0) : a_ln h 11 = 10 := by unfold a_ln; rw [e]; rfl
theorem gk_12 {h : A_H} (e : h.1 = a_G0) : a_kd h 12 = 100 := by unfold a_kd; rw [e]; rfl
theorem gl_12 {h : A_H} (e : h.1 = a_G0) : a_ln h 12 = 10 := by unfold a_ln; rw [e]; rfl
theorem gk_13 {h : A_H} (e : h.1 = a_G0) : a_kd h 13 = 100 := by unfold a_kd; rw [e]; rfl
theorem gl_13 {h : A_H} (e : h.1 = a_G0) : a_ln h 13 = 60 := by unfold a_ln; rw [e]; rfl
theorem gk_14 {h : A_H} (e : h.1 = a_G0) : a_kd h 14 = 100 := by unfold a_kd; rw [e]; rfl
theorem gl_14 {h : A_H} (e : h.1 = a_G0) : a_ln h 14 = 10 := by unfold a_ln; rw [e]; rfl
theorem gk_15 {h : A_H} (e : h.1 = a_G0) : a_kd h 15 = 2 := by unfold a_kd; rw [e]; rfl
theorem gr_15_7 {h : A_H} (e : h.1 = a_G0) : a_rf h 15 7 = some 16 := by unfold a_rf; rw [e]; rfl
theorem gr_15_8 {h : A_H} (e : h.1 = a_G0) : a_rf h 15 8 = some 17 := by unfold a_rf; rw [e]; rfl
theorem gr_15_9 {h : A_H} (e : h.1 = a_G0) : a_rf h 15 9 = some 18 := by unfold a_rf; rw [e]; rfl
theorem gr_15_10 {h : A_H} (e : h.1 = a_G0) : a_rf h 15 10 = some 19 := by unfold a_rf; rw [e]; rfl
theorem gr_15_11 {h : A_H} (e : h.1 = a_G0) : a_rf h 15 11 = some 20 := by unfold a_rf; rw [e]; rfl
theorem gr_15_12 {h : A_H} (e : h.1 = a_G0) : a_rf h 15 12 = some 21 := by unfold a_rf; rw [e]; rfl
theorem gr_15_13 {h : A_H} (e : h.1 = a_G0) : a_rf h 15 13 = some 22 := by unfold a_rf; rw [e]; rfl
theorem gr_15_14 {h : A_H} (e : h.1 = a_G0) : a_rf h 15 14 = some 23 := by unfold a_rf; rw [e]; rfl
theorem gr_15_15 {h : A_H} (e : h.1 = a_G0) : a_rf h 15 15 = some 24 := by unfold a_rf; rw [e]; rfl
theorem gr_15_16 {h : A_H} (e : h.1 = a_G0) : a_rf h 15 16 = some 25 := by unfold a_rf; rw [e]; rfl
theorem gk_16 {h : A_H} (e : h.1 = a_G0) : a_kd h 16 = 101 := by unfold a_kd; rw [e]; rfl
theorem gl_16 {h : A_H} (e : h.1 = a_G0) : a_ln h 16 = 30 := by unfold a_ln; rw [e]; rfl
theorem gk_17 {h : A_H} (e : h.1 = a_G0) : a_kd h 17 = 100 := by unfold a_kd; rw [e]; rfl
theorem gl_17 {h : A_H} (e : h.1 = a_G0) : a_ln h 17 = 30 := by unfold a_ln; rw [e]; rfl
theorem gk_18 {h : A_H} (e : h.1 = a_G0) : a_kd h 18 = 100 := by unfold a_kd; rw [e]; rfl
theorem gl_18 {h : A_H} (e : h.1 = a_G0) : a_ln h 18 = 30 := by unfold a_ln; rw [e]; rfl
theorem gk_19 {h : A_H} (e : h.1 = a_G0) : a_kd h 19 = 100 := by unfold a_kd; rw [e]; rfl
theorem gl_19 {h : A_H} (e : h.1 = a_G0) : a_ln h 19 = 6 := by unfold a_ln; rw [e]; rfl
theorem gk_20 {h : A_H} (e : h.1 = a_G0) : a_kd h 20 = 100 := by unfold a_kd; rw [e]; rfl
theorem gl_20 {h : A_H} (e : h.1 = a_G0) : a_ln h 20 = 8 := by unfold a_ln; rw [e]; rfl
theorem gk_21 {h : A_H} (e : h.1 = a_G0) : a_kd h 21 = 100 := by unfold a_kd; rw [e]; rfl
theorem gl_21 {h : A_H} (e : h.1 = a_G0) : a_ln h 21 = 48 := by unfold a_ln; rw [e]; rfl
theorem gk_22 {h : A_H} (e : h.1 = a_G0) : a_kd h 22 = 100 := by unfold a_kd; rw [e]; rfl
theorem gl_22 {h : A_H} (e : h.1 = a_G0) : a_ln h 22 = 10 := by unfold a_ln; rw [e]; rfl
theorem gk_23 {h : A_H} (e : h.1 = a_G0) : a_kd h 23 = 100 := by unfold a_kd; rw [e]; rfl
theorem gl_23 {h : A_H} (e : h.1 = a_G0) : a_ln h 23 = 10 := by unfold a_ln; rw [e]; rfl
theorem gk_24 {h : A_H} (e : h.1 = a_G0) : a_kd h 24 = 100 := by unfold a_kd; rw [e]; rfl
theorem gl_24 {h : A_H} (e : h.1 = a_G0) : a_ln h 24 = 60 := by unfold a_ln; rw [e]; rfl
theorem gk_25 {h : A_H} (e : h.1 = a_G0) : a_kd h 25 = 100 := by unfold a_kd; rw [e]; rfl
theorem gl_25 {h : A_H} (e : h.1 = a_G0) : a_ln h 25 = 10 := by unfold a_ln; rw [e]; rfl
theorem gk_26 {h : A_H} (e : h.1 = a_G0) : a_kd h 26 = 0 := by unfold a_kd; rw [e]; rfl
theorem gr_26_0 {h : A_H} (e : h.1 = a_G0) : a_rf h 26 0 = some 4 := by unfold a_rf; rw [e]; rfl
theorem gr_26_2 {h : A_H} (e : h.1 = a_G0) : a_rf h 26 2 = some 27 := by unfold a_rf; rw [e]; rfl
theorem gr_26_3 {h : A_H} (e : h.1 = a_G0) : a_rf h 26 3 = some 28 := by unfold a_rf; rw [e]; rfl
theorem gr_26_4 {h : A_H} (e : h.1 = a_G0) : a_rf h 26 4 = some 29 := by unfold a_rf; rw [e]; rfl
theorem gr_26_5 {h : A_H} (e : h.1 = a_G0) : a_rf h 26 5 = some 30 := by unfold a_rf; rw [e]; rfl
theorem gr_26_6 {h : A_H} (e : h.1 = a_G0) : a_rf h 26 6 = some 31 := by unfold a_rf; rw [e]; rfl
theorem gr_26_7 {h : A_H} (e : h.1 = a_G0) : a_rf h 26 7 = some 32 := by unfold a_rf; rw [e]; rfl
theorem gr_26_8 {h : A_H} (e : h.1 = a_G0) : a_rf h 26 8 = some 33 := by unfold a_rf; rw [e]; rfl
theorem gr_26_9 {h : A_H} (e : h.1 = a_G0) : a_rf h 26 9 = some 34 := by unfold a_rf; rw [e]; rfl
theorem gr_26_10 {h : A_H} (e : h.1 = a_G0) : a_rf h 26 10 = some 35 := by unfold a_rf; rw [e]; rfl
theorem gr_26_11 {h : A_H} (e : h.1 = a_G0) : a_rf h 26 11 = some 36 := by unfold a_rf; rw [e]; rfl
theorem gr_26_12 {h : A_H} (e : h.1 = a_G0) : a_rf h 26 12 = some 37 := by unfold a_rf; rw [e]; rfl
theorem gk_27 {h : A_H} (e : h.1 = a_G0) : a_kd h 27 = 100 := by unfold a_kd; rw [e]; rfl
theorem gl_27 {h : A_H} (e : h.1 = a_G0) : a_ln h 27 = 6 := by unfold a_ln; rw [e]; rfl
theorem gk_28 {h : A_H} (e : h.1 = a_G0) : a_kd h 28 = 100 := by unfold a_kd; rw [e]; rfl
theorem gl_28 {h : A_H} (e : h.1 = a_G0) : a_ln h 28 = 6 := by unfold a_ln; rw [e]; rfl
theorem gk_29 {h : A_H} (e : h.1 = a_G0) : a_kd h 29 = 100 := by unfold a_kd; rw [e]; rfl
theorem gl_29 {h : A_H} (e : h.1 = a_G0) : a_ln h 29 = 6 := by unfold a_ln; rw [e]; rfl
theorem gk_30 {h : A_H} (e : h.1 = a_G0) : a_kd h 30 = 100 := by unfold a_kd; rw [e]; rfl
theorem gl_30 {h : A_H} (e : h.1 = a_G0) : a_ln h 30 = 48 := by unfold a_ln; rw [e]; rfl
theorem gk_31 {h : A_H} (e : h.1 = a_G0) : a_kd h 31 = 100 := by unfold a_kd; rw [e]; rfl
theorem gl_31 {h : A_H} (e : h.1 = a_G0) : a_ln h 31 = 10 := by unfold a_ln; rw [e]; rfl
theorem gk_32 {h : A_H} (e : h.1 = a_G0) : a_kd h 32 = 100 := by unfold a_kd; rw [e]; rfl
theorem gl_32 {h : A_H} (e : h.1 = a_G0) : a_ln h 32 = 10 := by unfold a_ln; rw [e]; rfl
theorem gk_33 {h : A_H} (e : h.1 = a_G0) : a_kd h 33 = 100 := by unfold a_kd; rw [e]; rfl
theorem gl_33 {h : A_H} (e : h.1 = a_G0) : a_ln h 33 = 10 := by unfold a_ln; rw [e]; rfl
theorem gk_34 {h : A_H} (e : h.1 = a_G0) : a_kd h 34 = 100 := by unfold a_kd; rw [e]; rfl
theorem gl_34 {h : A_H} (e : h.1 = a_G0) : a_ln h 34 = 10 := by unfold a_ln; rw [e]; rfl
theorem gk_35 {h : A_H} (e : h.1 = a_G0) : a_kd h 35 = 100 := by unfold a_kd; rw [e]; rfl
theorem gl_35 {h : A_H} (e : h.1 = a_G0) : a_ln h 35 = 10 := by unfold a_ln; rw [e]; rfl
theorem gk_36 {h : A_H} (e : h.1 = a_G0) : a_kd h 36 = 100 := by unfold a_kd; rw [e]; rfl
theorem gl_36 {h : A_H} (e : h.1 = a_G0) : a_ln h 36 = 10 := by unfold a_ln; rw [e]; rfl
theorem gk_37 {h : A_H} (e : h.1 = a_G0) : a_kd h 37 = 100 := by unfold a_kd; rw [e]; rfl
theorem gl_37 {h : A_H} (e : h.1 = a_G0) : a_ln h 37 = 60 := by unfold a_ln; rw [e]; rfl
theorem gk_38 {h : A_H} (e : h.1 = a_G0) : a_kd h 38 = 0 := by unfold a_kd; rw [e]; rfl
theorem gr_38_0 {h : A_H} (e : h.1 = a_G0) : a_rf h 38 0 = some 4 := by unfold a_rf; rw [e]; rfl
theorem gr_38_2 {h : A_H} (e : h.1 = a_G0) : a_rf h 38 2 = some 39 := by unfold a_rf; rw [e]; rfl
theorem gr_38_3 {h : A_H} (e : h.1 = a_G0) : a_rf h 38 3 = some 40 := by unfold a_rf; rw [e]; rfl
theorem gr_38_4 {h : A_H} (e : h.1 = a_G0) : a_rf h 38 4 = some 41 := by unfold a_rf; rw [e]; rfl
theorem gr_38_5 {h : A_H} (e : h.1 = a_G0) : a_rf h 38 5 = some 42 := by unfold a_rf; rw [e]; rfl
theorem gr_38_6 {h : A_H} (e : h.1 = a_G0) : a_rf h 38 6 = some 43 := by unfold a_rf; rw [e]; rfl
theorem gr_38_7 {h : A_H} (e : h.1 = a_G0) : a_rf h 38 7 = some 44 := by unfold a_rf; rw [e]; rfl
theorem gr_38_8 {h : A_H} (e : h.1 = a_G0) : a_rf h 38 8 = some 45 := by unfold a_rf; rw [e]; rfl
theorem gr_38_9 {h : A_H} (e : h.1 = a_G0) : a_rf h 38 9 = some 46 := by unfold a_rf; rw [e]; rfl
theorem gr_38_10 {h : A_H} (e : h.1 = a_G0) : a_rf h 38 10 = some 47 := by unfold a_rf; rw [e]; rfl
theorem gr_38_11 {h : A_H} (e : h.1 = a_G0) : a_rf h 38 11 = some 48 := by unfold a_rf; rw [e]; rfl
theorem gr_38_12 {h : A_H} (e : h.1 = a_G0) : a_rf h 38 12 = some 49 := by unfold a_rf; rw [e]; rfl
theorem gk_39 {h : A_H} (e : h.1 = a_G0) : a_kd h 39 = 100 := by unfold a_kd; rw [e]; rfl
theorem gl_39 {h : A_H} (e : h.1 = a_G0) : a_ln h 39 = 6 := by unfold a_ln; rw [e]; rfl
theorem gk_40 {h : A_H} (e : h.1 = a_G0) : a_kd h 40 = 100 := by unfold a_kd; rw [e]; rfl
theorem gl_40 {h : A_H} (e : h.1 = a_G0) : a_ln h 40 = 6 := by unfold a_ln; rw [e]; rfl
theorem gk_41 {h : A_H} (e : h.1 = a_G0) : a_kd h 41 = 100 := by unfold a_kd; rw [e]; rfl
theorem gl_41 {h : A_H} (e : h.1 = a_G0) : a_ln h 41 = 6 := by unfold a_ln; rw [e]; rfl
theorem gk_42 {h : A_H} (e : h.1 = a_G0) : a_kd h 42 = 100 := by unfold a_kd; rw [e]; rfl
theorem gl_42 {h : A_H} (e : h.1 = a_G0) : a_ln h 42 = 48 := by unfold a_ln; rw [e]; rfl
theorem gk_43 {h : A_H} (e : h.1 = a_G0) : a_kd h 43 = 100 := by unfold a_kd; rw [e]; rfl
theorem gl_43 {h : A_H} (e : h.1 = a_G0) : a_ln h 43 = 10 := by unfold a_ln; rw [e]; rfl
theorem gk_44 {h : A_H} (e : h.1 = a_G0) : a_kd h 44 = 100 := by unfold a_kd; rw [e]; rfl
theorem gl_44 {h : A_H} (e : h.1 = a_G0) : a_ln h 44 = 10 := by unfold a_ln; rw [e]; rfl
theorem gk_45 {h : A_H} (e : h.1 = a_G0) : a_kd h 45 = 100 := by unfold a_kd; rw [e]; rfl
theorem gl_45 {h : A_H} (e : h.1 = a_G0) : a_ln h 45 = 10 := by unfold a_ln; rw [e]; rfl
theorem gk_46 {h : A_H} (e : h.1 = a_G0) : a_kd h 46 = 100 := by unfold a_kd; rw [e]; rfl
theorem gl_46 {h : A_H} (e : h.1 = a_G0) : a_ln h 46 = 10 := by unfold a_ln; rw [e]; rfl
theorem gk_47 {h : A_H} (e : h.1 = a_G0) : a_kd h 47 = 100 := by unfold a_kd; rw [e]; rfl
theorem gl_47 {h : A_H} (e : h.1 = a_G0) : a_ln h 47 = 10 := by unfold a_ln; rw [e]; rfl
theorem gk_48 {h : A_H} (e : h.1 = a_G0) : a_kd h 48 = 100 := by unfold a_kd; rw [e]; rfl
theorem gl_48 {h : A_H} (e : h.1 = a_G0) : a_ln h 48 = 10 := by unfold a_ln; rw [e]; rfl
theorem gk_49 {h : A_H} (e : h.1 = a_G0) : a_kd h 49 = 100 := by unfold a_kd; rw [e]; rfl
theorem gl_49 {h : A_H} (e : h.1 = a_G0) : a_ln h 49 = 60 := by unfold a_ln; rw [e]; rfl
theorem gk_50 {h : A_H} (e : h.1 = a_G0) : a_kd h 50 = 7 := by unfold a_kd; rw [e]; rfl
theorem gr_50_0 {h : A_H} (e : h.1 = a_G0) : a_rf h 50 0 = some 51 := by unfold a_rf; rw [e]; rfl
theorem gk_51 {h : A_H} (e : h.1 = a_G0) : a_kd h 51 = 104 := by unfold a_kd; rw [e]; rfl
theorem gl_51 {h : A_H} (e : h.1 = a_G0) : a_ln h 51 = 8 := by unfold a_ln; rw [e]; rfl
theorem gr_51_0 {h : A_H} (e : h.1 = a_G0) : a_rf h 51 0 = some 52 := by unfold a_rf; rw [e]; rfl
theorem gr_51_1 {h : A_H} (e : h.1 = a_G0) : a_rf h 51 1 = some 64 := by unfold a_rf; rw [e]; rfl
theorem gr_51_2 {h : A_H} (e : h.1 = a_G0) : a_rf h 51 2 = some 76 := by unfold a_rf; rw [e]; rfl
theorem gr_51_3 {h : A_H} (e : h.1 = a_G0) : a_rf h 51 3 = some 88 := by unfold a_rf; rw [e]; rfl
theorem gr_51_4 {h : A_H} (e : h.1 = a_G0) : a_rf h 51 4 = some 100 := by unfold a_rf; rw [e]; rfl
theorem gr_51_5 {h : A_H} (e : h.1 = a_G0) : a_rf h 51 5 = some 112 := by unfold a_rf; rw [e]; rfl
theorem gr_51_6 {h : A_H} (e : h.1 = a_G0) : a_rf h 51 6 = some 124 := by unfold a_rf; rw [e]; rfl
theorem gr_51_7 {h : A_H} (e : h.1 = a_G0) : a_rf h 51 7 = some 136 := by unfold a_rf; rw [e]; rfl
theorem gk_52 {h : A_H} (e : h.1 = a_G0) : a_kd h 52 = 0 := by unfold a_kd; rw [e]; rfl
theorem gr_52_0 {h : A_H} (e : h.1 = a_G0) : a_rf h 52 0 = some 4 := by unfold a_rf; rw [e]; rfl
theorem gr_52_2 {h : A_H} (e : h.1 = a_G0) : a_rf h 52 2 = some 53 := by unfold a_rf; rw [e]; rfl
theorem gr_52_3 {h : A_H} (e : h.1 = a_G0) : a_rf h 52 3 = some 54 := by unfold a_rf; rw [e]; rfl
theorem gr_52_4 {h : A_H} (e : h.1 = a_G0) : a_rf h 52 4 = some 55 := by unfold a_rf; rw [e]; rfl
theorem gr_52_5 {h : A_H} (e : h.1 = a_G0) : a_rf h 52 5 = some 56 := by unfold a_rf; rw [e]; rfl
theorem gr_52_6 {h : A_H} (e : h.1 = a_G0) : a_rf h 52 6 = some 57 := by unfold a_rf; rw [e]; rfl
theorem gr_52_7 {h : A_H} (e : h.1 = a_G0) : a_rf h 52 7 = some 58 := by unfold a_rf; rw [e]; rfl
theorem gr_52_8 {h : A_H} (e : h.1 = a_G0) : a_rf h 52 8 = some 59 := by unfold a_rf; rw [e]; rfl
theorem gr_52_9 {h : A_H} (e : h.1 = a_G0) : a_rf h 52 9 = some 60 := by unfold a_rf; rw [e]; rfl
theorem gr_52_10 {h : A_H} (e : h.1 = a_G0) : a_rf h 52 10 = some 61 := by unfold a_rf; rw [e]; rfl
theorem gr_52_11 {h : A_H} (e : h.1 = a_G0) : a_rf h 52 11 = some 62 := by unfold a_rf; rw [e]; rfl
theorem gr_52_12 {h : A_H} (e : h.1 = a_G0) : a_rf h 52 12 = some 63 := by unfold a_rf; rw [e]; rfl
theorem gk_53 {h : A_H} (e : h.1 = a_G0) : a_kd h 53 = 100 := by unfold a_kd; rw [e]; rfl
theorem gl_53 {h : A_H} (e : h.1 = a_G0) : a_ln h 53 = 6 := by unfold a_ln; rw [e]; rfl
theorem gk_54 {h : A_H} (e : h.1 = a_G0) : a_kd h 54 = 100 := by unfold a_kd; rw [e]; rfl
theorem gl_54 {h : A_H} (e : h.1 = a_G0) : a_ln h 54 = 6 := by unfold a_ln; rw [e]; rfl
theorem gk_55 {h : A_H} (e : h.1 = a_G0) : a_kd h 55 = 100 := by unfold a_kd; rw [e]; rfl
theorem gl_55 {h : A_H} (e : h.1 = a_G0) : a_ln h 55 = 6 := by unfold a_ln; rw [e]; rfl
theorem gk_56 {h : A_H} (e : h.1 = a_G0) : a_kd h 56 = 100 := by unfold a_kd; rw [e]; rfl
theorem gl_56 {h : A_H} (e : h.1 = a_G0) : a_ln h 56 = 48 := by unfold a_ln; rw [e]; rfl
theorem gk_57 {h : A_H} (e : h.1 = a_G0) : a_kd h 57 = 100 := by unfold a_kd; rw [e]; rfl
theorem gl_57 {h : A_H} (e : h.1 = a_G0) : a_ln h 57 = 10 := by unfold a_ln; rw [e]; rfl
theorem gk_58 {h : A_H} (e : h.1 = a_G0) : a_kd h 58 = 100 := by unfold a_kd; rw [e]; rfl
theorem gl_58 {h : A_H} (e : h.1 = a_G0) : a_ln h 58 = 10 := by unfold a_ln; rw [e]; rfl
theorem gk_59 {h : A_H} (e : h.1 = a_G0) : a_kd h 59 = 100 := by unfold a_kd; rw [e]; rfl
theorem gl_59 {h : A_H} (e : h.1 = a_G0) : a_ln h 59 = 10 := by unfold a_ln; rw [e]; rfl
theorem gk_60 {h : A_H} (e : h.1 = a_G0) : a_kd h 60 = 100 := by unfold a_kd; rw [e]; rfl
theorem gl_60 {h : A_H} (e : h.1 = a_G0) : a_ln h 60 = 10 := by unfold a_ln; rw [e]; rfl
theorem gk_61 {h : A_H} (e : h.1 = a_G0) : a_kd h 61 = 100 := by unfold a_kd; rw [e]; rfl
theorem gl_61 {h : A_H} (e : h.1 = a_G0) : a_ln h 61 = 10 := by unfold a_ln; rw [e]; rfl
theorem gk_62 {h : A_H} (e : h.1 = a_G0) : a_kd h 62 = 100 := by unfold a_kd; rw [e]; rfl
theorem gl_62 {h : A_H} (e : h.1 = a_G0) : a_ln h 62 = 10 := by unfold a_ln; rw [e]; rfl
theorem gk_63 {h : A_H} (e : h.1 = a_G0) : a_kd h 63 = 100 := by unfold a_kd; rw [e]; rfl
theorem gl_63 {h : A_H} (e : h.1 = a_G0) : a_ln h 63 = 60 := by unfold a_ln; rw [e]; rfl
theorem gk_64 {h : A_H} (e : h.1 = a_G0) : a_kd h 64 = 0 := by unfold a_kd; rw [e]; rfl
theorem gr_64_0 {h : A_H} (e : h.1 = a_G0) : a_rf h 64 0 = some 4 := by unfold a_rf; rw [e]; rfl
theorem gr_64_2 {h : A_H} (e : h.1 = a_G0) : a_rf h 64 2 = some 65 := by unfold a_rf; rw [e]; rfl
theorem gr_64_3 {h : A_H} (e : h.1 = a_G0) : a_rf h 64 3 = some 66 := by unfold a_rf; rw [e]; rfl
theorem gr_64_4 {h : A_H} (e : h.1 = a_G0) : a_rf h 64 4 = some 67 := by unfold a_rf; rw [e]; rfl
theorem gr_64_5 {h : A_H} (e : h.1 = a_G0) : a_rf h 64 5 = some 68 := by unfold a_rf; rw [e]; rfl
theorem gr_64_6 {h : A_H} (e : h.1 = a_G0) : a_rf h 64 6 = some 69 := by unfold a_rf; rw [e]; rfl
theorem gr_64_7 {h : A_H} (e : h.1 = a_G0) : a_rf h 64 7 = some 70 := by unfold a_rf; rw [e]; rfl
theorem gr_64_8 {h : A_H} (e : h.1 = a_G0) : a_rf h 64 8 = some 71 := by unfold a_rf; rw [e]; rfl
theorem gr_64_9 {h : A_H} (e : h.1 = a_G0) : a_rf h 64 9 = some 72 := by unfold a_rf; rw [e]; rfl
theorem gr_64_10 {h : A_H} (e : h.1 = a_G0) : a_rf h 64 10 = some 73 := by unfold a_rf; rw [e]; rfl
theorem gr_64_11 {h : A_H} (e : h.1 = a_G0) : a_rf h 64 11 = some 74 := by unfold a_rf; rw [e]; rfl
theorem gr_64_12 {h : A_H} (e : h.1 = a_G0) : a_rf h 64 12 = some 75 := by unfold a_rf; rw [e]; rfl
theorem gk_65 {h : A_H} (e : h.1 = a_G0) : a_kd h 65 = 100 := by unfold a_kd; rw [e]; rfl
theorem gl_65 {h : A_H} (e : h.1 = a_G0) : a_ln h 65 = 6 := by unfold a_ln; rw [e]; rfl
theorem gk_66 {h : A_H} (e : h.1 = a_G0) : a_kd h 66 = 100 := by unfold a_kd; rw [e]; rfl
theorem gl_66 {h : A_H} (e : h.1 = a_G0) : a_ln h 66 = 6 := by unfold a_ln; rw [e]; rfl
theorem gk_67 {h : A_H} (e : h.1 = a_G0) : a_kd h 67 = 100 := by unfold a_kd; rw [e]; rfl
theorem gl_67 {h : A_H} (e : h.1 = a_G0) : a_ln h 67 = 6 := by unfold a_ln; rw [e]; rfl
theorem gk_68 {h : A_H} (e : h.1 = a_G0) : a_kd h 68 = 100 := by unfold a_kd; rw [e]; rfl
theorem gl_68 {h : A_H} (e : h.1 = a_G0) : a_ln h 68 = 48 := by unfold a_ln; rw [e]; rfl
theorem gk_69 {h : A_H} (e : h.1 = a_G0) : a_kd h 69 = 100 := by unfold a_kd; rw [e]; rfl
theorem gl_69 {h : A_H} (e : h.1 = a_G0) : a_ln h 69 = 10 := by unfold a_ln; rw [e]; rfl
theorem gk_70 {h : A_H} (e : h.1 = a_G0) : a_kd h 70 = 100 := by unfold a_kd; rw [e]; rfl
theorem gl_70 {h : A_H} (e : h.1 = a_G0) : a_ln h 70 = 10 := by unfold a_ln; rw [e]; rfl
theorem gk_71 {h : A_H} (e : h.1 = a_G0) : a_kd h 71 = 100 := by unfold a_kd; rw [e]; rfl
theorem gl_71 {h : A_H} (e : h.1 = a_G0) : a_ln h 71 = 10 := by unfold a_ln; rw [e]; rfl
theorem gk_72 {h : A_H} (e : h.1 = a_G0) : a_kd h 72 = 100 := by unfold a_kd; rw [e]; rfl
theorem gl_72 {h : A_H} (e : h.1 = a_G0) : a_ln h 72 = 10 := by unfold a_ln; rw [e]; rfl
theorem gk_73 {h : A_H} (e : h.1 = a_G0) : a_kd h 73 = 100 := by unfold a_kd; rw [e]; rfl
theorem gl_73 {h : A_H} (e : h.1 = a_G0) : a_ln h 73 = 10 := by unfold a_ln; rw [e]; rfl
theorem gk_74 {h : A_H} (e : h.1 = a_G0) : a_kd h 74 = 100 := by unfold a_kd; rw [e]; rfl
theorem gl_74 {h : A_H} (e : h.1 = a_G0) : a_ln h 74 = 10 := by unfold a_ln; rw [e]; rfl
theorem gk_75 {h : A_H} (e : h.1 = a_G0) : a_kd h 75 = 100 := by unfold a_kd; rw [e]; rfl
theorem gl_75 {h : A_H} (e : h.1 = a_G0) : a_ln h 75 = 60 := by unfold a_ln; rw [e]; rfl
theorem gk_76 {h : A_H} (e : h.1 = a_G0) : a_kd h 76 = 0 := by unfold a_kd; rw [e]; rfl
theorem gr_76_0 {h : A_H} (e : h.1 = a_G0) : a_rf h 76 0 = some 4 := by unfold a_rf; rw [e]; rfl
theorem gr_76_2 {h : A_H} (e : h.1 = a_G0) : a_rf h 76 2 = some 77 := by unfold a_rf; rw [e]; rfl
theorem gr_76_3 {h : A_H} (e : h.1 = a_G0) : a_rf h 76 3 = some 78 := by unfold a_rf; rw [e]; rfl
theorem gr_76_4 {h : A_H} (e : h.1 = a_G0) : a_rf h 76 4 = some 79 := by unfold a_rf; rw [e]; rfl
theorem gr_76_5 {h : A_H} (e : h.1 = a_G0) : a_rf h 76 5 = some 80 := by unfold a_rf; rw [e]; rfl
theorem gr_76_6 {h : A_H} (e : h.1 = a_G0) : a_rf h 76 6 = some 81 := by unfold a_rf; rw [e]; rfl
theorem gr_76_7 {h : A_H} (e : h.1 = a_G0) : a_rf h 76 7 = some 82 := by unfold a_rf; rw [e]; rfl
theorem gr_76_8 {h : A_H} (e : h.1 = a_G0) : a_rf h 76 8 = some 83 := by unfold a_rf; rw [e]; rfl
theorem gr_76_9 {h : A_H} (e : h.1 = a_G0) : a_rf h 76 9 = some 84 := by unfold a_rf; rw [e]; rfl
theorem gr_76_10 {h : A_H} (e : h.1 = a_G0) : a_rf h 76 10 = some 85 := by unfold a_rf; rw [e]; rfl
theorem gr_76_11 {h : A_H} (e : h.1 = a_G0) : a_rf h 76 11 = some 86 := by unfold a_rf; rw [e]; rfl
theorem gr_76_12 {h : A_H} (e : h.1 = a_G0) : a_rf h 76 12 = some 87 := by unfold a_rf; rw [e]; rfl
theorem gk_77 {h : A_H} (e : h.1 = a_G0) : a_kd h 77 = 100 := by unfold a_kd; rw [e]; rfl
theorem gl_77 {h : A_H} (e : h.1 = a_G0) : a_ln h 77 = 6 := by unfold a_ln; rw [e]; rfl
theorem gk_78 {h : A_H} (e : h.1 = a_G0) : a_kd h 78 = 100 := by unfold a_kd; rw [e]; rfl
theorem gl_78 {h : A_H} (e : h.1 = a_G0) : a_ln h 78 = 6 := by unfold a_ln; rw [e]; rfl
theorem gk_79 {h : A_H} (e : h.1 = a_G0) : a_kd h 79 = 100 := by unfold a_kd; rw [e]; rfl
theorem gl_79 {h : A_H} (e : h.1 = a_G0) : a_ln h 79 = 6 := by unfold a_ln; rw [e]; rfl
theorem gk_80 {h : A_H} (e : h.1 = a_G0) : a_kd h 80 = 100 := by unfold a_kd; rw [e]; rfl
theorem gl_80 {h : A_H} (e : h.1 = a_G0) : a_ln h 80 = 48 := by unfold a_ln; rw [e]; rfl
theorem gk_81 {h : A_H} (e : h.1 = a_G0) : a_kd h 81 = 100 := by unfold a_kd; rw [e]; rfl
theorem gl_81 {h : A_H} (e : h.1 = a_G0) : a_ln h 81 = 10 := by unfold a_ln; rw [e]; rfl
theorem gk_82 {h : A_H} (e : h.1 = a_G0) : a_kd h 82 = 100 := by unfold a_kd; rw [e]; rfl
theorem gl_82 {h : A_H} (e : h.1 = a_G0) : a_ln h 82 = 10 := by unfold a_ln; rw [e]; rfl
theorem gk_83 {h : A_H} (e : h.1 = a_G0) : a_kd h 83 = 100 := by unfold a_kd; rw [e]; rfl
theorem gl_83 {h : A_H} (e : h.1 = a_G0) : a_ln h 83 = 10 := by unfold a_ln; rw [e]; rfl
theorem gk_84 {h : A_H} (e : h.1 = a_G0) : a_kd h 84 = 100 := by unfold a_kd; rw [e]; rfl
theorem gl_84 {h : A_H} (e : h.1 = a_G0) : a_ln h 84 = 10 := by unfold a_ln; rw [e]; rfl
theorem gk_85 {h : A_H} (e : h.1 = a_G0) : a_kd h 85 = 100 := by unfold a_kd; rw [e]; rfl
theorem gl_85 {h : A_H} (e : h.1 = a_G0) : a_ln h 85 = 10 := by unfold a_ln; rw [e]; rfl
theorem gk_86 {h : A_H} (e : h.1 = a_G0) : a_kd h 86 = 100 := by unfold a_kd; rw [e]; rfl
theorem gl_86 {h : A_H} (e : h.1 = a_G0) : a_ln h 86 = 10 := by unfold a_ln; rw [e]; rfl
theorem gk_87 {h : A_H} (e : h.1 = a_G0) : a_kd h 87 = 100 := by unfold a_kd; rw [e]; rfl
theorem gl_87 {h : A_H} (e : h.1 = a_G0) : a_ln h 87 = 60 := by unfold a_ln; rw [e]; rfl
theorem gk_88 {h : A_H} (e : h.1 = a_G0) : a_kd h 88 = 0 := by unfold a_kd; rw [e]; rfl
theorem gr_88_0 {h : A_H} (e : h.1 = a_G0) : a_rf h 88 0 = some 4 := by unfold a_rf; rw [e]; rfl
theorem gr_88_2 {h : A_H} (e : h.1 = a_G0) : a_rf h 88 2 = some 89 := by unfold a_rf; rw [e]; rfl
theorem gr_88_3 {h : A_H} (e : h.1 = a_G0) : a_rf h 88 3 = some 90 := by unfold a_rf; rw [e]; rfl
theorem gr_88_4 {h : A_H} (e : h.1 = a_G0) : a_rf h 88 4 = some 91 := by unfold a_rf; rw [e]; rfl
theorem gr_88_5 {h : A_H} (e : h.1 = a_G0) : a_rf h 88 5 = some 92 := by unfold a_rf; rw [e]; rfl
theorem gr_88_6 {h : A_H} (e : h.1 = a_G0) : a_rf h 88 6 = some 93 := by unfold a_rf; rw [e]; rfl
theorem gr_88_7 {h : A_H} (e : h.1 = a_G0) : a_rf h 88 7 = some 94 := by unfold a_rf; rw [e]; rfl
theorem gr_88_8 {h : A_H} (e : h.1 = a_G0) : a_rf h 88 8 = some 95 := by unfold a_rf; rw [e]; rfl
theorem gr_88_9 {h : A_H} (e : h.1 = a_G0) : a_rf h 88 9 = some 96 := by unfold a_rf; rw [e]; rfl
theorem gr_88_10 {h : A_H} (e : h.1 = a_G0) : a_rf h 88 10 = some 97 := by unfold a_rf; rw [e]; rfl
theorem gr_88_11 {h : A_H} (e : h.1 = a_G0) : a_rf h 88 11 = some 98 := by unfold a_rf; rw [e]; rfl
theorem gr_88_12 {h : A_H} (e : h.1 = a_G0) : a_rf h 88 12 = some 99 := by unfold a_rf; rw [e]; rfl
theorem gk_89 {h : A_H} (e : h.1 = a_G0) : a_kd h 89 = 100 := by unfold a_kd; rw [e]; rfl
theorem gl_89 {h : A_H} (e : h.1 = a_G0) : a_ln h 89 = 6 := by unfold a_ln; rw [e]; rfl
theorem gk_90 {h : A_H} (e : h.1 = a_G0) : a_kd h 90 = 100 := by unfold a_kd; rw [e]; rfl
theorem gl_90 {h : A_H} (e : h.1 = a_G0) : a_ln h 90 = 6 := by unfold a_ln; rw [e]; rfl
theorem gk_91 {h : A_H} (e : h.1 = a_G0) : a_kd h 91 = 100 := by unfold a_kd; rw [e]; rfl
theorem gl_91 {h : A_H} (e : h.1 = a_G0) : a_ln h 91 = 6 := by unfold a_ln; rw [e]; rfl
theorem gk_92 {h : A_H} (e : h.1 = a_G0) : a_kd h 92 = 100 := by unfold a_kd; rw [e]; rfl
theorem gl_92 {h : A_H} (e : h.1 = a_G0) : a_ln h 92 = 48 := by unfold a_ln; rw [e]; rfl
theorem gk_93 {h : A_H} (e : h.1 = a_G0) : a_kd h 93 = 100 := by unfold a_kd; rw [e]; rfl
theorem gl_93 {h : A_H} (e : h.1 = a_G0) : a_ln h 93 = 10 := by unfold a_ln; rw [e]; rfl
theorem gk_94 {h : A_H} (e : h.1 = a_G0) : a_kd h 94 = 100 := by unfold a_kd; rw [e]; rfl
theorem gl_94 {h : A_H} (e : h.1 = a_G0) : a_ln h 94 = 10 := by unfold a_ln; rw [e]; rfl
theorem gk_95 {h : A_H} (e : h.1 = a_G0) : a_kd h 95 = 100 := by unfold a_kd; rw [e]; rfl
theorem gl_95 {h : A_H} (e : h.1 = a_G0) : a_ln h 95 = 10 := by unfold a_ln; rw [e]; rfl
theorem gk_96 {h : A_H} (e : h.1 = a_G0) : a_kd h 96 = 100 := by unfold a_kd; rw [e]; rfl
theorem gl_96 {h : A_H} (e : h.1 = a_G0) : a_ln h 96 = 10 := by unfold a_ln; rw [e]; rfl
theorem gk_97 {h : A_H} (e : h.1 = a_G0) : a_kd h 97 = 100 := by unfold a_kd; rw [e]; rfl
theorem gl_97 {h : A_H} (e : h.1 = a_G0) : a_ln h 97 = 10 := by unfold a_ln; rw [e]; rfl
theorem gk_98 {h : A_H} (e : h.1 = a_G0) : a_kd h 98 = 100 := by unfold a_kd; rw [e]; rfl
theorem gl_98 {h : A_H} (e : h.1 = a_G0) : a_ln h 98 = 10 := by unfold a_ln; rw [e]; rfl
theorem gk_99 {h : A_H} (e : h.1 = a_G0) : a_kd h 99 = 100 := by unfold a_kd; rw [e]; rfl
theorem gl_99 {h : A_H} (e : h.1 = a_G0) : a_ln h 99 = 60 := by unfold a_ln; rw [e]; rfl
theorem gk_100 {h : A_H} (e : h.1 = a_G0) : a_kd h 100 = 0 := by unfold a_kd; rw [e]; rfl
theorem gr_100_0 {h : A_H} (e : h.1 = a_G0) : a_rf h 100 0 = some 4 := by unfold a_rf; rw [e]; rfl
theorem gr_100_2 {h : A_H} (e : h.1 = a_G0) : a_rf h 100 2 = some 101 := by unfold a_rf; rw [e]; rfl
theorem gr_100_3 {h : A_H} (e : h.1 = a_G0) : a_rf h 100 3 = some 102 := by unfold a_rf; rw [e]; rfl
theorem gr_100_4 {h : A_H} (e : h.1 = a_G0) : a_rf h 100 4 = some 103 := by unfold a_rf; rw [e]; rfl
theorem gr_100_5 {h : A_H} (e : h.1 = a_G0) : a_rf h 100 5 = some 104 := by unfold a_rf; rw [e]; rfl
theorem gr_100_6 {h : A_H} (e : h.1 = a_G0) : a_rf h 100 6 = some 105 := by unfold a_rf; rw [e]; rfl
theorem gr_100_7 {h : A_H} (e : h.1 = a_G0) : a_rf h 100 7 = some 106 := by unfold a_rf; rw [e]; rfl
theorem gr_100_8 {h : A_H} (e : h.1 = a_G0) : a_rf h 100 8 = some 107 := by unfold a_rf; rw [e]; rfl
theorem gr_100_9 {h : A_H} (e : h.1 = a_G0) : a_rf h 100 9 = some 108 := by unfold a_rf; rw [e]; rfl
theorem gr_100_10 {h : A_H} (e : h.1 = a_G0) : a_rf h 100 10 = some 109 := by unfold a_rf; rw [e]; rfl
theorem gr_100_11 {h : A_H} (e : h.1 = a_G0) : a_rf h 100 11 = some 110 := by unfold a_rf; rw [e]; rfl
theorem gr_100_12 {h : A_H} (e : h.1 = a_G0) : a_rf h 100 12 = some 111 := by unfold a_rf; rw [e]; rfl
theorem gk_101 {h : A_H} (e : h.1 = a_G0) : a_kd h 101 = 100 := by unfold a_kd; rw [e]; rfl
theorem gl_101 {h : A_H} (e : h.1 = a_G0) : a_ln h 101 = 6 := by unfold a_ln; rw [e]; rfl
theorem gk_102 {h : A_H} (e : h.1 = a_G0) : a_kd h 102 = 100 := by unfold a_kd; rw [e]; rfl
theorem gl_102 {h : A_H} (e : h.1 = a_G0) : a_ln h 102 = 6 := by unfold a_ln; rw [e]; rfl
theorem gk_103 {h : A_H} (e : h.1 = a_G0) : a_kd h 103 = 100 := by unfold a_kd; rw [e]; rfl
theorem gl_103 {h : A_H} (e : h.1 = a_G0) : a_ln h 103 = 6 := by unfold a_ln; rw [e]; rfl
theorem gk_104 {h : A_H} (e : h.1 = a_G0) : a_kd h 104 = 100 := by unfold a_kd; rw [e]; rfl
theorem gl_104 {h : A_H} (e : h.1 = a_G0) : a_ln h 104 = 48 := by unfold a_ln; rw [e]; rfl
theorem gk_105 {h : A_H} (e : h.1 = a_G0) : a_kd h 105 = 100 := by unfold a_kd; rw [e]; rfl
theorem gl_105 {h : A_H} (e : h.1 = a_G0) : a_ln h 105 = 10 := by unfold a_ln; rw [e]; rfl
theorem gk_106 {h : A_H} (e : h.1 = a_G0) : a_kd h 106 = 100 := by unfold a_kd; rw [e]; rfl
theorem gl_106 {h : A_H} (e : h.1 = a_G0) : a_ln h 106 = 10 := by unfold a_ln; rw [e]; rfl
theorem gk_107 {h : A_H} (e : h.1 = a_G0) : a_kd h 107 = 100 := by unfold a_kd; rw [e]; rfl
theorem gl_107 {h : A_H} (e : h.1 = a_G0) : a_ln h 107 = 10 := by unfold a_ln; rw [e]; rfl
theorem gk_108 {h : A_H} (e : h.1 = a_G0) : a_kd h 108 = 100 := by unfold a_kd; rw [e]; rfl
theorem gl_108 {h : A_H} (e : h.1 = a_G0) : a_ln h 108 = 10 := by unfold a_ln; rw [e]; rfl
theorem gk_109 {h : A_H} (e : h.1 = a_G0) : a_kd h 109 = 100 := by unfold a_kd; rw [e]; rfl
theorem gl_109 {h : A_H} (e : h.1 = a_G0) : a_ln h 109 = 10 := by unfold a_ln; rw [e]; rfl
theorem gk_110 {h : A_H} (e : h.1 = a_G0) : a_kd h 110 = 100 := by unfold a_kd; rw [e]; rfl
theorem gl_110 {h : A_H} (e : h.1 = a_G0) : a_ln h 110 = 10 := by unfold a_ln; rw [e]; rfl
theorem gk_111 {h : A_H} (e : h.1 = a_G0) : a_kd h 111 = 100 := by unfold a_kd; rw [e]; rfl
theorem gl_111 {h : A_H} (e : h.1 = a_G0) : a_ln h 111 = 60 := by unfold a_ln; rw [e]; rfl
theorem gk_112 {h : A_H} (e : h.1 = a_G0) : a_kd h 112 = 0 := by unfold a_kd; rw [e]; rfl
theorem gr_112_0 {h : A_H} (e : h.1 = a_G0) : a_rf h 112 0 = some 4 := by unfold a_rf; rw [e]; rfl
theorem gr_112_2 {h : A_H} (e : h.1 = a_G0) : a_rf h 112 2 = some 113 := by unfold a_rf; rw [e]; rfl
theorem gr_112_3 {h : A_H} (e : h.1 = a_G0) : a_rf h 112 3 = some 114 := by unfold a_rf; rw [e]; rfl
theorem gr_112_4 {h : A_H} (e : h.1 = a_G0) : a_rf h 112 4 = some 115 := by unfold a_rf; rw [e]; rfl
theorem gr_112_5 {h : A_H} (e : h.1 = a_G0) : a_rf h 112 5 = some 116 := by unfold a_rf; rw [e]; rfl
theorem gr_112_6 {h : A_H} (e : h.1 = a_G0) : a_rf h 112 6 = some 117 := by unfold a_rf; rw [e]; rfl
theorem gr_112_7 {h : A_H} (e : h.1 = a_G0) : a_rf h 112 7 = some 118 := by unfold a_rf; rw [e]; rfl
theorem gr_112_8 {h : A_H} (e : h.1 = a_G0) : a_rf h 112 8 = some 119 := by unfold a_rf; rw [e]; rfl
theorem gr_112_9 {h : A_H} (e : h.1 = a_G0) : a_rf h 112 9 = some 120 := by unfold a_rf; rw [e]; rfl
theorem gr_112_10 {h : A_H} (e : h.1 = a_G0) : a_rf h 112 10 = some 121 := by unfold a_rf; rw [e]; rfl
theorem gr_112_11 {h : A_H} (e : h.1 = a_G0) : a_rf h 112 11 = some 122 := by unfold a_rf; rw [e]; rfl
theorem gr_112_12 {h : A_H} (e : h.1 = a_G0) : a_rf h 112 12 = some 123 := by unfold a_rf; rw [e]; rfl
theorem gk_113 {h : A_H} (e : h.1 = a_G0) : a_kd h 113 = 100 := by unfold a_kd; rw [e]; rfl
theorem gl_113 {h : A_H} (e : h.1 = a_G0) : a_ln h 113 = 6 := by unfold a_ln; rw [e]; rfl
theorem gk_114 {h : A_H} (e : h.1 = a_G0) : a_kd h 114 = 100 := by unfold a_kd; rw [e]; rfl
theorem gl_114 {h : A_H} (e : h.1 = a_G0) : a_ln h 114 = 6 := by unfold a_ln; rw [e]; rfl
theorem gk_115 {h : A_H} (e : h.1 = a_G0) : a_kd h 115 = 100 := by unfold a_kd; rw [e]; rfl
theorem gl_115 {h : A_H} (e : h.1 = a_G0) : a_ln h 115 = 6 := by unfold a_ln; rw [e]; rfl
theorem gk_116 {h : A_H} (e : h.1 = a_G0) : a_kd h 116 = 100 := by unfold a_kd; rw [e]; rfl
theorem gl_116 {h : A_H} (e : h.1 = a_G0) : a_ln h 116 = 48 := by unfold a_ln; rw [e]; rfl
theorem gk_117 {h : A_H} (e : h.1 = a_G0) : a_kd h 117 = 100 := by unfold a_kd; rw [e]; rfl
theorem gl_117 {h : A_H} (e : h.1 = a_G0) : a_ln h 117 = 10 := by unfold a_ln; rw [e]; rfl
theorem gk_118 {h : A_H} (e : h.1 = a_G0) : a_kd h 118 = 100 := by unfold a_kd; rw [e]; rfl
theorem gl_118 {h : A_H} (e : h.1 = a_G0) : a_ln h 118 = 10 := by unfold a_ln; rw [e]; rfl
theorem gk_119 {h : A_H} (e : h.1 = a_G0) : a_kd h 119 = 100 := by unfold a_kd; rw [e]; rfl
theorem gl_119 {h : A_H} (e : h.1 = a_G0) : a_ln h 119 = 10 := by unfold a_ln; rw [e]; rfl
theorem gk_120 {h : A_H} (e : h.1 = a_G0) : a_kd h 120 = 100 := by unfold a_kd; rw [e]; rfl
theorem gl_120 {h : A_H} (e : h.1 = a_G0) : a_ln h 120 = 10 := by unfold a_ln; rw [e]; rfl
theorem gk_121 {h : A_H} (e : h.1 = a_G0) : a_kd h 121 = 100 := by unfold a_kd; rw [e]; rfl
theorem gl_121 {h : A_H} (e : h.1 = a_G0) : a_ln h 121 = 10 := by unfold a_ln; rw [e]; rfl
theorem gk_122 {h : A_H} (e : h.1 = a_G0) : a_kd h 122 = 100 := by unfold a_kd; rw [e]; rfl
theorem gl_122 {h : A_H} (e : h.1 = a_G0) : a_ln h 122 = 10 := by unfold a_ln; rw [e]; rfl
theorem gk_123 {h : A_H} (e : h.1 = a_G0) : a_kd h 123 = 100 := by unfold a_kd; rw [e]; rfl
theorem gl_123 {h : A_H} (e : h.1 = a_G0) : a_ln h 123 = 60 := by unfold a_ln; rw [e]; rfl
theorem gk_124 {h : A_H} (e : h.1 = a_G0) : a_kd h 124 = 0 := by unfold a_kd; rw [e]; rfl
theorem gr_124_0 {h : A_H} (e : h.1 = a_G0) : a_rf h 124 0 = some 4 := by unfold a_rf; rw [e]; rfl
theorem gr_124_2 {h : A_H} (e : h.1 = a_G0) : a_rf h 124 2 = some 125 := by unfold a_rf; rw [e]; rfl
theorem gr_124_3 {h : A_H} (e : h.1 = a_G0) : a_rf h 124 3 = some 126 := by unfold a_rf; rw [e]; rfl
theorem gr_124_4 {h : A_H} (e : h.1 = a_G0) : a_rf h 124 4 = some 127 := by unfold a_rf; rw [e]; rfl
theorem gr_124_5 {h : A_H} (e : h.1 = a_G0) : a_rf h 124 5 = some 128 := by unfold a_rf; rw [e]; rfl
theorem gr_124_6 {h : A_H} (e : h.1 = a_G0) : a_rf h 124 6 = some 129 := by unfold a_rf; rw [e]; rfl
theorem gr_124_7 {h : A_H} (e : h.1 = a_G0) : a_rf h 124 7 = some 130 := by unfold a_rf; rw [e]; rfl
theorem gr_124_8 {h : A_H} (e : h.1 = a_G0) : a_rf h 124 8 = some 131 := by unfold a_rf; rw [e]; rfl
theorem gr_124_9 {h : A_H} (e : h.1 = a_G0) : a_rf h 124 9 = some 132 := by unfold a_rf; rw [e]; rfl
theorem gr_124_10 {h : A_H} (e : h.1 = a_G0) : a_rf h 124 10 = some 133 := by unfold a_rf; rw [e]; rfl
theorem gr_124_11 {h : A_H} (e : h.1 = a_G0) : a_rf h 124 11 = some 134 := by unfold a_rf; rw [e]; rfl
theorem gr_124_12 {h : A_H} (e : h.1 = a_G0) : a_rf h 124 12 = some 135 := by unfold a_rf; rw [e]; rfl
theorem gk_125 {h : A_H} (e : h.1 = a_G0) : a_kd h 125 = 100 := by unfold a_kd; rw [e]; rfl
theorem gl_125 {h : A_H} (e : h.1 = a_G0) : a_ln h 125 = 6 := by unfold a_ln; rw [e]; rfl
theorem gk_126 {h : A_H} (e : h.1 = a_G0) : a_kd h 126 = 100 := by unfold a_kd; rw [e]; rfl
theorem gl_126 {h : A_H} (e : h.1 = a_G0) : a_ln h 126 = 6 := by unfold a_ln; rw [e]; rfl
theorem gk_127 {h : A_H} (e : h.1 = a_G0) : a_kd h 127 = 100 := by unfold a_kd; rw [e]; rfl
theorem gl_127 {h : A_H} (e : h.1 = a_G0) : a_ln h 127 = 6 := by unfold a_ln; rw [e]; rfl
theorem gk_128 {h : A_H} (e : h.1 = a_G0) : a_kd h 128 = 100 := by unfold a_kd; rw [e]; rfl
theorem gl_128 {h : A_H} (e : h.1 = a_G0) : a_ln h 128 = 48 := by unfold a_ln; rw [e]; rfl
theorem gk_129 {h : A_H} (e : h.1 = a_G0) : a_kd h 129 = 100 := by unfold a_kd; rw [e]; rfl
theorem gl_129 {h : A_H} (e : h.1 = a_G0) : a_ln h 129 = 10 := by unfold a_ln; rw [e]; rfl
theorem gk_130 {h : A_H} (e : h.1 = a_G0) : a_kd h 130 = 100 := by unfold a_kd; rw [e]; rfl
theorem gl_130 {h : A_H} (e : h.1 = a_G0) : a_ln h 130 = 10 := by unfold a_ln; rw [e]; rfl
theorem gk_131 {h : A_H} (e : h.1 = a_G0) : a_kd h 131 = 100 := by unfold a_kd; rw [e]; rfl
theorem gl_131 {h : A_H} (e : h.1 = a_G0) : a_ln h 131 = 10 := by unfold a_ln; rw [e]; rfl
theorem gk_132 {h : A_H} (e : h.1 = a_G0) : a_kd h 132 = 100 := by unfold a_kd; rw [e]; rfl
theorem gl_132 {h : A_H} (e : h.1 = a_G0) : a_ln h 132 = 10 := by unfold a_ln; rw [e]; rfl
theorem gk_133 {h : A_H} (e : h.1 = a_G0) : a_kd h 133 = 100 := by unfold a_kd; rw [e]; rfl
theorem gl_133 {h : A_H} (e : h.1 = a_G0) : a_ln h 133 = 10 := by unfold a_ln; rw [e]; rfl
theorem gk_134 {h : A_H} (e : h.1 = a_G0) : a_kd h 134 = 100 := by unfold a_kd; rw [e]; rfl
theorem gl_134 {h : A_H} (e : h.1 = a_G0) : a_ln h 134 = 10 := by unfold a_ln; rw [e]; rfl
theorem gk_135 {h : A_H} (e : h.1 = a_G0) : a_kd h 135 = 100 := by unfold a_kd; rw [e]; rfl
theorem gl_135 {h : A_H} (e : h.1 = a_G0) : a_ln h 135 = 60 := by unfold a_ln; rw [e]; rfl
theorem gk_136 {h : A_H} (e : h.1 = a_G0) : a_kd h 136 = 0 := by unfold a_kd; rw [e]; rfl
theorem gr_136_0 {h : A_H} (e : h.1 = a_G0) : a_rf h 136 0 = some 4 := by unfold a_rf; rw [e]; rfl
theorem gr_136_2 {h : A_H} (e : h.1 = a_G0) : a_rf h 136 2 = some 137 := by unfold a_rf; rw [e]; rfl
theorem gr_136_3 {h : A_H} (e : h.1 = a_G0) : a_rf h 136 3 = some 138 := by unfold a_rf; rw [e]; rfl
theorem gr_136_4 {h : A_H} (e : h.1 = a_G0) : a_rf h 136 4 = some 139 := by unfold a_rf; rw [e]; rfl
theorem gr_136_5 {h : A_H} (e : h.1 = a_G0) : a_rf h 136 5 = some 140 := by unfold a_rf; rw [e]; rfl
theorem gr_136_6 {h : A_H} (e : h.1 = a_G0) : a_rf h 136 6 = some 141 := by unfold a_rf; rw [e]; rfl
theorem gr_136_7 {h : A_H} (e : h.1 = a_G0) : a_rf h 136 7 = some 142 := by unfold a_rf; rw [e]; rfl
theorem gr_136_8 {h : A_H} (e : h.1 = a_G0) : a_rf h 136 8 = some 143 := by unfold a_rf; rw [e]; rfl
theorem gr_136_9 {h : A_H} (e : h.1 = a_G0) : a_rf h 136 9 = some 144 := by unfold a_rf; rw [e]; rfl
theorem gr_136_10 {h : A_H} (e : h.1 = a_G0) : a_rf h 136 10 = some 145 := by unfold a_rf; rw [e]; rfl
theorem gr_136_11 {h : A_H} (e : h.1 = a_G0) : a_rf h 136 11 = some 146 := by unfold a_rf; rw [e]; rfl
theorem gr_136_12 {h : A_H} (e : h.1 = a_G0) : a_rf h 136 12 = some 147 := by unfold a_rf; rw [e]; rfl
theorem gk_137 {h : A_H} (e : h.1 = a_G0) : a_kd h 137 = 100 := by unfold a_kd; rw [e]; rfl
theorem gl_137 {h : A_H} (e : h.1 = a_G0) : a_ln h 137 = 6 := by unfold a_ln; rw [e]; rfl
theorem gk_138 {h : A_H} (e : h.1 = a_G0) : a_kd h 138 = 100 := by unfold a_kd; rw [e]; rfl
theorem gl_138 {h : A_H} (e : h.1 = a_G0) : a_ln h 138 = 6 := by unfold a_ln; rw [e]; rfl
theorem gk_139 {h : A_H} (e : h.1 = a_G0) : a_kd h 139 = 100 := by unfold a_kd; rw [e]; rfl
theorem gl_139 {h : A_H} (e : h.1 = a_G0) : a_ln h 139 = 6 := by unfold a_ln; rw [e]; rfl
theorem gk_140 {h : A_H} (e : h.1 = a_G0) : a_kd h 140 = 100 := by unfold a_kd; rw [e]; rfl
theorem gl_140 {h : A_H} (e : h.1 = a_G0) : a_ln h 140 = 48 := by unfold a_ln; rw [e]; rfl
theorem gk_141 {h : A_H} (e : h.1 = a_G0) : a_kd h 141 = 100 := by unfold a_kd; rw [e]; rfl
theorem gl_141 {h : A_H} (e : h.1 = a_G0) : a_ln h 141 = 10 := by unfold a_ln; rw [e]; rfl
theorem gk_142 {h : A_H} (e : h.1 = a_G0) : a_kd h 142 = 100 := by unfold a_kd; rw [e]; rfl
theorem gl_142 {h : A_H} (e : h.1 = a_G0) : a_ln h 142 = 10 := by unfold a_ln; rw [e]; rfl
theorem gk_143 {h : A_H} (e : h.1 = a_G0) : a_kd h 143 = 100 := by unfold a_kd; rw [e]; rfl
theorem gl_143 {h : A_H} (e : h.1 = a_G0) : a_ln h 143 = 10 := by unfold a_ln; rw [e]; rfl
theorem gk_144 {h : A_H} (e : h.1 = a_G0) : a_kd h 144 = 100 := by unfold a_kd; rw [e]; rfl
theorem gl_144 {h : A_H} (e : h.1 = a_G0) : a_ln h 144 = 10 := by unfold a_ln; rw [e]; rfl
theorem gk_145 {h : A_H} (e : h.1 = a_G0) : a_kd h 145 = 100 := by unfold a_kd; rw [e]; rfl
theorem gl_145 {h : A_H} (e : h.1 = a_G0) : a_ln h 145 = 10 := by unfold a_ln; rw [e]; rfl
theorem gk_146 {h : A_H} (e : h.1 = a_G0) : a_kd h 146 = 100 := by unfold a_kd; rw [e]; rfl
theorem gl_146 {h : A_H} (e : h.1 = a_G0) : a_ln h 146 = 10 := by unfold a_ln; rw [e]; rfl
theorem gk_147 {h : A_H} (e : h.1 = a_G0) : a_kd h 147 = 100 := by unfold a_kd; rw [e]; rfl
theorem gl_147 {h : A_H} (e : h.1 = a_G0) : a_ln h 147 = 60 := by unfold a_ln; rw [e]; rfl
theorem gk_148 {h : A_H} (e : h.1 = a_G0) : a_kd h 148 = 9 := by unfold a_kd; rw [e]; rfl
theorem gr_148_2 {h : A_H} (e : h.1 = a_G0) : a_rf h 148 2 = some 149 := by unfold a_rf; rw [e]; rfl
theorem gr_148_3 {h : A_H} (e : h.1 = a_G0) : a_rf h 148 3 = some 150 := by unfold a_rf; rw [e]; rfl
theorem gr_148_4 {h : A_H} (e : h.1 = a_G0) : a_rf h 148 4 = some 151 := by unfold a_rf; rw [e]; rfl
theorem gk_149 {h : A_H} (e : h.1 = a_G0) : a_kd h 149 = 100 := by unfold a_kd; rw [e]; rfl
theorem gl_149 {h : A_H} (e : h.1 = a_G0) : a_ln h 149 = 40 := by unfold a_ln; rw [e]; rfl
theorem gk_150 {h : A_H} (e : h.1 = a_G0) : a_kd h 150 = 100 := by unfold a_kd; rw [e]; rfl
theorem gl_150 {h : A_H} (e : h.1 = a_G0) : a_ln h 150 = 40 := by unfold a_ln; rw [e]; rfl
theorem gk_151 {h : A_H} (e : h.1 = a_G0) : a_kd h 151 = 100 := by unfold a_kd; rw [e]; rfl
theorem gl_151 {h : A_H} (e : h.1 = a_G0) : a_ln h 151 = 40 := by unfold a_ln; rw [e]; rfl
theorem gk_152 {h : A_H} (e : h.1 = a_G0) : a_kd h 152 = 9 := by unfold a_kd; rw [e]; rfl
theorem gr_152_2 {h : A_H} (e : h.1 = a_G0) : a_rf h 152 2 = some 153 := by unfold a_rf; rw [e]; rfl
theorem gr_152_3 {h : A_H} (e : h.1 = a_G0) : a_rf h 152 3 = some 154 := by unfold a_rf; rw [e]; rfl
theorem gr_152_4 {h : A_H} (e : h.1 = a_G0) : a_rf h 152 4 = some 155 := by unfold a_rf; rw [e]; rfl
theorem gk_153 {h : A_H} (e : h.1 = a_G0) : a_kd h 153 = 100 := by unfold a_kd; rw [e]; rfl
theorem gl_153 {h : A_H} (e : h.1 = a_G0) : a_ln h 153 = 40 := by unfold a_ln; rw [e]; rfl
theorem gk_154 {h : A_H} (e : h.1 = a_G0) : a_kd h 154 = 100 := by unfold a_kd; rw [e]; rfl
theorem gl_154 {h : A_H} (e : h.1 = a_G0) : a_ln h 154 = 40 := by unfold a_ln; rw [e]; rfl
theorem gk_155 {h : A_H} (e : h.1 = a_G0) : a_kd h 155 = 100 := by unfold a_kd; rw [e]; rfl
theorem gl_155 {h : A_H} (e : h.1 = a_G0) : a_ln h 155 = 40 := by unfold a_ln; rw [e]; rfl
theorem gk_156 {h : A_H} (e : h.1 = a_G0) : a_kd h 156 = 4 := by unfold a_kd; rw [e]; rfl
theorem gr_156_1 {h : A_H} (e : h.1 = a_G0) : a_rf h 156 1 = some 157 := by unfold a_rf; rw [e]; rfl
theorem gr_156_2 {h : A_H} (e : h.1 = a_G0) : a_rf h 156 2 = some 158 := by unfold a_rf; rw [e]; rfl
theorem gr_156_3 {h : A_H} (e : h.1 = a_G0) : a_rf h 156 3 = some 159 := by unfold a_rf; rw [e]; rfl
theorem gr_156_4 {h : A_H} (e : h.1 = a_G0) : a_rf h 156 4 = some 160 := by unfold a_rf; rw [e]; rfl
theorem gr_156_5 {h : A_H} (e : h.1 = a_G0) : a_rf h 156 5 = some 161 := by unfold a_rf; rw [e]; rfl
theorem gk_157 {h : A_H} (e : h.1 = a_G0) : a_kd h 157 = 100 := by unfold a_kd; rw [e]; rfl
theorem gl_157 {h : A_H} (e : h.1 = a_G0) : a_ln h 157 = 40 := by unfold a_ln; rw [e]; rfl
theorem gk_158 {h : A_H} (e : h.1 = a_G0) : a_kd h 158 = 100 := by unfold a_kd; rw [e]; rfl
theorem gl_158 {h : A_H} (e : h.1 = a_G0) : a_ln h 158 = 40 := by unfold a_ln; rw [e]; rfl
theorem gk_159 {h : A_H} (e : h.1 = a_G0) : a_kd h 159 = 100 := by unfold a_kd; rw [e]; rfl
theorem gl_159 {h : A_H} (e : h.1 = a_G0) : a_ln h 159 = 40 := by unfold a_ln; rw [e]; rfl
theorem gk_160 {h : A_H} (e : h.1 = a_G0) : a_kd h 160 = 100 := by unfold a_kd; rw [e]; rfl
theorem gl_160 {h : A_H} (e : h.1 = a_G0) : a_ln h 160 = 40 := by unfold a_ln; rw [e]; rfl
theorem gk_161 {h : A_H} (e : h.1 = a_G0) : a_kd h 161 = 100 := by unfold a_kd; rw [e]; rfl
theorem gl_161 {h : A_H} (e : h.1 = a_G0) : a_ln h 161 = 40 := by unfold a_ln; rw [e]; rfl
theorem gk_162 {h : A_H} (e : h.1 = a_G0) : a_kd h 162 = 6 := by unfold a_kd; rw [e]; rfl
theorem gr_162_0 {h : A_H} (e : h.1 = a_G0) : a_rf h 162 0 = some 4 := by unfold a_rf; rw [e]; rfl
theorem gr_162_1 {h : A_H} (e : h.1 = a_G0) : a_rf h 162 1 = some 26 := by unfold a_rf; rw [e]; rfl
theorem gr_162_2 {h : A_H} (e : h.1 = a_G0) : a_rf h 162 2 = some 163 := by unfold a_rf; rw [e]; rfl
theorem gr_162_4 {h : A_H} (e : h.1 = a_G0) : a_rf h 162 4 = some 164 := by unfold a_rf; rw [e]; rfl
theorem gr_162_5 {h : A_H} (e : h.1 = a_G0) : a_rf h 162 5 = some 165 := by unfold a_rf; rw [e]; rfl
theorem gr_162_6 {h : A_H} (e : h.1 = a_G0) : a_rf h 162 6 = some 166 := by unfold a_rf; rw [e]; rfl
theorem gk_163 {h : A_H} (e : h.1 = a_G0) : a_kd h 163 = 100 := by unfold a_kd; rw [e]; rfl
theorem gl_163 {h : A_H} (e : h.1 = a_G0) : a_ln h 163 = 10 := by unfold a_ln; rw [e]; rfl
theorem gk_164 {h : A_H} (e : h.1 = a_G0) : a_kd h 164 = 100 := by unfold a_kd; rw [e]; rfl
theorem gl_164 {h : A_H} (e : h.1 = a_G0) : a_ln h 164 = 6 := by unfold a_ln; rw [e]; rfl
theorem gk_165 {h : A_H} (e : h.1 = a_G0) : a_kd h 165 = 100 := by unfold a_kd; rw [e]; rfl
theorem gl_165 {h : A_H} (e : h.1 = a_G0) : a_ln h 165 = 6 := by unfold a_ln; rw [e]; rfl
theorem gk_166 {h : A_H} (e : h.1 = a_G0) : a_kd h 166 = 100 := by unfold a_kd; rw [e]; rfl
theorem gl_166 {h : A_H} (e : h.1 = a_G0) : a_ln h 166 = 6 := by unfold a_ln; rw [e]; rfl
theorem gk_167 {h : A_H} (e : h.1 = a_G0) : a_kd h 167 = 5 := by unfold a_kd; rw [e]; rfl
theorem gr_167_0 {h : A_H} (e : h.1 = a_G0) : a_rf h 167 0 = some 4 := by unfold a_rf; rw [e]; rfl
theorem gr_167_1 {h : A_H} (e : h.1 = a_G0) : a_rf h 167 1 = some 26 := by unfold a_rf; rw [e]; rfl
theorem gr_167_2 {h : A_H} (e : h.1 = a_G0) : a_rf h 167 2 = some 168 := by unfold a_rf; rw [e]; rfl
theorem gr_167_4 {h : A_H} (e : h.1 = a_G0) : a_rf h 167 4 = some 169 := by unfold a_rf; rw [e]; rfl
theorem gr_167_5 {h : A_H} (e : h.1 = a_G0) : a_rf h 167 5 = some 170 := by unfold a_rf; rw [e]; rfl
theorem gr_167_6 {h : A_H} (e : h.1 = a_G0) : a_rf h 167 6 = some 171 := by unfold a_rf; rw [e]; rfl
theorem gk_168 {h : A_H} (e : h.1 = a_G0) : a_kd h 168 = 100 := by unfold a_kd; rw [e]; rfl
theorem gl_168 {h : A_H} (e : h.1 = a_G0) : a_ln h 168 = 8 := by unfold a_ln; rw [e]; rfl
theorem gk_169 {h : A_H} (e : h.1 = a_G0) : a_kd h 169 = 100 := by unfold a_kd; rw [e]; rfl
theorem gl_169 {h : A_H} (e : h.1 = a_G0) : a_ln h 169 = 8 := by unfold a_ln; rw [e]; rfl
theorem gk_170 {h : A_H} (e : h.1 = a_G0) : a_kd h 170 = 100 := by unfold a_kd; rw [e]; rfl
theorem gl_170 {h : A_H} (e : h.1 = a_G0) : a_ln h 170 = 1024 := by unfold a_ln; rw [e]; rfl
theorem gk_171 {h : A_H} (e : h.1 = a_G0) : a_kd h 171 = 100 := by unfold a_kd; rw [e]; rfl
theorem gl_171 {h : A_H} (e : h.1 = a_G0) : a_ln h 171 = 8 := by unfold a_ln; rw [e]; rfl
theorem gk_172 {h : A_H} (e : h.1 = a_G0) : a_kd h 172 = 8 := by unfold a_kd; rw [e]; rfl
theorem gr_172_0 {h : A_H} (e : h.1 = a_G0) : a_rf h 172 0 = some 4 := by unfold a_rf; rw [e]; rfl
theorem gr_172_1 {h : A_H} (e : h.1 = a_G0) : a_rf h 172 1 = some 26 := by unfold a_rf; rw [e]; rfl
theorem gr_172_2 {h : A_H} (e : h.1 = a_G0) : a_rf h 172 2 = some 173 := by unfold a_rf; rw [e]; rfl
theorem gr_172_3 {h : A_H} (e : h.1 = a_G0) : a_rf h 172 3 = some 174 := by unfold a_rf; rw [e]; rfl
theorem gr_172_4 {h : A_H} (e : h.1 = a_G0) : a_rf h 172 4 = some 175 := by unfold a_rf; rw [e]; rfl
theorem gk_173 {h : A_H} (e : h.1 = a_G0) : a_kd h 173 = 100 := by unfold a_kd; rw [e]; rfl
theorem gl_173 {h : A_H} (e : h.1 = a_G0) : a_ln h 173 = 6 := by unfold a_ln; rw [e]; rfl
theorem gk_174 {h : A_H} (e : h.1 = a_G0) : a_kd h 174 = 100 := by unfold a_kd; rw [e]; rfl
theorem gl_174 {h : A_H} (e : h.1 = a_G0) : a_ln h 174 = 6 := by unfold a_ln; rw [e]; rfl
theorem gk_175 {h : A_H} (e : h.1 = a_G0) : a_kd h 175 = 100 := by unfold a_kd; rw [e]; rfl
theorem gl_175 {h : A_H} (e : h.1 = a_G0) : a_ln h 175 = 6 := by unfold a_ln; rw [e]; rfl
theorem gk_176 {h : A_H} (e : h.1 = a_G0) : a_kd h 176 = 1 := by unfold a_kd; rw [e]; rfl
theorem gk_177 {h : A_H} (e : h.1 = a_G0) : a_kd h 177 = 105 := by unfold a_kd; rw [e]; rfl
theorem gl_177 {h : A_H} (e : h.1 = a_G0) : a_ln h 177 = 2 := by unfold a_ln; rw [e]; rfl
theorem gr_177_0 {h : A_H} (e : h.1 = a_G0) : a_rf h 177 0 = some 178 := by unfold a_rf; rw [e]; rfl
theorem gr_177_1 {h : A_H} (e : h.1 = a_G0) : a_rf h 177 1 = some 206 := by unfold a_rf; rw [e]; rfl
theorem gk_178 {h : A_H} (e : h.1 = a_G0) : a_kd h 178 = 3 := by unfold a_kd; rw [e]; rfl
theorem gr_178_0 {h : A_H} (e : h.1 = a_G0) : a_rf h 178 0 = some 179 := by unfold a_rf; rw [e]; rfl
theorem gr_178_1 {h : A_H} (e : h.1 = a_G0) : a_rf h 178 1 = some 190 := by unfold a_rf; rw [e]; rfl
theorem gr_178_2 {h : A_H} (e : h.1 = a_G0) : a_rf h 178 2 = some 202 := by unfold a_rf; rw [e]; rfl
theorem gk_179 {h : A_H} (e : h.1 = a_G0) : a_kd h 179 = 2 := by unfold a_kd; rw [e]; rfl
theorem gr_179_7 {h : A_H} (e : h.1 = a_G0) : a_rf h 179 7 = some 180 := by unfold a_rf; rw [e]; rfl
theorem gr_179_8 {h : A_H} (e : h.1 = a_G0) : a_rf h 179 8 = some 181 := by unfold a_rf; rw [e]; rfl
theorem gr_179_9 {h : A_H} (e : h.1 = a_G0) : a_rf h 179 9 = some 182 := by unfold a_rf; rw [e]; rfl
theorem gr_179_10 {h : A_H} (e : h.1 = a_G0) : a_rf h 179 10 = some 183 := by unfold a_rf; rw [e]; rfl
theorem gr_179_11 {h : A_H} (e : h.1 = a_G0) : a_rf h 179 11 = some 184 := by unfold a_rf; rw [e]; rfl
theorem gr_179_12 {h : A_H} (e : h.1 = a_G0) : a_rf h 179 12 = some 185 := by unfold a_rf; rw [e]; rfl
theorem gr_179_13 {h : A_H} (e : h.1 = a_G0) : a_rf h 179 13 = some 186 := by unfold a_rf; rw [e]; rfl
theorem gr_179_14 {h : A_H} (e : h.1 = a_G0) : a_rf h 179 14 = some 187 := by unfold a_rf; rw [e]; rfl
theorem gr_179_15 {h : A_H} (e : h.1 = a_G0) : a_rf h 179 15 = some 188 := by unfold a_rf; rw [e]; rfl
theorem gr_179_16 {h : A_H} (e : h.1 = a_G0) : a_rf h 179 16 = some 189 := by unfold a_rf; rw [e]; rfl
theorem gk_180 {h : A_H} (e : h.1 = a_G0) : a_kd h 180 = 101 := by unfold a_kd; rw [e]; rfl
theorem gl_180 {h : A_H} (e : h.1 = a_G0) : a_ln h 180 = 30 := by unfold a_ln; rw [e]; rfl
theorem gk_181 {h : A_H} (e : h.1 = a_G0) : a_kd h 181 = 100 := by unfold a_kd; rw [e]; rfl
theorem gl_181 {h : A_H} (e : h.1 = a_G0) : a_ln h 181 = 30 := by unfold a_ln; rw [e]; rfl
theorem gk_182 {h : A_H} (e : h.1 = a_G0) : a_kd h 182 = 100 := by unfold a_kd; rw [e]; rfl
theorem gl_182 {h : A_H} (e : h.1 = a_G0) : a_ln h 182 = 30 := by unfold a_ln; rw [e]; rfl
theorem gk_183 {h : A_H} (e : h.1 = a_G0) : a_kd h 183 = 100 := by unfold a_kd; rw [e]; rfl
theorem gl_183 {h : A_H} (e : h.1 = a_G0) : a_ln h 183 = 6 := by unfold a_ln; rw [e]; rfl
theorem gk_184 {h : A_H} (e : h.1 = a_G0) : a_kd h 184 = 100 := by unfold a_kd; rw [e]; rfl
theorem gl_184 {h : A_H} (e : h.1 = a_G0) : a_ln h 184 = 8 := by unfold a_ln; rw [e]; rfl
theorem gk_185 {h : A_H} (e : h.1 = a_G0) : a_kd h 185 = 100 := by unfold a_kd; rw [e]; rfl
theorem gl_185 {h : A_H} (e : h.1 = a_G0) : a_ln h 185 = 48 := by unfold a_ln; rw [e]; rfl
theorem gk_186 {h : A_H} (e : h.1 = a_G0) : a_kd h 186 = 100 := by unfold a_kd; rw [e]; rfl
theorem gl_186 {h : A_H} (e : h.1 = a_G0) : a_ln h 186 = 10 := by unfold a_ln; rw [e]; rfl
theorem gk_187 {h : A_H} (e : h.1 = a_G0) : a_kd h 187 = 100 := by unfold a_kd; rw [e]; rfl
theorem gl_187 {h : A_H} (e : h.1 = a_G0) : a_ln h 187 = 10 := by unfold a_ln; rw [e]; rfl
theorem gk_188 {h : A_H} (e : h.1 = a_G0) : a_kd h 188 = 100 := by unfold a_kd; rw [e]; rfl
theorem gl_188 {h : A_H} (e : h.1 = a_G0) : a_ln h 188 = 60 := by unfold a_ln; rw [e]; rfl
theorem gk_189 {h : A_H} (e : h.1 = a_G0) : a_kd h 189 = 100 := by unfold a_kd; rw [e]; rfl
theorem gl_189 {h : A_H} (e : h.1 = a_G0) : a_ln h 189 = 10 := by unfold a_ln; rw [e]; rfl
theorem gk_190 {h : A_H} (e : h.1 = a_G0) : a_kd h 190 = 0 := by unfold a_kd; rw [e]; rfl
theorem gr_190_0 {h : A_H} (e : h.1 = a_G0) : a_rf h 190 0 = some 179 := by unfold a_rf; rw [e]; rfl
theorem gr_190_2 {h : A_H} (e : h.1 = a_G0) : a_rf h 190 2 = some 191 := by unfold a_rf; rw [e]; rfl
theorem gr_190_3 {h : A_H} (e : h.1 = a_G0) : a_rf h 190 3 = some 192 := by unfold a_rf; rw [e]; rfl
theorem gr_190_4 {h : A_H} (e : h.1 = a_G0) : a_rf h 190 4 = some 193 := by unfold a_rf; rw [e]; rfl
theorem gr_190_5 {h : A_H} (e : h.1 = a_G0) : a_rf h 190 5 = some 194 := by unfold a_rf; rw [e]; rfl
theorem gr_190_6 {h : A_H} (e : h.1 = a_G0) : a_rf h 190 6 = some 195 := by unfold a_rf; rw [e]; rfl
theorem gr_190_7 {h : A_H} (e : h.1 = a_G0) : a_rf h 190 7 = some 196 := by unfold a_rf; rw [e]; rfl
theorem gr_190_8 {h : A_H} (e : h.1 = a_G0) : a_rf h 190 8 = some 197 := by unfold a_rf; rw [e]; rfl
theorem gr_190_9 {h : A_H} (e : h.1 = a_G0) : a_rf h 190 9 = some 198 := by unfold a_rf; rw [e]; rfl
theorem gr_190_10 {h : A_H} (e : h.1 = a_G0) : a_rf h 190 10 = some 199 := by unfold a_rf; rw [e]; rfl
theorem gr_190_11 {h : A_H} (e : h.1 = a_G0) : a_rf h 190 11 = some 200 := by unfold a_rf; rw [e]; rfl
theorem gr_190_12 {h : A_H} (e : h.1 = a_G0) : a_rf h 190 12 = some 201 := by unfold a_rf; rw [e]; rfl
theorem gk_191 {h : A_H} (e : h.1 = a_G0) : a_kd h 191 = 100 := by unfold a_kd; rw [e]; rfl
theorem gl_191 {h : A_H} (e : h.1 = a_G0) : a_ln h 191 = 6 := by unfold a_ln; rw [e]; rfl
theorem gk_192 {h : A_H} (e : h.1 = a_G0) : a_kd h 192 = 100 := by unfold a_kd; rw [e]; rfl
theorem gl_192 {h : A_H} (e : h.1 = a_G0) : a_ln h 192 = 6 := by unfold a_ln; rw [e]; rfl
theorem gk_193 {h : A_H} (e : h.1 = a_G0) : a_kd h 193 = 100 := by unfold a_kd; rw [e]; rfl
theorem gl_193 {h : A_H} (e : h.1 = a_G0) : a_ln h 193 = 6 := by unfold a_ln; rw [e]; rfl
theorem gk_194 {h : A_H} (e : h.1 = a_G0) : a_kd h 194 = 100 := by unfold a_kd; rw [e]; rfl
theorem gl_194 {h : A_H} (e : h.1 = a_G0) : a_ln h 194 = 48 := by unfold a_ln; rw [e]; rfl
theorem gk_195 {h : A_H} (e : h.1 = a_G0) : a_kd h 195 = 100 := by unfold a_kd; rw [e]; rfl
theorem gl_195 {h : A_H} (e : h.1 = a_G0) : a_ln h 195 = 10 := by unfold a_ln; rw [e]; rfl
theorem gk_196 {h : A_H} (e : h.1 = a_G0) : a_kd h 196 = 100 := by unfold a_kd; rw [e]; rfl
theorem gl_196 {h : A_H} (e : h.1 = a_G0) : a_ln h 196 = 10 := by unfold a_ln; rw [e]; rfl
theorem gk_197 {h : A_H} (e : h.1 = a_G0) : a_kd h 197 = 100 := by unfold a_kd; rw [e]; rfl
theorem gl_197 {h : A_H} (e : h.1 = a_G0) : a_ln h 197 = 10 := by unfold a_ln; rw [e]; rfl
theorem gk_198 {h : A_H} (e : h.1 = a_G0) : a_kd h 198 = 100 := by unfold a_kd; rw [e]; rfl
theorem gl_198 {h : A_H} (e : h.1 = a_G0) : a_ln h 198 = 10 := by unfold a_ln; rw [e]; rfl
theorem gk_199 {h : A_H} (e : h.1 = a_G0) : a_kd h 199 = 100 := by unfold a_kd; rw [e]; rfl
theorem gl_199 {h : A_H} (e : h.1 = a_G0) : a_ln h 199 = 10 := by unfold a_ln; rw [e]; rfl
theorem gk_200 {h : A_H} (e : h.1 = a_G0) : a_kd h 200 = 100 := by unfold a_kd; rw [e]; rfl
theorem gl_200 {h : A_H} (e : h.1 = a_G0) : a_ln h 200 = 10 := by unfold a_ln; rw [e]; rfl
theorem gk_201 {h : A_H} (e : h.1 = a_G0) : a_kd h 201 = 100 := by unfold a_kd; rw [e]; rfl
theorem gl_201 {h : A_H} (e : h.1 = a_G0) : a_ln h 201 = 60 := by unfold a_ln; rw [e]; rfl
theorem gk_202 {h : A_H} (e : h.1 = a_G0) : a_kd h 202 = 9 := by unfold a_kd; rw [e]; rfl
theorem gr_202_2 {h : A_H} (e : h.1 = a_G0) : a_rf h 202 2 = some 203 := by unfold a_rf; rw [e]; rfl
theorem gr_202_3 {h : A_H} (e : h.1 = a_G0) : a_rf h 202 3 = some 204 := by unfold a_rf; rw [e]; rfl
theorem gr_202_4 {h : A_H} (e : h.1 = a_G0) : a_rf h 202 4 = some 205 := by unfold a_rf; rw [e]; rfl
theorem gk_203 {h : A_H} (e : h.1 = a_G0) : a_kd h 203 = 100 := by unfold a_kd; rw [e]; rfl
theorem gl_203 {h : A_H} (e : h.1 = a_G0) : a_ln h 203 = 40 := by unfold a_ln; rw [e]; rfl
theorem gk_204 {h : A_H} (e : h.1 = a_G0) : a_kd h 204 = 100 := by unfold a_kd; rw [e]; rfl
theorem gl_204 {h : A_H} (e : h.1 = a_G0) : a_ln h 204 = 40 := by unfold a_ln; rw [e]; rfl
theorem gk_205 {h : A_H} (e : h.1 = a_G0) : a_kd h 205 = 100 := by unfold a_kd; rw [e]; rfl
theorem gl_205 {h : A_H} (e : h.1 = a_G0) : a_ln h 205 = 40 := by unfold a_ln; rw [e]; rfl
theorem gk_206 {h : A_H} (e : h.1 = a_G0) : a_kd h 206 = 3 := by unfold a_kd; rw [e]; rfl
theorem gr_206_0 {h : A_H} (e : h.1 = a_G0) : a_rf h 206 0 = some 207 := by unfold a_rf; rw [e]; rfl
theorem gr_206_1 {h : A_H} (e : h.1 = a_G0) : a_rf h 206 1 = some 218 := by unfold a_rf; rw [e]; rfl
theorem gr_206_2 {h : A_H} (e : h.1 = a_G0) : a_rf h 206 2 = some 230 := by unfold a_rf; rw [e]; rfl
theorem gk_207 {h : A_H} (e : h.1 = a_G0) : a_kd h 207 = 2 := by unfold a_kd; rw [e]; rfl
theorem gr_207_7 {h : A_H} (e : h.1 = a_G0) : a_rf h 207 7 = some 208 := by unfold a_rf; rw [e]; rfl
theorem gr_207_8 {h : A_H} (e : h.1 = a_G0) : a_rf h 207 8 = some 209 := by unfold a_rf; rw [e]; rfl
theorem gr_207_9 {h : A_H} (e : h.1 = a_G0) : a_rf h 207 9 = some 210 := by unfold a_rf; rw [e]; rfl
theorem gr_207_10 {h : A_H} (e : h.1 = a_G0) : a_rf h 207 10 = some 211 := by unfold a_rf; rw [e]; rfl
theorem gr_207_11 {h : A_H} (e : h.1 = a_G0) : a_rf h 207 11 = some 212 := by unfold a_rf; rw [e]; rfl
theorem gr_207_12 {h : A_H} (e : h.1 = a_G0) : a_rf h 207 12 = some 213 := by unfold a_rf; rw [e]; rfl
theorem gr_207_13 {h : A_H} (e : h.1 = a_G0) : a_rf h 207 13 = some 214 := by unfold a_rf; rw [e]; rfl
theorem gr_207_14 {h : A_H} (e : h.1 = a_G0) : a_rf h 207 14 = some 215 := by unfold a_rf; rw [e]; rfl
theorem gr_207_15 {h : A_H} (e : h.1 = a_G0) : a_rf h 207 15 = some 216 := by unfold a_rf; rw [e]; rfl
theorem gr_207_16 {h : A_H} (e : h.1 = a_G0) : a_rf h 207 16 = some 217 := by unfold a_rf; rw [e]; rfl
theorem gk_208 {h : A_H} (e : h.1 = a_G0) : a_kd h 208 = 101 := by unfold a_kd; rw [e]; rfl
theorem gl_208 {h : A_H} (e : h.1 = a_G0) : a_ln h 208 = 30 := by unfold a_ln; rw [e]; rfl
theorem gk_209 {h : A_H} (e : h.1 = a_G0) : a_kd h 209 = 100 := by unfold a_kd; rw [e]; rfl
theorem gl_209 {h : A_H} (e : h.1 = a_G0) : a_ln h 209 = 30 := by unfold a_ln; rw [e]; rfl
theorem gk_210 {h : A_H} (e : h.1 = a_G0) : a_kd h 210 = 100 := by unfold a_kd; rw [e]; rfl
theorem gl_210 {h : A_H} (e : h.1 = a_G0) : a_ln h 210 = 30 := by unfold a_ln; rw [e]; rfl
theorem gk_211 {h : A_H} (e : h.1 = a_G0) : a_kd h 211 = 100 := by unfold a_kd; rw [e]; rfl
theorem gl_211 {h : A_H} (e : h.1 = a_G0) : a_ln h 211 = 6 := by unfold a_ln; rw [e]; rfl
theorem gk_212 {h : A_H} (e : h.1 = a_G0) : a_kd h 212 = 100 := by unfold a_kd; rw [e]; rfl
theorem gl_212 {h : A_H} (e : h.1 = a_G0) : a_ln h 212 = 8 := by unfold a_ln; rw [e]; rfl
theorem gk_213 {h : A_H} (e : h.1 = a_G0) : a_kd h 213 = 100 := by unfold a_kd; rw [e]; rfl
theorem gl_213 {h : A_H} (e : h.1 = a_G0) : a_ln h 213 = 48 := by unfold a_ln; rw [e]; rfl
theorem gk_214 {h : A_H} (e : h.1 = a_G0) : a_kd h 214 = 100 := by unfold a_kd; rw [e]; rfl
theorem gl_214 {h : A_H} (e : h.1 = a_G0) : a_ln h 214 = 10 := by unfold a_ln; rw [e]; rfl
theorem gk_215 {h : A_H} (e : h.1 = a_G0) : a_kd h 215 = 100 := by unfold a_kd; rw [e]; rfl
theorem gl_215 {h : A_H} (e : h.1 = a_G0) : a_ln h 215 = 10 := by unfold a_ln; rw [e]; rfl
theorem gk_216 {h : A_H} (e : h.1 = a_G0) : a_kd h 216 = 100 := by unfold a_kd; rw [e]; rfl
theorem gl_216 {h : A_H} (e : h.1 = a_G0) : a_ln h 216 = 60 := by unfold a_ln; rw [e]; rfl
theorem gk_217 {h : A_H} (e : h.1 = a_G0) : a_kd h 217 = 100 := by unfold a_kd; rw [e]; rfl
theorem gl_217 {h : A_H} (e : h.1 = a_G0) : a_ln h 217 = 10 := by unfold a_ln; rw [e]; rfl
theorem gk_218 {h : A_H} (e : h.1 = a_G0) : a_kd h 218 = 0 := by unfold a_kd; rw [e]; rfl
theorem gr_218_0 {h : A_H} (e : h.1 = a_G0) : a_rf h 218 0 = some 207 := by unfold a_rf; rw [e]; rfl
theorem gr_218_2 {h : A_H} (e : h.1 = a_G0) : a_rf h 218 2 = some 219 := by unfold a_rf; rw [e]; rfl
theorem gr_218_3 {h : A_H} (e : h.1 = a_G0) : a_rf h 218 3 = some 220 := by unfold a_rf; rw [e]; rfl
theorem gr_218_4 {h : A_H} (e : h.1 = a_G0) : a_rf h 218 4 = some 221 := by unfold a_rf; rw [e]; rfl
theorem gr_218_5 {h : A_H} (e : h.1 = a_G0) : a_rf h 218 5 = some 222 := by unfold a_rf; rw [e]; rfl
theorem gr_218_6 {h : A_H} (e : h.1 = a_G0) : a_rf h 218 6 = some 223 := by unfold a_rf; rw [e]; rfl
theorem gr_218_7 {h : A_H} (e : h.1 = a_G0) : a_rf h 218 7 = some 224 := by unfold a_rf; rw [e]; rfl
theorem gr_218_8 {h : A_H} (e : h.1 = a_G0) : a_rf h 218 8 = some 225 := by unfold a_rf; rw [e]; rfl
theorem gr_218_9 {h : A_H} (e : h.1 = a_G0) : a_rf h 218 9 = some 226 := by unfold a_rf; rw [e]; rfl
theorem gr_218_10 {h : A_H} (e : h.1 = a_G0) : a_rf h 218 10 = some 227 := by unfold a_rf; rw [e]; rfl
theorem gr_218_11 {h : A_H} (e : h.1 = a_G0) : a_rf h 218 11 = some 228 := by unfold a_rf; rw [e]; rfl
theorem gr_218_12 {h : A_H} (e : h.1 = a_G0) : a_rf h 218 12 = some 229 := by unfold a_rf; rw [e]; rfl
theorem gk_219 {h : A_H} (e : h.1 = a_G0) : a_kd h 219 = 100 := by unfold a_kd; rw [e]; rfl
theorem gl_219 {h : A_H} (e : h.1 = a_G0) : a_ln h 219 = 6 := by unfold a_ln; rw [e]; rfl
theorem gk_220 {h : A_H} (e : h.1 = a_G0) : a_kd h 220 = 100 := by unfold a_kd; rw [e]; rfl
theorem gl_220 {h : A_H} (e : h.1 = a_G0) : a_ln h 220 = 6 := by unfold a_ln; rw [e]; rfl
theorem gk_221 {h : A_H} (e : h.1 = a_G0) : a_kd h 221 = 100 := by unfold a_kd; rw [e]; rfl
theorem gl_221 {h : A_H} (e : h.1 = a_G0) : a_ln h 221 = 6 := by unfold a_ln; rw [e]; rfl
theorem gk_222 {h : A_H} (e : h.1 = a_G0) : a_kd h 222 = 100 := by unfold a_kd; rw [e]; rfl
theorem gl_222 {h : A_H} (e : h.1 = a_G0) : a_ln h 222 = 48 := by unfold a_ln; rw [e]; rfl
theorem gk_223 {h : A_H} (e : h.1 = a_G0) : a_kd h 223 = 100 := by unfold a_kd; rw [e]; rfl
theorem gl_223 {h : A_H} (e : h.1 = a_G0) : a_ln h 223 = 10 := by unfold a_ln; rw [e]; rfl
theorem gk_224 {h : A_H} (e : h.1 = a_G0) : a_kd h 224 = 100 := by unfold a_kd; rw [e]; rfl
theorem gl_224 {h : A_H} (e : h.1 = a_G0) : a_ln h 224 = 10 := by unfold a_ln; rw [e]; rfl
theorem gk_225 {h : A_H} (e : h.1 = a_G0) : a_kd h 225 = 100 := by unfold a_kd; rw [e]; rfl
theorem gl_225 {h : A_H} (e : h.1 = a_G0) : a_ln h 225 = 10 := by unfold a_ln; rw [e]; rfl
theorem gk_226 {h : A_H} (e : h.1 = a_G0) : a_kd h 226 = 100 := by unfold a_kd; rw [e]; rfl
theorem gl_226 {h : A_H} (e : h.1 = a_G0) : a_ln h 226 = 10 := by unfold a_ln; rw [e]; rfl
theorem gk_227 {h : A_H} (e : h.1 = a_G0) : a_kd h 227 = 100 := by unfold a_kd; rw [e]; rfl
theorem gl_227 {h : A_H} (e : h.1 = a_G0) : a_ln h 227 = 10 := by unfold a_ln; rw [e]; rfl
theorem gk_228 {h : A_H} (e : h.1 = a_G0) : a_kd h 228 = 100 := by unfold a_kd; rw [e]; rfl
theorem gl_228 {h : A_H} (e : h.1 = a_G0) : a_ln h 228 = 10 := by unfold a_ln; rw [e]; rfl
theorem gk_229 {h : A_H} (e : h.1 = a_G0) : a_kd h 229 = 100 := by unfold a_kd; rw [e]; rfl
theorem gl_229 {h : A_H} (e : h.1 = a_G0) : a_ln h 229 = 60 := by unfold a_ln; rw [e]; rfl
theorem gk_230 {h : A_H} (e : h.1 = a_G0) : a_kd h 230 = 9 := by unfold a_kd; rw [e]; rfl
theorem gr_230_2 {h : A_H} (e : h.1 = a_G0) : a_rf h 230 2 = some 231 := by unfold a_rf; rw [e]; rfl
theorem gr_230_3 {h : A_H} (e : h.1 = a_G0) : a_rf h 230 3 = some 232 := by unfold a_rf; rw [e]; rfl
theorem gr_230_4 {h : A_H} (e : h.1 = a_G0) : a_rf h 230 4 = some 233 := by unfold a_rf; rw [e]; rfl
theorem gk_231 {h : A_H} (e : h.1 = a_G0) : a_kd h 231 = 100 := by unfold a_kd; rw [e]; rfl
theorem gl_231 {h : A_H} (e : h.1 = a_G0) : a_ln h 231 = 40 := by unfold a_ln; rw [e]; rfl
theorem gk_232 {h : A_H} (e : h.1 = a_G0) : a_kd h 232 = 100 := by unfold a_kd; rw [e]; rfl
theorem gl_232 {h : A_H} (e : h.1 = a_G0) : a_ln h 232 = 40 := by unfold a_ln; rw [e]; rfl
theorem gk_233 {h : A_H} (e : h.1 = a_G0) : a_kd h 233 = 100 := by unfold a_kd; rw [e]; rfl
theorem gl_233 {h : A_H} (e : h.1 = a_G0) : a_ln h 233 = 40 := by unfold a_ln; rw [e]; rfl
theorem gk_234 {h : A_H} (e : h.1 = a_G0) : a_kd h 234 = 12 := by unfold a_kd; rw [e]; rfl
theorem gr_234_1 {h : A_H} (e : h.1 = a_G0) : a_rf h 234 1 = some 235 := by unfold a_rf; rw [e]; rfl
theorem gr_234_6 {h : A_H} (e : h.1 = a_G0) : a_rf h 234 6 = some 236 := by unfold a_rf; rw [e]; rfl
theorem gr_234_7 {h : A_H} (e : h.1 = a_G0) : a_rf h 234 7 = some 237 := by unfold a_rf; rw [e]; rfl
theorem gr_234_8 {h : A_H} (e : h.1 = a_G0) : a_rf h 234 8 = some 238 := by unfold a_rf; rw [e]; rfl
theorem gr_234_9 {h : A_H} (e : h.1 = a_G0) : a_rf h 234 9 = some 239 := by unfold a_rf; rw [e]; rfl
theorem gr_234_10 {h : A_H} (e : h.1 = a_G0) : a_rf h 234 10 = some 240 := by unfold a_rf; rw [e]; rfl
theorem gr_234_21 {h : A_H} (e : h.1 = a_G0) : a_rf h 234 21 = some 241 := by unfold a_rf; rw [e]; rfl
theorem gr_234_22 {h : A_H} (e : h.1 = a_G0) : a_rf h 234 22 = some 242 := by unfold a_rf; rw [e]; rfl
theorem gr_234_24 {h : A_H} (e : h.1 = a_G0) : a_rf h 234 24 = some 243 := by unfold a_rf; rw [e]; rfl
theorem gr_234_25 {h : A_H} (e : h.1 = a_G0) : a_rf h 234 25 = some 244 := by unfold a_rf; rw [e]; rfl
theorem gr_234_27 {h : A_H} (e : h.1 = a_G0) : a_rf h 234 27 = some 245 := by unfold a_rf; rw [e]; rfl
theorem gr_234_28 {h : A_H} (e : h.1 = a_G0) : a_rf h 234 28 = some 246 := by unfold a_rf; rw [e]; rfl
theorem gr_234_29 {h : A_H} (e : h.1 = a_G0) : a_rf h 234 29 = some 247 := by unfold a_rf; rw [e]; rfl
theorem gr_234_37 {h : A_H} (e : h.1 = a_G0) : a_rf h 234 37 = some 248 := by unfold a_rf; rw [e]; rfl
theorem gr_234_38 {h : A_H} (e : h.1 = a_G0) : a_rf h 234 38 = some 249 := by unfold a_rf; rw [e]; rfl
theorem gr_234_39 {h : A_H} (e : h.1 = a_G0) : a_rf h 234 39 = some 250 := by unfold a_rf; rw [e]; rfl
theorem gr_234_42 {h : A_H} (e : h.1 = a_G0) : a_rf h 234 42 = some 251 := by unfold a_rf; rw [e]; rfl
theorem gr_234_44 {h : A_H} (e : h.1 = a_G0) : a_rf h 234 44 = some 252 := by unfold a_rf; rw [e]; rfl
theorem gr_234_50 {h : A_H} (e : h.1 = a_G0) : a_rf h 234 50 = some 253 := by unfold a_rf; rw [e]; rfl
theorem gr_234_51 {h : A_H} (e : h.1 = a_G0) : a_rf h 234 51 = some 254 := by unfold a_rf; rw [e]; rfl
theorem gr_234_52 {h : A_H} (e : h.1 = a_G0) : a_rf h 234 52 = some 255 := by unfold a_rf; rw [e]; rfl
theorem gr_234_53 {h : A_H} (e : h.1 = a_G0) : a_rf h 234 53 = some 256 := by unfold a_rf; rw [e]; rfl
theorem gk_235 {h : A_H} (e : h.1 = a_G0) : a_kd h 235 = 103 := by unfold a_kd; rw [e]; rfl
theorem gl_235 {h : A_H} (e : h.1 = a_G0) : a_ln h 235 = 940 := by unfold a_ln; rw [e]; rfl
theorem gk_236 {h : A_H} (e : h.1 = a_G0) : a_kd h 236 = 100 := by unfold a_kd; rw [e]; rfl
theorem gl_236 {h : A_H} (e : h.1 = a_G0) : a_ln h 236 = 533 := by unfold a_ln; rw [e]; rfl
theorem gk_237 {h : A_H} (e : h.1 = a_G0) : a_kd h 237 = 100 := by unfold a_kd; rw [e]; rfl
theorem gl_237 {h : A_H} (e : h.1 = a_G0) : a_ln h 237 = 157 := by unfold a_ln; rw [e]; rfl
theorem gk_238 {h : A_H} (e : h.1 = a_G0) : a_kd h 238 = 100 := by unfold a_kd; rw [e]; rfl
theorem gl_238 {h : A_H} (e : h.1 = a_G0) : a_ln h 238 = 135 := by unfold a_ln; rw [e]; rfl
theorem gk_239 {h : A_H} (e : h.1 = a_G0) : a_kd h 239 = 101 := by unfold a_kd; rw [e]; rfl
theorem gl_239 {h : A_H} (e : h.1 = a_G0) : a_ln h 239 = 60 := by unfold a_ln; rw [e]; rfl
theorem gk_240 {h : A_H} (e : h.1 = a_G0) : a_kd h 240 = 101 := by unfold a_kd; rw [e]; rfl
theorem gl_240 {h : A_H} (e : h.1 = a_G0) : a_ln h 240 = 19 := by unfold a_ln; rw [e]; rfl
theorem gk_241 {h : A_H} (e : h.1 = a_G0) : a_kd h 241 = 100 := by unfold a_kd; rw [e]; rfl
theorem gl_241 {h : A_H} (e : h.1 = a_G0) : a_ln h 241 = 1560 := by unfold a_ln; rw [e]; rfl
theorem gk_242 {h : A_H} (e : h.1 = a_G0) : a_kd h 242 = 100 := by unfold a_kd; rw [e]; rfl
theorem gl_242 {h : A_H} (e : h.1 = a_G0) : a_ln h 242 = 195 := by unfold a_ln; rw [e]; rfl
theorem gk_243 {h : A_H} (e : h.1 = a_G0) : a_kd h 243 = 102 := by unfold a_kd; rw [e]; rfl
theorem gl_243 {h : A_H} (e : h.1 = a_G0) : a_ln h 243 = 1024 := by unfold a_ln; rw [e]; rfl
theorem gk_244 {h : A_H} (e : h.1 = a_G0) : a_kd h 244 = 100 := by unfold a_kd; rw [e]; rfl
theorem gl_244 {h : A_H} (e : h.1 = a_G0) : a_ln h 244 = 10 := by unfold a_ln; rw [e]; rfl
theorem gk_245 {h : A_H} (e : h.1 = a_G0) : a_kd h 245 = 102 := by unfold a_kd; rw [e]; rfl
theorem gl_245 {h : A_H} (e : h.1 = a_G0) : a_ln h 245 = 1024 := by unfold a_ln; rw [e]; rfl
theorem gk_246 {h : A_H} (e : h.1 = a_G0) : a_kd h 246 = 100 := by unfold a_kd; rw [e]; rfl
theorem gl_246 {h : A_H} (e : h.1 = a_G0) : a_ln h 246 = 9216 := by unfold a_ln; rw [e]; rfl
theorem gk_247 {h : A_H} (e : h.1 = a_G0) : a_kd h 247 = 100 := by unfold a_kd; rw [e]; rfl
theorem gl_247 {h : A_H} (e : h.1 = a_G0) : a_ln h 247 = 8 := by unfold a_ln; rw [e]; rfl
theorem gk_248 {h : A_H} (e : h.1 = a_G0) : a_kd h 248 = 100 := by unfold a_kd; rw [e]; rfl
theorem gl_248 {h : A_H} (e : h.1 = a_G0) : a_ln h 248 = 6 := by unfold a_ln; rw [e]; rfl
theorem gk_249 {h : A_H} (e : h.1 = a_G0) : a_kd h 249 = 100 := by unfold a_kd; rw [e]; rfl
theorem gl_249 {h : A_H} (e : h.1 = a_G0) : a_ln h 249 = 6 := by unfold a_ln; rw [e]; rfl
theorem gk_250 {h : A_H} (e : h.1 = a_G0) : a_kd h 250 = 100 := by unfold a_kd; rw [e]; rfl
theorem gl_250 {h : A_H} (e : h.1 = a_G0) : a_ln h 250 = 6 := by unfold a_ln; rw [e]; rfl
theorem gk_251 {h : A_H} (e : h.1 = a_G0) : a_kd h 251 = 100 := by unfold a_kd; rw [e]; rfl
theorem gl_251 {h : A_H} (e : h.1 = a_G0) : a_ln h 251 = 4 := by unfold a_ln; rw [e]; rfl
theorem gk_252 {h : A_H} (e : h.1 = a_G0) : a_kd h 252 = 100 := by unfold a_kd; rw [e]; rfl
theorem gl_252 {h : A_H} (e : h.1 = a_G0) : a_ln h 252 = 45 := by unfold a_ln; rw [e]; rfl
theorem gk_253 {h : A_H} (e : h.1 = a_G0) : a_kd h 253 = 102 := by unfold a_kd; rw [e]; rfl
theorem gl_253 {h : A_H} (e : h.1 = a_G0) : a_ln h 253 = 45 := by unfold a_ln; rw [e]; rfl
theorem gk_254 {h : A_H} (e : h.1 = a_G0) : a_kd h 254 = 100 := by unfold a_kd; rw [e]; rfl
theorem gl_254 {h : A_H} (e : h.1 = a_G0) : a_ln h 254 = 1066 := by unfold a_ln; rw [e]; rfl
theorem gk_255 {h : A_H} (e : h.1 = a_G0) : a_kd h 255 = 101 := by unfold a_kd; rw [e]; rfl
theorem gl_255 {h : A_H} (e : h.1 = a_G0) : a_ln h 255 = 60 := by unfold a_ln; rw [e]; rfl
theorem gk_256 {h : A_H} (e : h.1 = a_G0) : a_kd h 256 = 102 := by unfold a_kd; rw [e]; rfl
theorem gl_256 {h : A_H} (e : h.1 = a_G0) : a_ln h 256 = 2 := by unfold a_ln; rw [e]; rfl
theorem gk_257 {h : A_H} (e : h.1 = a_G0) : a_kd h 257 = 101 := by unfold a_kd; rw [e]; rfl
theorem gl_257 {h : A_H} (e : h.1 = a_G0) : a_ln h 257 = 1 := by unfold a_ln; rw [e]; rfl
