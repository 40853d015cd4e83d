set_option maxRecDepth 100000 in
theorem g9_La_law_0 : fk_cp a_nw a_tn "EndingMarketLaw" "law" 1 code k_La_law_0 80 (k_La_law_0.drop 0) = true := by decide +kernel
set_option maxRecDepth 100000 in
theorem g9_La_law_80 : fk_cp a_nw a_tn "EndingMarketLaw" "law" 1 code k_La_law_0 80 (k_La_law_0.drop 80) = true := by decide +kernel
set_option maxRecDepth 100000 in
theorem g9_La_law_160 : fk_cp a_nw a_tn "EndingMarketLaw" "law" 1 code k_La_law_0 80 (k_La_law_0.drop 160) = true := by decide +kernel
set_option maxRecDepth 100000 in
theorem g9_La_law_240 : fk_cp a_nw a_tn "EndingMarketLaw" "law" 1 code k_La_law_0 80 (k_La_law_0.drop 240) = true := by decide +kernel
set_option maxRecDepth 100000 in
theorem g9_La_law_320 : fk_cp a_nw a_tn "EndingMarketLaw" "law" 1 code k_La_law_0 80 (k_La_law_0.drop 320) = true := by decide +kernel
set_option maxRecDepth 100000 in
theorem g9_La_law_400 : fk_cp a_nw a_tn "EndingMarketLaw" "law" 1 code k_La_law_0 80 (k_La_law_0.drop 400) = true := by decide +kernel
set_option maxRecDepth 100000 in
theorem g9_La_law_480 : fk_cp a_nw a_tn "EndingMarketLaw" "law" 1 code k_La_law_0 80 (k_La_law_0.drop 480) = true := by decide +kernel
set_option maxRecDepth 100000 in
theorem g9_La_law_560 : fk_cp a_nw a_tn "EndingMarketLaw" "law" 1 code k_La_law_0 80 (k_La_law_0.drop 560) = true := by decide +kernel
set_option maxRecDepth 100000 in
theorem g9_La_law_640 : fk_cp a_nw a_tn "EndingMarketLaw" "law" 1 code k_La_law_0 80 (k_La_law_0.drop 640) = true := by decide +kernel
set_option maxRecDepth 100000 in
theorem g9_La_law_720 : fk_cp a_nw a_tn "EndingMarketLaw" "law" 1 code k_La_law_0 80 (k_La_law_0.drop 720) = true := by decide +kernel
set_option maxRecDepth 100000 in
theorem g9_La_law_800 : fk_cp a_nw a_tn "EndingMarketLaw" "law" 1 code k_La_law_0 80 (k_La_law_0.drop 800) = true := by decide +kernel
theorem h9_La_law_880 : fk_co a_nw a_tn "EndingMarketLaw" "law" 1 code k_La_law_0 (k_La_law_0.drop 880) = true := by decide +kernel
theorem h9_La_law_800 : fk_co a_nw a_tn "EndingMarketLaw" "law" 1 code k_La_law_0 (k_La_law_0.drop 800) = true := fk_cp_ok 80 _ g9_La_law_800 (by rw [List.drop_drop]; exact h9_La_law_880)
theorem h9_La_law_720 : fk_co a_nw a_tn "EndingMarketLaw" "law" 1 code k_La_law_0 (k_La_law_0.drop 720) = true := fk_cp_ok 80 _ g9_La_law_720 (by rw [List.drop_drop]; exact h9_La_law_800)
theorem h9_La_law_640 : fk_co a_nw a_tn "EndingMarketLaw" "law" 1 code k_La_law_0 (k_La_law_0.drop 640) = true := fk_cp_ok 80 _ g9_La_law_640 (by rw [List.drop_drop]; exact h9_La_law_720)
theorem h9_La_law_560 : fk_co a_nw a_tn "EndingMarketLaw" "law" 1 code k_La_law_0 (k_La_law_0.drop 560) = true := fk_cp_ok 80 _ g9_La_law_560 (by rw [List.drop_drop]; exact h9_La_law_640)
theorem h9_La_law_480 : fk_co a_nw a_tn "EndingMarketLaw" "law" 1 code k_La_law_0 (k_La_law_0.drop 480) = true := fk_cp_ok 80 _ g9_La_law_480 (by rw [List.drop_drop]; exact h9_La_law_560)
theorem h9_La_law_400 : fk_co a_nw a_tn "EndingMarketLaw" "law" 1 code k_La_law_0 (k_La_law_0.drop 400) = true := fk_cp_ok 80 _ g9_La_law_400 (by rw [List.drop_drop]; exact h9_La_law_480)
theorem h9_La_law_320 : fk_co a_nw a_tn "EndingMarketLaw" "law" 1 code k_La_law_0 (k_La_law_0.drop 320) = true := fk_cp_ok 80 _ g9_La_law_320 (by rw [List.drop_drop]; exact h9_La_law_400)
theorem h9_La_law_240 : fk_co a_nw a_tn "EndingMarketLaw" "law" 1 code k_La_law_0 (k_La_law_0.drop 240) = true := fk_cp_ok 80 _ g9_La_law_240 (by rw [List.drop_drop]; exact h9_La_law_320)
theorem h9_La_law_160 : fk_co a_nw a_tn "EndingMarketLaw" "law" 1 code k_La_law_0 (k_La_law_0.drop 160) = true := fk_cp_ok 80 _ g9_La_law_160 (by rw [List.drop_drop]; exact h9_La_law_240)
theorem h9_La_law_80 : fk_co a_nw a_tn "EndingMarketLaw" "law" 1 code k_La_law_0 (k_La_law_0.drop 80) = true := fk_cp_ok 80 _ g9_La_law_80 (by rw [List.drop_drop]; exact h9_La_law_160)
theorem h9_La_law_0 : fk_co a_nw a_tn "EndingMarketLaw" "law" 1 code k_La_law_0 (k_La_law_0.drop 0) = true := fk_cp_ok 80 _ g9_La_law_0 (by rw [List.drop_drop]; exact h9_La_law_80)
theorem o_La_law : a_co a_nw a_tn "EndingMarketLaw" "law" 1 code k_La_law_0 k_La_law_0 = true := fk_okc h9_La_law_0
