set_option maxRecDepth 100000 in
theorem o_La_law : a_co a_nw a_tn "EndingMarketLaw" "law" 1 code k_La_law_0 k_La_law_0 = true := by decide +kernel
