set_option maxRecDepth 100000 in
theorem g9_Mo_line_0 : fk_cp a_nw a_tn "EndingMarketModel" "line" 1 prog_14_method_29_code k_Mo_line_0 70 (k_Mo_line_0.drop 0) = true := by decide +kernel
set_option maxRecDepth 100000 in
theorem g9_Mo_line_70 : fk_cp a_nw a_tn "EndingMarketModel" "line" 1 prog_14_method_29_code k_Mo_line_0 70 (k_Mo_line_0.drop 70) = true := by decide +kernel
set_option maxRecDepth 100000 in
theorem g9_Mo_line_140 : fk_cp a_nw a_tn "EndingMarketModel" "line" 1 prog_14_method_29_code k_Mo_line_0 70 (k_Mo_line_0.drop 140) = true := by decide +kernel
set_option maxRecDepth 100000 in
theorem g9_Mo_line_210 : fk_cp a_nw a_tn "EndingMarketModel" "line" 1 prog_14_method_29_code k_Mo_line_0 70 (k_Mo_line_0.drop 210) = true := by decide +kernel
theorem h9_Mo_line_280 : fk_co a_nw a_tn "EndingMarketModel" "line" 1 prog_14_method_29_code k_Mo_line_0 (k_Mo_line_0.drop 280) = true := by decide +kernel
theorem h9_Mo_line_210 : fk_co a_nw a_tn "EndingMarketModel" "line" 1 prog_14_method_29_code k_Mo_line_0 (k_Mo_line_0.drop 210) = true := fk_cp_ok 70 _ g9_Mo_line_210 (by rw [List.drop_drop]; exact h9_Mo_line_280)
theorem h9_Mo_line_140 : fk_co a_nw a_tn "EndingMarketModel" "line" 1 prog_14_method_29_code k_Mo_line_0 (k_Mo_line_0.drop 140) = true := fk_cp_ok 70 _ g9_Mo_line_140 (by rw [List.drop_drop]; exact h9_Mo_line_210)
theorem h9_Mo_line_70 : fk_co a_nw a_tn "EndingMarketModel" "line" 1 prog_14_method_29_code k_Mo_line_0 (k_Mo_line_0.drop 70) = true := fk_cp_ok 70 _ g9_Mo_line_70 (by rw [List.drop_drop]; exact h9_Mo_line_140)
theorem h9_Mo_line_0 : fk_co a_nw a_tn "EndingMarketModel" "line" 1 prog_14_method_29_code k_Mo_line_0 (k_Mo_line_0.drop 0) = true := fk_cp_ok 70 _ g9_Mo_line_0 (by rw [List.drop_drop]; exact h9_Mo_line_70)
set_option maxRecDepth 100000 in
theorem g9_Mo_line : fk_hd a_nw a_tn 223 m_Mo_line 1807 153 = true := by decide +kernel
theorem o_Mo_line : a_cm a_nw a_tn 223 m_Mo_line 1807 153 = true := fk_of g9_Mo_line h9_Mo_line_0
set_option maxRecDepth 100000 in
theorem o_Mo_readKinds : a_cm a_nw a_tn 224 m_Mo_readKinds 1850 153 = true := fk_ok (by decide +kernel)
set_option maxRecDepth 100000 in
theorem o_Mo_market : a_cm a_nw a_tn 225 m_Mo_market 1785 153 = true := fk_ok (by decide +kernel)
set_option maxRecDepth 100000 in
theorem o_Mo_fault : a_cm a_nw a_tn 226 m_Mo_fault 1862 153 = true := fk_ok (by decide +kernel)
set_option maxRecDepth 100000 in
theorem o_Mo_isKind : a_cm a_nw a_tn 227 m_Mo_isKind 1902 153 = true := fk_ok (by decide +kernel)
set_option maxRecDepth 100000 in
theorem o_Mo_isMan : a_cm a_nw a_tn 228 m_Mo_isMan 1922 153 = true := fk_ok (by decide +kernel)
set_option maxRecDepth 100000 in
theorem o_Mo_isThing : a_cm a_nw a_tn 229 m_Mo_isThing 1870 153 = true := fk_ok (by decide +kernel)
set_option maxRecDepth 100000 in
theorem o_Mo_isEnding : a_cm a_nw a_tn 230 m_Mo_isEnding 1910 153 = true := fk_ok (by decide +kernel)
set_option maxRecDepth 100000 in
theorem o_Mo_isPut : a_cm a_nw a_tn 231 m_Mo_isPut 1882 153 = true := fk_ok (by decide +kernel)
set_option maxRecDepth 100000 in
theorem o_Mo_openOf : a_cm a_nw a_tn 232 m_Mo_openOf 1894 153 = true := fk_ok (by decide +kernel)
set_option maxRecDepth 100000 in
theorem o_Mo_closed : a_cm a_nw a_tn 233 m_Mo_closed 1890 153 = true := fk_ok (by decide +kernel)
set_option maxRecDepth 100000 in
theorem o_Mo_fitsRow : a_cm a_nw a_tn 234 m_Mo_fitsRow 1886 153 = true := fk_ok (by decide +kernel)
set_option maxRecDepth 100000 in
theorem o_Mo_doesFit : a_cm a_nw a_tn 235 m_Mo_doesFit 1878 153 = true := fk_ok (by decide +kernel)
set_option maxRecDepth 100000 in
theorem o_Mo_endingsOf : a_cm a_nw a_tn 236 m_Mo_endingsOf 1926 153 = true := fk_ok (by decide +kernel)
set_option maxRecDepth 100000 in
theorem o_Mo_putSet : a_cm a_nw a_tn 237 m_Mo_putSet 1938 153 = true := fk_ok (by decide +kernel)
set_option maxRecDepth 100000 in
theorem o_Mo_endedSet : a_cm a_nw a_tn 238 m_Mo_endedSet 1934 153 = true := fk_ok (by decide +kernel)
set_option maxRecDepth 100000 in
theorem o_Mo_thing : a_cm a_nw a_tn 239 m_Mo_thing 1866 153 = true := fk_ok (by decide +kernel)
set_option maxRecDepth 100000 in
theorem o_Mo_open : a_cm a_nw a_tn 240 m_Mo_open 1898 153 = true := fk_ok (by decide +kernel)
set_option maxRecDepth 100000 in
theorem o_Mo_ending : a_cm a_nw a_tn 241 m_Mo_ending 1906 153 = true := fk_ok (by decide +kernel)
set_option maxRecDepth 100000 in
theorem o_Mo_closes : a_cm a_nw a_tn 242 m_Mo_closes 1914 153 = true := fk_ok (by decide +kernel)
set_option maxRecDepth 100000 in
theorem o_Mo_man : a_cm a_nw a_tn 243 m_Mo_man 1918 153 = true := fk_ok (by decide +kernel)
set_option maxRecDepth 100000 in
theorem o_Mo_now : a_cm a_nw a_tn 244 m_Mo_now 1930 153 = true := fk_ok (by decide +kernel)
set_option maxRecDepth 100000 in
theorem o_Mo_whyBuy : a_cm a_nw a_tn 245 m_Mo_whyBuy 1946 153 = true := fk_ok (by decide +kernel)
set_option maxRecDepth 100000 in
theorem o_Mo_buys : a_cm a_nw a_tn 246 m_Mo_buys 1954 153 = true := fk_ok (by decide +kernel)
set_option maxRecDepth 100000 in
theorem o_Mo_whyPut : a_cm a_nw a_tn 247 m_Mo_whyPut 1962 153 = true := fk_ok (by decide +kernel)
set_option maxRecDepth 100000 in
theorem o_Mo_putsTo : a_cm a_nw a_tn 248 m_Mo_putsTo 1966 153 = true := fk_ok (by decide +kernel)
set_option maxRecDepth 100000 in
theorem o_Mo_goesOnInDark : a_cm a_nw a_tn 249 m_Mo_goesOnInDark 1988 153 = true := fk_ok (by decide +kernel)
