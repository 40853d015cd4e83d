set_option maxRecDepth 100000 in
theorem o_Mo_nots : a_cm a_nw a_tn 304 m_Mo_nots 2192 153 = true := fk_ok (by decide +kernel)
set_option maxRecDepth 100000 in
theorem o_Mo_leafOf : a_cm a_nw a_tn 305 m_Mo_leafOf 2212 153 = true := fk_ok (by decide +kernel)
set_option maxRecDepth 100000 in
theorem o_Mo_operand : a_cm a_nw a_tn 306 m_Mo_operand 2208 153 = true := fk_ok (by decide +kernel)
set_option maxRecDepth 100000 in
theorem o_Mo_behind : a_cm a_nw a_tn 307 m_Mo_behind 2204 153 = true := fk_ok (by decide +kernel)
set_option maxRecDepth 100000 in
theorem o_Mo_sentence : a_cm a_nw a_tn 308 m_Mo_sentence 2188 153 = true := fk_ok (by decide +kernel)
set_option maxRecDepth 100000 in
theorem o_Mo_isLeaf : a_cm a_nw a_tn 309 m_Mo_isLeaf 2224 153 = true := fk_ok (by decide +kernel)
set_option maxRecDepth 100000 in
theorem o_Mo_isSaid : a_cm a_nw a_tn 310 m_Mo_isSaid 2220 153 = true := fk_ok (by decide +kernel)
set_option maxRecDepth 100000 in
theorem o_Mo_said : a_cm a_nw a_tn 311 m_Mo_said 2216 153 = true := fk_ok (by decide +kernel)
set_option maxRecDepth 100000 in
theorem o_Mo_image : a_cm a_nw a_tn 312 m_Mo_image 2228 153 = true := fk_ok (by decide +kernel)
set_option maxRecDepth 100000 in
theorem o_Mo_restore : a_cm a_nw a_tn 313 m_Mo_restore 2232 153 = true := fk_ok (by decide +kernel)
set_option maxRecDepth 100000 in
theorem o_Mo_count : a_cm a_nw a_tn 314 m_Mo_count 2236 153 = true := fk_ok (by decide +kernel)
set_option maxRecDepth 100000 in
theorem o_Ji_bitCount : a_cm a_nw a_tn 315 m_Ji_bitCount 1058 160 = true := fk_ok (by decide +kernel)
