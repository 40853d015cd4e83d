set_option maxRecDepth 100000 in
theorem o_Mo_nots : a_cm a_nw a_tn 301 m_Mo_nots 2177 150 = true := fk_ok (by decide +kernel)
set_option maxRecDepth 100000 in
theorem o_Mo_leafOf : a_cm a_nw a_tn 302 m_Mo_leafOf 2197 150 = true := fk_ok (by decide +kernel)
set_option maxRecDepth 100000 in
theorem o_Mo_operand : a_cm a_nw a_tn 303 m_Mo_operand 2193 150 = true := fk_ok (by decide +kernel)
set_option maxRecDepth 100000 in
theorem o_Mo_behind : a_cm a_nw a_tn 304 m_Mo_behind 2189 150 = true := fk_ok (by decide +kernel)
set_option maxRecDepth 100000 in
theorem o_Mo_sentence : a_cm a_nw a_tn 305 m_Mo_sentence 2173 150 = true := fk_ok (by decide +kernel)
set_option maxRecDepth 100000 in
theorem o_Mo_isLeaf : a_cm a_nw a_tn 306 m_Mo_isLeaf 2209 150 = true := fk_ok (by decide +kernel)
set_option maxRecDepth 100000 in
theorem o_Mo_isSaid : a_cm a_nw a_tn 307 m_Mo_isSaid 2205 150 = true := fk_ok (by decide +kernel)
set_option maxRecDepth 100000 in
theorem o_Mo_said : a_cm a_nw a_tn 308 m_Mo_said 2201 150 = true := fk_ok (by decide +kernel)
set_option maxRecDepth 100000 in
theorem o_Mo_image : a_cm a_nw a_tn 309 m_Mo_image 2213 150 = true := fk_ok (by decide +kernel)
set_option maxRecDepth 100000 in
theorem o_Mo_restore : a_cm a_nw a_tn 310 m_Mo_restore 2217 150 = true := fk_ok (by decide +kernel)
set_option maxRecDepth 100000 in
theorem o_Mo_count : a_cm a_nw a_tn 311 m_Mo_count 2221 150 = true := fk_ok (by decide +kernel)
set_option maxRecDepth 100000 in
theorem o_Ji_bitCount : a_cm a_nw a_tn 312 m_Ji_bitCount 1055 157 = true := fk_ok (by decide +kernel)
