set_option maxRecDepth 100000 in
theorem o_Mo_was : a_cm a_nw a_tn 278 m_Mo_was 2071 153 = true := fk_ok (by decide +kernel)
set_option maxRecDepth 100000 in
theorem o_Mo_ask : a_cm a_nw a_tn 279 m_Mo_ask 2087 153 = true := fk_ok (by decide +kernel)
set_option maxRecDepth 100000 in
theorem o_Mo_haggle : a_cm a_nw a_tn 280 m_Mo_haggle 2091 153 = true := fk_ok (by decide +kernel)
set_option maxRecDepth 100000 in
theorem o_Mo_rounds : a_cm a_nw a_tn 281 m_Mo_rounds 2095 153 = true := fk_ok (by decide +kernel)
set_option maxRecDepth 100000 in
theorem o_Mo_likesOf : a_cm a_nw a_tn 282 m_Mo_likesOf 2103 153 = true := fk_ok (by decide +kernel)
set_option maxRecDepth 100000 in
theorem o_Mo_likes : a_cm a_nw a_tn 283 m_Mo_likes 2099 153 = true := fk_ok (by decide +kernel)
set_option maxRecDepth 100000 in
theorem o_Mo_rings : a_cm a_nw a_tn 284 m_Mo_rings 2111 153 = true := fk_ok (by decide +kernel)
set_option maxRecDepth 100000 in
theorem o_Mo_pointsTo : a_cm a_nw a_tn 285 m_Mo_pointsTo 2115 153 = true := fk_ok (by decide +kernel)
set_option maxRecDepth 100000 in
theorem o_Mo_comesBack : a_cm a_nw a_tn 286 m_Mo_comesBack 2119 153 = true := fk_ok (by decide +kernel)
set_option maxRecDepth 100000 in
theorem o_Mo_gets : a_cm a_nw a_tn 287 m_Mo_gets 2107 153 = true := fk_ok (by decide +kernel)
set_option maxRecDepth 100000 in
theorem o_Mo_trade : a_cm a_nw a_tn 288 m_Mo_trade 2123 153 = true := fk_ok (by decide +kernel)
set_option maxRecDepth 100000 in
theorem o_Mo_when : a_cm a_nw a_tn 289 m_Mo_when 2127 153 = true := fk_ok (by decide +kernel)
set_option maxRecDepth 100000 in
theorem o_Mo_later : a_cm a_nw a_tn 290 m_Mo_later 2139 153 = true := fk_ok (by decide +kernel)
set_option maxRecDepth 100000 in
theorem o_Mo_dark : a_cm a_nw a_tn 291 m_Mo_dark 2143 153 = true := fk_ok (by decide +kernel)
set_option maxRecDepth 100000 in
theorem o_Mo_cheapest : a_cm a_nw a_tn 292 m_Mo_cheapest 2147 153 = true := fk_ok (by decide +kernel)
set_option maxRecDepth 100000 in
theorem o_Mo_draw : a_cm a_nw a_tn 293 m_Mo_draw 2163 153 = true := fk_ok (by decide +kernel)
set_option maxRecDepth 100000 in
theorem o_Mo_drawsMan : a_cm a_nw a_tn 294 m_Mo_drawsMan 2159 153 = true := fk_ok (by decide +kernel)
set_option maxRecDepth 100000 in
theorem o_Mo_draws : a_cm a_nw a_tn 295 m_Mo_draws 2155 153 = true := fk_ok (by decide +kernel)
set_option maxRecDepth 100000 in
theorem o_Mo_drawn : a_cm a_nw a_tn 296 m_Mo_drawn 2151 153 = true := fk_ok (by decide +kernel)
set_option maxRecDepth 100000 in
theorem o_Mo_odds : a_cm a_nw a_tn 297 m_Mo_odds 2168 153 = true := fk_ok (by decide +kernel)
set_option maxRecDepth 100000 in
theorem o_Mo_ledgerLine : a_cm a_nw a_tn 298 m_Mo_ledgerLine 2176 153 = true := fk_ok (by decide +kernel)
set_option maxRecDepth 100000 in
theorem o_Mo_lives : a_cm a_nw a_tn 299 m_Mo_lives 2180 153 = true := fk_ok (by decide +kernel)
set_option maxRecDepth 100000 in
theorem o_Mo_ledger : a_cm a_nw a_tn 300 m_Mo_ledger 2172 153 = true := fk_ok (by decide +kernel)
set_option maxRecDepth 100000 in
theorem o_Mo_told : a_cm a_nw a_tn 301 m_Mo_told 2184 153 = true := fk_ok (by decide +kernel)
set_option maxRecDepth 100000 in
theorem o_Mo_code : a_cm a_nw a_tn 302 m_Mo_code 2196 153 = true := fk_ok (by decide +kernel)
set_option maxRecDepth 100000 in
theorem o_Mo_joins : a_cm a_nw a_tn 303 m_Mo_joins 2200 153 = true := fk_ok (by decide +kernel)
