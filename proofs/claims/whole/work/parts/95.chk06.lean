set_option maxRecDepth 100000 in
theorem o_Mo_day : a_cm a_nw a_tn 247 m_Mo_day 1966 150 = true := fk_ok (by decide +kernel)
set_option maxRecDepth 100000 in
theorem o_Mo_goesOn : a_cm a_nw a_tn 248 m_Mo_goesOn 1962 150 = true := fk_ok (by decide +kernel)
set_option maxRecDepth 100000 in
theorem o_Mo_buy : a_cm a_nw a_tn 249 m_Mo_buy 1927 150 = true := fk_ok (by decide +kernel)
set_option maxRecDepth 100000 in
theorem o_Mo_put : a_cm a_nw a_tn 250 m_Mo_put 1943 150 = true := fk_ok (by decide +kernel)
set_option maxRecDepth 100000 in
theorem o_Mo_days : a_cm a_nw a_tn 251 m_Mo_days 1958 150 = true := fk_ok (by decide +kernel)
set_option maxRecDepth 100000 in
theorem o_Mo_keep : a_cm a_nw a_tn 252 m_Mo_keep 1935 150 = true := fk_ok (by decide +kernel)
set_option maxRecDepth 100000 in
theorem o_Mo_undo : a_cm a_nw a_tn 253 m_Mo_undo 1980 150 = true := fk_ok (by decide +kernel)
set_option maxRecDepth 100000 in
theorem o_Mo_tries : a_cm a_nw a_tn 254 m_Mo_tries 2116 150 = true := fk_ok (by decide +kernel)
set_option maxRecDepth 100000 in
theorem o_Mo_back : a_cm a_nw a_tn 255 m_Mo_back 2120 150 = true := fk_ok (by decide +kernel)
set_option maxRecDepth 100000 in
theorem o_Mo_fits : a_cm a_nw a_tn 256 m_Mo_fits 1984 150 = true := fk_ok (by decide +kernel)
set_option maxRecDepth 100000 in
theorem o_Mo_rest : a_cm a_nw a_tn 257 m_Mo_rest 2000 150 = true := fk_ok (by decide +kernel)
set_option maxRecDepth 100000 in
theorem o_Mo_fitsBehind : a_cm a_nw a_tn 258 m_Mo_fitsBehind 1996 150 = true := fk_ok (by decide +kernel)
set_option maxRecDepth 100000 in
theorem o_Mo_cans : a_cm a_nw a_tn 259 m_Mo_cans 1992 150 = true := fk_ok (by decide +kernel)
set_option maxRecDepth 100000 in
theorem o_Mo_closesAll : a_cm a_nw a_tn 260 m_Mo_closesAll 2004 150 = true := fk_ok (by decide +kernel)
set_option maxRecDepth 100000 in
theorem o_Mo_priceOf : a_cm a_nw a_tn 261 m_Mo_priceOf 2008 150 = true := fk_ok (by decide +kernel)
set_option maxRecDepth 100000 in
theorem o_Mo_orders : a_cm a_nw a_tn 262 m_Mo_orders 2015 150 = true := fk_ok (by decide +kernel)
set_option maxRecDepth 100000 in
theorem o_Mo_ends : a_cm a_nw a_tn 263 m_Mo_ends 1988 150 = true := fk_ok (by decide +kernel)
set_option maxRecDepth 100000 in
theorem o_Mo_row : a_cm a_nw a_tn 264 m_Mo_row 2019 150 = true := fk_ok (by decide +kernel)
set_option maxRecDepth 100000 in
theorem o_Mo_endsAt : a_cm a_nw a_tn 265 m_Mo_endsAt 2036 150 = true := fk_ok (by decide +kernel)
set_option maxRecDepth 100000 in
theorem o_Mo_needs : a_cm a_nw a_tn 266 m_Mo_needs 2031 150 = true := fk_ok (by decide +kernel)
set_option maxRecDepth 100000 in
theorem o_Mo_streets : a_cm a_nw a_tn 267 m_Mo_streets 2027 150 = true := fk_ok (by decide +kernel)
set_option maxRecDepth 100000 in
theorem o_Mo_street : a_cm a_nw a_tn 268 m_Mo_street 2023 150 = true := fk_ok (by decide +kernel)
set_option maxRecDepth 100000 in
theorem o_Mo_has : a_cm a_nw a_tn 269 m_Mo_has 2040 150 = true := fk_ok (by decide +kernel)
set_option maxRecDepth 100000 in
theorem o_Mo_goesWith : a_cm a_nw a_tn 270 m_Mo_goesWith 2048 150 = true := fk_ok (by decide +kernel)
set_option maxRecDepth 100000 in
theorem o_Mo_covers : a_cm a_nw a_tn 271 m_Mo_covers 2044 150 = true := fk_ok (by decide +kernel)
set_option maxRecDepth 100000 in
theorem o_Mo_tray : a_cm a_nw a_tn 272 m_Mo_tray 2052 150 = true := fk_ok (by decide +kernel)
set_option maxRecDepth 100000 in
theorem o_Mo_wasIt : a_cm a_nw a_tn 273 m_Mo_wasIt 2064 150 = true := fk_ok (by decide +kernel)
set_option maxRecDepth 100000 in
theorem o_Mo_unlike : a_cm a_nw a_tn 274 m_Mo_unlike 2068 150 = true := fk_ok (by decide +kernel)
