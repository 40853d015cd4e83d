set_option maxRecDepth 100000 in
theorem o_Mo_day : a_cm a_nw a_tn 250 m_Mo_day 1981 153 = true := fk_ok (by decide +kernel)
set_option maxRecDepth 100000 in
theorem o_Mo_goesOn : a_cm a_nw a_tn 251 m_Mo_goesOn 1977 153 = true := fk_ok (by decide +kernel)
set_option maxRecDepth 100000 in
theorem o_Mo_buy : a_cm a_nw a_tn 252 m_Mo_buy 1942 153 = true := fk_ok (by decide +kernel)
set_option maxRecDepth 100000 in
theorem o_Mo_put : a_cm a_nw a_tn 253 m_Mo_put 1958 153 = true := fk_ok (by decide +kernel)
set_option maxRecDepth 100000 in
theorem o_Mo_days : a_cm a_nw a_tn 254 m_Mo_days 1973 153 = true := fk_ok (by decide +kernel)
set_option maxRecDepth 100000 in
theorem o_Mo_keep : a_cm a_nw a_tn 255 m_Mo_keep 1950 153 = true := fk_ok (by decide +kernel)
set_option maxRecDepth 100000 in
theorem o_Mo_undo : a_cm a_nw a_tn 256 m_Mo_undo 1995 153 = true := fk_ok (by decide +kernel)
set_option maxRecDepth 100000 in
theorem o_Mo_tries : a_cm a_nw a_tn 257 m_Mo_tries 2131 153 = true := fk_ok (by decide +kernel)
set_option maxRecDepth 100000 in
theorem o_Mo_back : a_cm a_nw a_tn 258 m_Mo_back 2135 153 = true := fk_ok (by decide +kernel)
set_option maxRecDepth 100000 in
theorem o_Mo_fits : a_cm a_nw a_tn 259 m_Mo_fits 1999 153 = true := fk_ok (by decide +kernel)
set_option maxRecDepth 100000 in
theorem o_Mo_rest : a_cm a_nw a_tn 260 m_Mo_rest 2015 153 = true := fk_ok (by decide +kernel)
set_option maxRecDepth 100000 in
theorem o_Mo_fitsBehind : a_cm a_nw a_tn 261 m_Mo_fitsBehind 2011 153 = true := fk_ok (by decide +kernel)
set_option maxRecDepth 100000 in
theorem o_Mo_cans : a_cm a_nw a_tn 262 m_Mo_cans 2007 153 = true := fk_ok (by decide +kernel)
set_option maxRecDepth 100000 in
theorem o_Mo_closesAll : a_cm a_nw a_tn 263 m_Mo_closesAll 2019 153 = true := fk_ok (by decide +kernel)
set_option maxRecDepth 100000 in
theorem o_Mo_priceOf : a_cm a_nw a_tn 264 m_Mo_priceOf 2023 153 = true := fk_ok (by decide +kernel)
set_option maxRecDepth 100000 in
theorem o_Mo_orders : a_cm a_nw a_tn 265 m_Mo_orders 2030 153 = true := fk_ok (by decide +kernel)
set_option maxRecDepth 100000 in
theorem o_Mo_ends : a_cm a_nw a_tn 266 m_Mo_ends 2003 153 = true := fk_ok (by decide +kernel)
set_option maxRecDepth 100000 in
theorem o_Mo_row : a_cm a_nw a_tn 267 m_Mo_row 2034 153 = true := fk_ok (by decide +kernel)
set_option maxRecDepth 100000 in
theorem o_Mo_endsAt : a_cm a_nw a_tn 268 m_Mo_endsAt 2051 153 = true := fk_ok (by decide +kernel)
set_option maxRecDepth 100000 in
theorem o_Mo_needs : a_cm a_nw a_tn 269 m_Mo_needs 2046 153 = true := fk_ok (by decide +kernel)
set_option maxRecDepth 100000 in
theorem o_Mo_streets : a_cm a_nw a_tn 270 m_Mo_streets 2042 153 = true := fk_ok (by decide +kernel)
set_option maxRecDepth 100000 in
theorem o_Mo_street : a_cm a_nw a_tn 271 m_Mo_street 2038 153 = true := fk_ok (by decide +kernel)
set_option maxRecDepth 100000 in
theorem o_Mo_has : a_cm a_nw a_tn 272 m_Mo_has 2055 153 = true := fk_ok (by decide +kernel)
set_option maxRecDepth 100000 in
theorem o_Mo_goesWith : a_cm a_nw a_tn 273 m_Mo_goesWith 2063 153 = true := fk_ok (by decide +kernel)
set_option maxRecDepth 100000 in
theorem o_Mo_covers : a_cm a_nw a_tn 274 m_Mo_covers 2059 153 = true := fk_ok (by decide +kernel)
set_option maxRecDepth 100000 in
theorem o_Mo_tray : a_cm a_nw a_tn 275 m_Mo_tray 2067 153 = true := fk_ok (by decide +kernel)
set_option maxRecDepth 100000 in
theorem o_Mo_wasIt : a_cm a_nw a_tn 276 m_Mo_wasIt 2079 153 = true := fk_ok (by decide +kernel)
set_option maxRecDepth 100000 in
theorem o_Mo_unlike : a_cm a_nw a_tn 277 m_Mo_unlike 2083 153 = true := fk_ok (by decide +kernel)
