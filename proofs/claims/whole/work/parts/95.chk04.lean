set_option maxRecDepth 100000 in
theorem o_EM_ends : a_cm a_nw a_tn 167 m_EM_ends 1021 137 = true := fk_ok (by decide +kernel)
set_option maxRecDepth 100000 in
theorem o_EM_row : a_cm a_nw a_tn 168 m_EM_row 1097 137 = true := fk_ok (by decide +kernel)
set_option maxRecDepth 100000 in
theorem o_EM_street : a_cm a_nw a_tn 169 m_EM_street 1105 137 = true := fk_ok (by decide +kernel)
set_option maxRecDepth 100000 in
theorem o_EM_has : a_cm a_nw a_tn 170 m_EM_has 1159 137 = true := fk_ok (by decide +kernel)
set_option maxRecDepth 100000 in
theorem o_EM_covers : a_cm a_nw a_tn 171 m_EM_covers 1167 137 = true := fk_ok (by decide +kernel)
set_option maxRecDepth 100000 in
theorem o_EM_tray : a_cm a_nw a_tn 172 m_EM_tray 1179 137 = true := fk_ok (by decide +kernel)
set_option maxRecDepth 100000 in
theorem o_EM_was : a_cm a_nw a_tn 173 m_EM_was 1183 137 = true := fk_ok (by decide +kernel)
set_option maxRecDepth 100000 in
theorem o_EM_ask : a_cm a_nw a_tn 174 m_EM_ask 1224 137 = true := fk_ok (by decide +kernel)
set_option maxRecDepth 100000 in
theorem o_EM_haggle : a_cm a_nw a_tn 175 m_EM_haggle 1228 137 = true := fk_ok (by decide +kernel)
set_option maxRecDepth 100000 in
theorem o_EM_rounds : a_cm a_nw a_tn 176 m_EM_rounds 1232 137 = true := fk_ok (by decide +kernel)
set_option maxRecDepth 100000 in
theorem o_EM_likes : a_cm a_nw a_tn 177 m_EM_likes 1236 137 = true := fk_ok (by decide +kernel)
set_option maxRecDepth 100000 in
theorem o_EM_gets : a_cm a_nw a_tn 178 m_EM_gets 1244 137 = true := fk_ok (by decide +kernel)
set_option maxRecDepth 100000 in
theorem o_EM_trade : a_cm a_nw a_tn 179 m_EM_trade 1278 137 = true := fk_ok (by decide +kernel)
set_option maxRecDepth 100000 in
theorem o_EM_when : a_cm a_nw a_tn 180 m_EM_when 1291 137 = true := fk_ok (by decide +kernel)
set_option maxRecDepth 100000 in
theorem o_EM_later : a_cm a_nw a_tn 181 m_EM_later 1296 137 = true := fk_ok (by decide +kernel)
set_option maxRecDepth 100000 in
theorem o_EM_dark : a_cm a_nw a_tn 182 m_EM_dark 1304 137 = true := fk_ok (by decide +kernel)
set_option maxRecDepth 100000 in
theorem o_EM_cheapest : a_cm a_nw a_tn 183 m_EM_cheapest 1312 137 = true := fk_ok (by decide +kernel)
set_option maxRecDepth 100000 in
theorem o_EM_drawn : a_cm a_nw a_tn 184 m_EM_drawn 1320 137 = true := fk_ok (by decide +kernel)
set_option maxRecDepth 100000 in
theorem o_EM_odds : a_cm a_nw a_tn 185 m_EM_odds 1340 137 = true := fk_ok (by decide +kernel)
set_option maxRecDepth 100000 in
theorem o_EM_ledger : a_cm a_nw a_tn 186 m_EM_ledger 1345 137 = true := fk_ok (by decide +kernel)
set_option maxRecDepth 100000 in
theorem o_EM_told : a_cm a_nw a_tn 187 m_EM_told 1387 137 = true := fk_ok (by decide +kernel)
set_option maxRecDepth 100000 in
theorem o_EM_sentence : a_cm a_nw a_tn 188 m_EM_sentence 1395 137 = true := fk_ok (by decide +kernel)
set_option maxRecDepth 100000 in
theorem o_EM_said : a_cm a_nw a_tn 189 m_EM_said 1437 137 = true := fk_ok (by decide +kernel)
set_option maxRecDepth 100000 in
theorem o_EM_image : a_cm a_nw a_tn 190 m_EM_image 1463 137 = true := fk_ok (by decide +kernel)
set_option maxRecDepth 100000 in
theorem o_EM_restore : a_cm a_nw a_tn 191 m_EM_restore 1474 137 = true := fk_ok (by decide +kernel)
set_option maxRecDepth 100000 in
theorem o_EM_count : a_cm a_nw a_tn 192 m_EM_count 1478 137 = true := fk_ok (by decide +kernel)
set_option maxRecDepth 100000 in
theorem o_EM_leaveText : a_cm a_nw a_tn 193 m_EM_leaveText 821 137 = true := fk_ok (by decide +kernel)
set_option maxRecDepth 100000 in
theorem o_EM_isIn : a_cm a_nw a_tn 194 m_EM_isIn 1050 137 = true := fk_ok (by decide +kernel)
set_option maxRecDepth 100000 in
theorem o_Mo_thrown : a_cm a_nw a_tn 195 m_Mo_thrown 1580 153 = true := fk_ok (by decide +kernel)
set_option maxRecDepth 100000 in
theorem o_Mo_throwsIf : a_cm a_nw a_tn 196 m_Mo_throwsIf 1874 153 = true := fk_ok (by decide +kernel)
set_option maxRecDepth 100000 in
theorem o_Mo_feed : a_cm a_nw a_tn 197 m_Mo_feed 1584 153 = true := fk_ok (by decide +kernel)
set_option maxRecDepth 100000 in
theorem o_Mo_four : a_cm a_nw a_tn 198 m_Mo_four 1589 153 = true := fk_ok (by decide +kernel)
set_option maxRecDepth 100000 in
theorem o_Mo_end : a_cm a_nw a_tn 199 m_Mo_end 1593 153 = true := fk_ok (by decide +kernel)
set_option maxRecDepth 100000 in
theorem o_Mo_taken : a_cm a_nw a_tn 200 m_Mo_taken 1789 153 = true := fk_ok (by decide +kernel)
set_option maxRecDepth 100000 in
theorem o_Mo_isIn : a_cm a_nw a_tn 201 m_Mo_isIn 1838 153 = true := fk_ok (by decide +kernel)
set_option maxRecDepth 100000 in
theorem o_Mo_bitOf : a_cm a_nw a_tn 202 m_Mo_bitOf 1984 153 = true := fk_ok (by decide +kernel)
set_option maxRecDepth 100000 in
theorem o_Mo_lesser : a_cm a_nw a_tn 203 m_Mo_lesser 1969 153 = true := fk_ok (by decide +kernel)
set_option maxRecDepth 100000 in
theorem o_Mo_greater : a_cm a_nw a_tn 204 m_Mo_greater 1991 153 = true := fk_ok (by decide +kernel)
set_option maxRecDepth 100000 in
theorem o_Mo_bits : a_cm a_nw a_tn 205 m_Mo_bits 2026 153 = true := fk_ok (by decide +kernel)
set_option maxRecDepth 100000 in
theorem o_Mo_octet : a_cm a_nw a_tn 206 m_Mo_octet 2075 153 = true := fk_ok (by decide +kernel)
set_option maxRecDepth 100000 in
theorem o_Mo_init : a_cm a_nw a_tn 207 m_Mo_init 1597 153 = true := fk_ok (by decide +kernel)
set_option maxRecDepth 100000 in
theorem o_Mo_peek : a_cm a_nw a_tn 208 m_Mo_peek 1797 153 = true := fk_ok (by decide +kernel)
set_option maxRecDepth 100000 in
theorem o_Mo_isSmall : a_cm a_nw a_tn 209 m_Mo_isSmall 1800 153 = true := fk_ok (by decide +kernel)
set_option maxRecDepth 100000 in
theorem o_Mo_isDigit : a_cm a_nw a_tn 210 m_Mo_isDigit 1803 153 = true := fk_ok (by decide +kernel)
set_option maxRecDepth 100000 in
theorem o_Mo_next : a_cm a_nw a_tn 211 m_Mo_next 1793 153 = true := fk_ok (by decide +kernel)
set_option maxRecDepth 100000 in
theorem o_Mo_bad : a_cm a_nw a_tn 212 m_Mo_bad 1815 153 = true := fk_ok (by decide +kernel)
set_option maxRecDepth 100000 in
theorem o_Mo_isWord : a_cm a_nw a_tn 213 m_Mo_isWord 1811 153 = true := fk_ok (by decide +kernel)
set_option maxRecDepth 100000 in
theorem o_Mo_isSign : a_cm a_nw a_tn 214 m_Mo_isSign 1854 153 = true := fk_ok (by decide +kernel)
set_option maxRecDepth 100000 in
theorem o_Mo_sign : a_cm a_nw a_tn 215 m_Mo_sign 1858 153 = true := fk_ok (by decide +kernel)
set_option maxRecDepth 100000 in
theorem o_Mo_isName : a_cm a_nw a_tn 216 m_Mo_isName 1823 153 = true := fk_ok (by decide +kernel)
set_option maxRecDepth 100000 in
theorem o_Mo_takes : a_cm a_nw a_tn 217 m_Mo_takes 1835 153 = true := fk_ok (by decide +kernel)
set_option maxRecDepth 100000 in
theorem o_Mo_puts : a_cm a_nw a_tn 218 m_Mo_puts 1831 153 = true := fk_ok (by decide +kernel)
set_option maxRecDepth 100000 in
theorem o_Mo_find : a_cm a_nw a_tn 219 m_Mo_find 1827 153 = true := fk_ok (by decide +kernel)
set_option maxRecDepth 100000 in
theorem o_Mo_fresh : a_cm a_nw a_tn 220 m_Mo_fresh 1819 153 = true := fk_ok (by decide +kernel)
set_option maxRecDepth 100000 in
theorem o_Mo_looksAt : a_cm a_nw a_tn 221 m_Mo_looksAt 1846 153 = true := fk_ok (by decide +kernel)
set_option maxRecDepth 100000 in
theorem o_Mo_takesName : a_cm a_nw a_tn 222 m_Mo_takesName 1842 153 = true := fk_ok (by decide +kernel)
