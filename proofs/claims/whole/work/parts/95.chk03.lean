set_option maxRecDepth 100000 in
theorem o_Ma_init : a_cm a_nw a_tn 125 m_Ma_init 534 148 = true := fk_ok (by decide +kernel)
set_option maxRecDepth 100000 in
theorem o_Ma_given : a_cm a_nw a_tn 126 m_Ma_given 1152 148 = true := fk_ok (by decide +kernel)
set_option maxRecDepth 100000 in
theorem o_Ma_gather : a_cm a_nw a_tn 127 m_Ma_gather 1114 148 = true := fk_ok (by decide +kernel)
set_option maxRecDepth 100000 in
theorem o_Ma_leastCoin : a_cm a_nw a_tn 128 m_Ma_leastCoin 1110 148 = true := fk_ok (by decide +kernel)
set_option maxRecDepth 100000 in
theorem o_Ma_leastRest : a_cm a_nw a_tn 129 m_Ma_leastRest 1132 148 = true := fk_ok (by decide +kernel)
set_option maxRecDepth 100000 in
theorem o_Ma_coinWith : a_cm a_nw a_tn 130 m_Ma_coinWith 1136 148 = true := fk_ok (by decide +kernel)
set_option maxRecDepth 100000 in
theorem o_Ma_give : a_cm a_nw a_tn 131 m_Ma_give 1140 148 = true := fk_ok (by decide +kernel)
set_option maxRecDepth 100000 in
theorem o_Ma_firstBest : a_cm a_nw a_tn 132 m_Ma_firstBest 1144 148 = true := fk_ok (by decide +kernel)
set_option maxRecDepth 100000 in
theorem o_Ma_fewest : a_cm a_nw a_tn 133 m_Ma_fewest 1160 148 = true := fk_ok (by decide +kernel)
set_option maxRecDepth 100000 in
theorem o_Ma_goWithAll : a_cm a_nw a_tn 134 m_Ma_goWithAll 1164 148 = true := fk_ok (by decide +kernel)
set_option maxRecDepth 100000 in
theorem o_Ri_init : a_cm a_nw a_tn 135 m_Ri_init 566 149 = true := fk_ok (by decide +kernel)
set_option maxRecDepth 100000 in
theorem o_Ri_form : a_cm a_nw a_tn 136 m_Ri_form 1237 149 = true := fk_ok (by decide +kernel)
set_option maxRecDepth 100000 in
theorem o_Ri_come : a_cm a_nw a_tn 137 m_Ri_come 1241 149 = true := fk_ok (by decide +kernel)
set_option maxRecDepth 100000 in
theorem o_Ri_point : a_cm a_nw a_tn 138 m_Ri_point 1245 149 = true := fk_ok (by decide +kernel)
set_option maxRecDepth 100000 in
theorem o_Ri_favourite : a_cm a_nw a_tn 139 m_Ri_favourite 1250 149 = true := fk_ok (by decide +kernel)
set_option maxRecDepth 100000 in
theorem o_Ri_leaveInRings : a_cm a_nw a_tn 140 m_Ri_leaveInRings 1255 149 = true := fk_ok (by decide +kernel)
set_option maxRecDepth 100000 in
theorem o_Ri_standsInRing : a_cm a_nw a_tn 141 m_Ri_standsInRing 1259 149 = true := fk_ok (by decide +kernel)
set_option maxRecDepth 100000 in
theorem o_Ri_changed : a_cm a_nw a_tn 142 m_Ri_changed 1267 149 = true := fk_ok (by decide +kernel)
set_option maxRecDepth 100000 in
theorem o_Ri_handOver : a_cm a_nw a_tn 143 m_Ri_handOver 1271 149 = true := fk_ok (by decide +kernel)
set_option maxRecDepth 100000 in
theorem o_Dr_init : a_cm a_nw a_tn 144 m_Dr_init 592 150 = true := fk_ok (by decide +kernel)
set_option maxRecDepth 100000 in
theorem o_Dr_draw : a_cm a_nw a_tn 145 m_Dr_draw 1317 150 = true := fk_ok (by decide +kernel)
set_option maxRecDepth 100000 in
theorem o_Dr_live : a_cm a_nw a_tn 146 m_Dr_live 1309 150 = true := fk_ok (by decide +kernel)
set_option maxRecDepth 100000 in
theorem o_Dr_act : a_cm a_nw a_tn 147 m_Dr_act 1313 150 = true := fk_ok (by decide +kernel)
set_option maxRecDepth 100000 in
theorem o_Im_init : a_cm a_nw a_tn 148 m_Im_init 603 151 = true := fk_ok (by decide +kernel)
set_option maxRecDepth 100000 in
theorem o_Im_keep : a_cm a_nw a_tn 149 m_Im_keep 1464 151 = true := fk_ok (by decide +kernel)
set_option maxRecDepth 100000 in
theorem o_EM_init : a_cm a_nw a_tn 150 m_EM_init 164 136 = true := fk_ok (by decide +kernel)
set_option maxRecDepth 100000 in
theorem o_EM_feed : a_cm a_nw a_tn 151 m_EM_feed 683 136 = true := fk_ok (by decide +kernel)
set_option maxRecDepth 100000 in
theorem o_EM_end : a_cm a_nw a_tn 152 m_EM_end 691 136 = true := fk_ok (by decide +kernel)
set_option maxRecDepth 100000 in
theorem o_EM_market : a_cm a_nw a_tn 153 m_EM_market 695 136 = true := fk_ok (by decide +kernel)
set_option maxRecDepth 100000 in
theorem o_EM_fault : a_cm a_nw a_tn 154 m_EM_fault 844 136 = true := fk_ok (by decide +kernel)
set_option maxRecDepth 100000 in
theorem o_EM_thing : a_cm a_nw a_tn 155 m_EM_thing 1483 136 = true := fk_ok (by decide +kernel)
set_option maxRecDepth 100000 in
theorem o_EM_open : a_cm a_nw a_tn 156 m_EM_open 848 136 = true := fk_ok (by decide +kernel)
set_option maxRecDepth 100000 in
theorem o_EM_ending : a_cm a_nw a_tn 157 m_EM_ending 1566 136 = true := fk_ok (by decide +kernel)
set_option maxRecDepth 100000 in
theorem o_EM_closes : a_cm a_nw a_tn 158 m_EM_closes 864 136 = true := fk_ok (by decide +kernel)
set_option maxRecDepth 100000 in
theorem o_EM_man : a_cm a_nw a_tn 159 m_EM_man 873 136 = true := fk_ok (by decide +kernel)
set_option maxRecDepth 100000 in
theorem o_EM_now : a_cm a_nw a_tn 160 m_EM_now 889 136 = true := fk_ok (by decide +kernel)
set_option maxRecDepth 100000 in
theorem o_EM_buy : a_cm a_nw a_tn 161 m_EM_buy 922 136 = true := fk_ok (by decide +kernel)
set_option maxRecDepth 100000 in
theorem o_EM_put : a_cm a_nw a_tn 162 m_EM_put 945 136 = true := fk_ok (by decide +kernel)
set_option maxRecDepth 100000 in
theorem o_EM_days : a_cm a_nw a_tn 163 m_EM_days 968 136 = true := fk_ok (by decide +kernel)
set_option maxRecDepth 100000 in
theorem o_EM_undo : a_cm a_nw a_tn 164 m_EM_undo 1004 136 = true := fk_ok (by decide +kernel)
set_option maxRecDepth 100000 in
theorem o_EM_fits : a_cm a_nw a_tn 165 m_EM_fits 1012 136 = true := fk_ok (by decide +kernel)
set_option maxRecDepth 100000 in
theorem o_EM_ends : a_cm a_nw a_tn 166 m_EM_ends 1018 136 = true := fk_ok (by decide +kernel)
set_option maxRecDepth 100000 in
theorem o_EM_row : a_cm a_nw a_tn 167 m_EM_row 1094 136 = true := fk_ok (by decide +kernel)
set_option maxRecDepth 100000 in
theorem o_EM_street : a_cm a_nw a_tn 168 m_EM_street 1102 136 = true := fk_ok (by decide +kernel)
set_option maxRecDepth 100000 in
theorem o_EM_has : a_cm a_nw a_tn 169 m_EM_has 1148 136 = true := fk_ok (by decide +kernel)
set_option maxRecDepth 100000 in
theorem o_EM_covers : a_cm a_nw a_tn 170 m_EM_covers 1156 136 = true := fk_ok (by decide +kernel)
set_option maxRecDepth 100000 in
theorem o_EM_tray : a_cm a_nw a_tn 171 m_EM_tray 1168 136 = true := fk_ok (by decide +kernel)
set_option maxRecDepth 100000 in
theorem o_EM_was : a_cm a_nw a_tn 172 m_EM_was 1172 136 = true := fk_ok (by decide +kernel)
set_option maxRecDepth 100000 in
theorem o_EM_ask : a_cm a_nw a_tn 173 m_EM_ask 1213 136 = true := fk_ok (by decide +kernel)
