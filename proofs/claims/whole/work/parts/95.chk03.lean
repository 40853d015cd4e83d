set_option maxRecDepth 100000 in
theorem o_Or_cameSo : a_cm a_nw a_tn 121 m_Or_cameSo 1185 145 = true := fk_ok (by decide +kernel)
set_option maxRecDepth 100000 in
theorem o_Or_leavesLastPage : a_cm a_nw a_tn 122 m_Or_leavesLastPage 1197 145 = true := fk_ok (by decide +kernel)
set_option maxRecDepth 100000 in
theorem o_Ma_init : a_cm a_nw a_tn 123 m_Ma_init 532 146 = true := fk_ok (by decide +kernel)
set_option maxRecDepth 100000 in
theorem o_Ma_given : a_cm a_nw a_tn 124 m_Ma_given 1152 146 = true := fk_ok (by decide +kernel)
set_option maxRecDepth 100000 in
theorem o_Ma_gather : a_cm a_nw a_tn 125 m_Ma_gather 1114 146 = true := fk_ok (by decide +kernel)
set_option maxRecDepth 100000 in
theorem o_Ma_leastCoin : a_cm a_nw a_tn 126 m_Ma_leastCoin 1110 146 = true := fk_ok (by decide +kernel)
set_option maxRecDepth 100000 in
theorem o_Ma_leastRest : a_cm a_nw a_tn 127 m_Ma_leastRest 1132 146 = true := fk_ok (by decide +kernel)
set_option maxRecDepth 100000 in
theorem o_Ma_coinWith : a_cm a_nw a_tn 128 m_Ma_coinWith 1136 146 = true := fk_ok (by decide +kernel)
set_option maxRecDepth 100000 in
theorem o_Ma_give : a_cm a_nw a_tn 129 m_Ma_give 1140 146 = true := fk_ok (by decide +kernel)
set_option maxRecDepth 100000 in
theorem o_Ma_firstBest : a_cm a_nw a_tn 130 m_Ma_firstBest 1144 146 = true := fk_ok (by decide +kernel)
set_option maxRecDepth 100000 in
theorem o_Ma_fewest : a_cm a_nw a_tn 131 m_Ma_fewest 1160 146 = true := fk_ok (by decide +kernel)
set_option maxRecDepth 100000 in
theorem o_Ma_goWithAll : a_cm a_nw a_tn 132 m_Ma_goWithAll 1164 146 = true := fk_ok (by decide +kernel)
set_option maxRecDepth 100000 in
theorem o_Ri_init : a_cm a_nw a_tn 133 m_Ri_init 564 147 = true := fk_ok (by decide +kernel)
set_option maxRecDepth 100000 in
theorem o_Ri_form : a_cm a_nw a_tn 134 m_Ri_form 1237 147 = true := fk_ok (by decide +kernel)
set_option maxRecDepth 100000 in
theorem o_Ri_come : a_cm a_nw a_tn 135 m_Ri_come 1241 147 = true := fk_ok (by decide +kernel)
set_option maxRecDepth 100000 in
theorem o_Ri_point : a_cm a_nw a_tn 136 m_Ri_point 1245 147 = true := fk_ok (by decide +kernel)
set_option maxRecDepth 100000 in
theorem o_Ri_favourite : a_cm a_nw a_tn 137 m_Ri_favourite 1250 147 = true := fk_ok (by decide +kernel)
set_option maxRecDepth 100000 in
theorem o_Ri_leaveInRings : a_cm a_nw a_tn 138 m_Ri_leaveInRings 1255 147 = true := fk_ok (by decide +kernel)
set_option maxRecDepth 100000 in
theorem o_Ri_standsInRing : a_cm a_nw a_tn 139 m_Ri_standsInRing 1259 147 = true := fk_ok (by decide +kernel)
set_option maxRecDepth 100000 in
theorem o_Ri_changed : a_cm a_nw a_tn 140 m_Ri_changed 1267 147 = true := fk_ok (by decide +kernel)
set_option maxRecDepth 100000 in
theorem o_Ri_handOver : a_cm a_nw a_tn 141 m_Ri_handOver 1271 147 = true := fk_ok (by decide +kernel)
set_option maxRecDepth 100000 in
theorem o_Dr_init : a_cm a_nw a_tn 142 m_Dr_init 590 148 = true := fk_ok (by decide +kernel)
set_option maxRecDepth 100000 in
theorem o_Dr_draw : a_cm a_nw a_tn 143 m_Dr_draw 1317 148 = true := fk_ok (by decide +kernel)
set_option maxRecDepth 100000 in
theorem o_Dr_live : a_cm a_nw a_tn 144 m_Dr_live 1309 148 = true := fk_ok (by decide +kernel)
set_option maxRecDepth 100000 in
theorem o_Dr_act : a_cm a_nw a_tn 145 m_Dr_act 1313 148 = true := fk_ok (by decide +kernel)
set_option maxRecDepth 100000 in
theorem o_Im_init : a_cm a_nw a_tn 146 m_Im_init 601 149 = true := fk_ok (by decide +kernel)
set_option maxRecDepth 100000 in
theorem o_Im_keep : a_cm a_nw a_tn 147 m_Im_keep 1452 149 = true := fk_ok (by decide +kernel)
set_option maxRecDepth 100000 in
theorem o_EM_init : a_cm a_nw a_tn 148 m_EM_init 162 134 = true := fk_ok (by decide +kernel)
set_option maxRecDepth 100000 in
theorem o_EM_feed : a_cm a_nw a_tn 149 m_EM_feed 681 134 = true := fk_ok (by decide +kernel)
set_option maxRecDepth 100000 in
theorem o_EM_end : a_cm a_nw a_tn 150 m_EM_end 689 134 = true := fk_ok (by decide +kernel)
set_option maxRecDepth 100000 in
theorem o_EM_market : a_cm a_nw a_tn 151 m_EM_market 693 134 = true := fk_ok (by decide +kernel)
set_option maxRecDepth 100000 in
theorem o_EM_fault : a_cm a_nw a_tn 152 m_EM_fault 842 134 = true := fk_ok (by decide +kernel)
set_option maxRecDepth 100000 in
theorem o_EM_thing : a_cm a_nw a_tn 153 m_EM_thing 1471 134 = true := fk_ok (by decide +kernel)
set_option maxRecDepth 100000 in
theorem o_EM_open : a_cm a_nw a_tn 154 m_EM_open 846 134 = true := fk_ok (by decide +kernel)
set_option maxRecDepth 100000 in
theorem o_EM_ending : a_cm a_nw a_tn 155 m_EM_ending 1554 134 = true := fk_ok (by decide +kernel)
set_option maxRecDepth 100000 in
theorem o_EM_closes : a_cm a_nw a_tn 156 m_EM_closes 862 134 = true := fk_ok (by decide +kernel)
set_option maxRecDepth 100000 in
theorem o_EM_man : a_cm a_nw a_tn 157 m_EM_man 871 134 = true := fk_ok (by decide +kernel)
set_option maxRecDepth 100000 in
theorem o_EM_now : a_cm a_nw a_tn 158 m_EM_now 887 134 = true := fk_ok (by decide +kernel)
set_option maxRecDepth 100000 in
theorem o_EM_buy : a_cm a_nw a_tn 159 m_EM_buy 920 134 = true := fk_ok (by decide +kernel)
set_option maxRecDepth 100000 in
theorem o_EM_put : a_cm a_nw a_tn 160 m_EM_put 944 134 = true := fk_ok (by decide +kernel)
set_option maxRecDepth 100000 in
theorem o_EM_days : a_cm a_nw a_tn 161 m_EM_days 968 134 = true := fk_ok (by decide +kernel)
set_option maxRecDepth 100000 in
theorem o_EM_undo : a_cm a_nw a_tn 162 m_EM_undo 1004 134 = true := fk_ok (by decide +kernel)
set_option maxRecDepth 100000 in
theorem o_EM_fits : a_cm a_nw a_tn 163 m_EM_fits 1012 134 = true := fk_ok (by decide +kernel)
set_option maxRecDepth 100000 in
theorem o_EM_ends : a_cm a_nw a_tn 164 m_EM_ends 1018 134 = true := fk_ok (by decide +kernel)
set_option maxRecDepth 100000 in
theorem o_EM_row : a_cm a_nw a_tn 165 m_EM_row 1094 134 = true := fk_ok (by decide +kernel)
set_option maxRecDepth 100000 in
theorem o_EM_street : a_cm a_nw a_tn 166 m_EM_street 1102 134 = true := fk_ok (by decide +kernel)
set_option maxRecDepth 100000 in
theorem o_EM_has : a_cm a_nw a_tn 167 m_EM_has 1148 134 = true := fk_ok (by decide +kernel)
