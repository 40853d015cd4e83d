set_option maxRecDepth 100000 in
theorem o_Or_cameSo : a_cm a_nw a_tn 121 m_Or_cameSo 1196 148 = true := fk_ok (by decide +kernel)
set_option maxRecDepth 100000 in
theorem o_Or_leavesLastPage : a_cm a_nw a_tn 122 m_Or_leavesLastPage 1208 148 = true := fk_ok (by decide +kernel)
set_option maxRecDepth 100000 in
theorem o_Ma_init : a_cm a_nw a_tn 123 m_Ma_init 535 149 = true := fk_ok (by decide +kernel)
set_option maxRecDepth 100000 in
theorem o_Ma_given : a_cm a_nw a_tn 124 m_Ma_given 1163 149 = true := fk_ok (by decide +kernel)
set_option maxRecDepth 100000 in
theorem o_Ma_gather : a_cm a_nw a_tn 125 m_Ma_gather 1117 149 = true := fk_ok (by decide +kernel)
set_option maxRecDepth 100000 in
theorem o_Ma_leastCoin : a_cm a_nw a_tn 126 m_Ma_leastCoin 1113 149 = true := fk_ok (by decide +kernel)
set_option maxRecDepth 100000 in
theorem o_Ma_leastRest : a_cm a_nw a_tn 127 m_Ma_leastRest 1135 149 = true := fk_ok (by decide +kernel)
set_option maxRecDepth 100000 in
theorem o_Ma_freeFor : a_cm a_nw a_tn 128 m_Ma_freeFor 1139 149 = true := fk_ok (by decide +kernel)
set_option maxRecDepth 100000 in
theorem o_Ma_restBehind : a_cm a_nw a_tn 129 m_Ma_restBehind 1147 149 = true := fk_ok (by decide +kernel)
set_option maxRecDepth 100000 in
theorem o_Ma_coinWith : a_cm a_nw a_tn 130 m_Ma_coinWith 1143 149 = true := fk_ok (by decide +kernel)
set_option maxRecDepth 100000 in
theorem o_Ma_give : a_cm a_nw a_tn 131 m_Ma_give 1151 149 = true := fk_ok (by decide +kernel)
set_option maxRecDepth 100000 in
theorem o_Ma_firstBest : a_cm a_nw a_tn 132 m_Ma_firstBest 1155 149 = true := fk_ok (by decide +kernel)
set_option maxRecDepth 100000 in
theorem o_Ma_fewest : a_cm a_nw a_tn 133 m_Ma_fewest 1171 149 = true := fk_ok (by decide +kernel)
set_option maxRecDepth 100000 in
theorem o_Ma_goWithAll : a_cm a_nw a_tn 134 m_Ma_goWithAll 1175 149 = true := fk_ok (by decide +kernel)
set_option maxRecDepth 100000 in
theorem o_Ri_init : a_cm a_nw a_tn 135 m_Ri_init 567 150 = true := fk_ok (by decide +kernel)
set_option maxRecDepth 100000 in
theorem o_Ri_form : a_cm a_nw a_tn 136 m_Ri_form 1248 150 = true := fk_ok (by decide +kernel)
set_option maxRecDepth 100000 in
theorem o_Ri_come : a_cm a_nw a_tn 137 m_Ri_come 1252 150 = true := fk_ok (by decide +kernel)
set_option maxRecDepth 100000 in
theorem o_Ri_point : a_cm a_nw a_tn 138 m_Ri_point 1256 150 = true := fk_ok (by decide +kernel)
set_option maxRecDepth 100000 in
theorem o_Ri_favourite : a_cm a_nw a_tn 139 m_Ri_favourite 1261 150 = true := fk_ok (by decide +kernel)
set_option maxRecDepth 100000 in
theorem o_Ri_leaveInRings : a_cm a_nw a_tn 140 m_Ri_leaveInRings 1266 150 = true := fk_ok (by decide +kernel)
set_option maxRecDepth 100000 in
theorem o_Ri_broughtBy : a_cm a_nw a_tn 141 m_Ri_broughtBy 1274 150 = true := fk_ok (by decide +kernel)
set_option maxRecDepth 100000 in
theorem o_Ri_standsInRing : a_cm a_nw a_tn 142 m_Ri_standsInRing 1270 150 = true := fk_ok (by decide +kernel)
set_option maxRecDepth 100000 in
theorem o_Ri_changed : a_cm a_nw a_tn 143 m_Ri_changed 1282 150 = true := fk_ok (by decide +kernel)
set_option maxRecDepth 100000 in
theorem o_Ri_handOver : a_cm a_nw a_tn 144 m_Ri_handOver 1286 150 = true := fk_ok (by decide +kernel)
set_option maxRecDepth 100000 in
theorem o_Dr_init : a_cm a_nw a_tn 145 m_Dr_init 593 151 = true := fk_ok (by decide +kernel)
set_option maxRecDepth 100000 in
theorem o_Dr_draw : a_cm a_nw a_tn 146 m_Dr_draw 1332 151 = true := fk_ok (by decide +kernel)
set_option maxRecDepth 100000 in
theorem o_Dr_live : a_cm a_nw a_tn 147 m_Dr_live 1324 151 = true := fk_ok (by decide +kernel)
set_option maxRecDepth 100000 in
theorem o_Dr_act : a_cm a_nw a_tn 148 m_Dr_act 1328 151 = true := fk_ok (by decide +kernel)
set_option maxRecDepth 100000 in
theorem o_Im_init : a_cm a_nw a_tn 149 m_Im_init 604 152 = true := fk_ok (by decide +kernel)
set_option maxRecDepth 100000 in
theorem o_Im_keep : a_cm a_nw a_tn 150 m_Im_keep 1467 152 = true := fk_ok (by decide +kernel)
set_option maxRecDepth 100000 in
theorem o_EM_init : a_cm a_nw a_tn 151 m_EM_init 165 137 = true := fk_ok (by decide +kernel)
set_option maxRecDepth 100000 in
theorem o_EM_feed : a_cm a_nw a_tn 152 m_EM_feed 684 137 = true := fk_ok (by decide +kernel)
set_option maxRecDepth 100000 in
theorem o_EM_end : a_cm a_nw a_tn 153 m_EM_end 692 137 = true := fk_ok (by decide +kernel)
set_option maxRecDepth 100000 in
theorem o_EM_market : a_cm a_nw a_tn 154 m_EM_market 696 137 = true := fk_ok (by decide +kernel)
set_option maxRecDepth 100000 in
theorem o_EM_fault : a_cm a_nw a_tn 155 m_EM_fault 845 137 = true := fk_ok (by decide +kernel)
set_option maxRecDepth 100000 in
theorem o_EM_thing : a_cm a_nw a_tn 156 m_EM_thing 1486 137 = true := fk_ok (by decide +kernel)
set_option maxRecDepth 100000 in
theorem o_EM_open : a_cm a_nw a_tn 157 m_EM_open 849 137 = true := fk_ok (by decide +kernel)
set_option maxRecDepth 100000 in
theorem o_EM_ending : a_cm a_nw a_tn 158 m_EM_ending 1569 137 = true := fk_ok (by decide +kernel)
set_option maxRecDepth 100000 in
theorem o_EM_closes : a_cm a_nw a_tn 159 m_EM_closes 865 137 = true := fk_ok (by decide +kernel)
set_option maxRecDepth 100000 in
theorem o_EM_man : a_cm a_nw a_tn 160 m_EM_man 874 137 = true := fk_ok (by decide +kernel)
set_option maxRecDepth 100000 in
theorem o_EM_now : a_cm a_nw a_tn 161 m_EM_now 890 137 = true := fk_ok (by decide +kernel)
set_option maxRecDepth 100000 in
theorem o_EM_buy : a_cm a_nw a_tn 162 m_EM_buy 923 137 = true := fk_ok (by decide +kernel)
set_option maxRecDepth 100000 in
theorem o_EM_put : a_cm a_nw a_tn 163 m_EM_put 947 137 = true := fk_ok (by decide +kernel)
set_option maxRecDepth 100000 in
theorem o_EM_days : a_cm a_nw a_tn 164 m_EM_days 971 137 = true := fk_ok (by decide +kernel)
set_option maxRecDepth 100000 in
theorem o_EM_undo : a_cm a_nw a_tn 165 m_EM_undo 1007 137 = true := fk_ok (by decide +kernel)
set_option maxRecDepth 100000 in
theorem o_EM_fits : a_cm a_nw a_tn 166 m_EM_fits 1015 137 = true := fk_ok (by decide +kernel)
