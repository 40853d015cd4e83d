set_option maxRecDepth 100000 in
theorem o_Se_readOne : a_cm a_nw a_tn 88 m_Se_readOne 1400 145 = true := fk_ok (by decide +kernel)
set_option maxRecDepth 100000 in
theorem o_Se_readNamed : a_cm a_nw a_tn 89 m_Se_readNamed 1414 145 = true := fk_ok (by decide +kernel)
set_option maxRecDepth 100000 in
theorem o_Se_readComparison : a_cm a_nw a_tn 90 m_Se_readComparison 1419 145 = true := fk_ok (by decide +kernel)
set_option maxRecDepth 100000 in
theorem o_Se_add : a_cm a_nw a_tn 91 m_Se_add 1410 145 = true := fk_ok (by decide +kernel)
set_option maxRecDepth 100000 in
theorem o_Se_holds : a_cm a_nw a_tn 92 m_Se_holds 1438 145 = true := fk_ok (by decide +kernel)
set_option maxRecDepth 100000 in
theorem o_Se_holdsOne : a_cm a_nw a_tn 93 m_Se_holdsOne 1442 145 = true := fk_ok (by decide +kernel)
set_option maxRecDepth 100000 in
theorem o_Se_compares : a_cm a_nw a_tn 94 m_Se_compares 1452 145 = true := fk_ok (by decide +kernel)
set_option maxRecDepth 100000 in
theorem o_Le_init : a_cm a_nw a_tn 95 m_Le_init 462 146 = true := fk_ok (by decide +kernel)
set_option maxRecDepth 100000 in
theorem o_Le_read : a_cm a_nw a_tn 96 m_Le_read 1336 146 = true := fk_ok (by decide +kernel)
set_option maxRecDepth 100000 in
theorem o_Le_readFirst : a_cm a_nw a_tn 97 m_Le_readFirst 1341 146 = true := fk_ok (by decide +kernel)
set_option maxRecDepth 100000 in
theorem o_Le_readDays : a_cm a_nw a_tn 98 m_Le_readDays 1349 146 = true := fk_ok (by decide +kernel)
set_option maxRecDepth 100000 in
theorem o_Le_readDeed : a_cm a_nw a_tn 99 m_Le_readDeed 1354 146 = true := fk_ok (by decide +kernel)
set_option maxRecDepth 100000 in
theorem o_Le_judge : a_cm a_nw a_tn 100 m_Le_judge 1361 146 = true := fk_ok (by decide +kernel)
set_option maxRecDepth 100000 in
theorem o_Le_live : a_cm a_nw a_tn 101 m_Le_live 1365 146 = true := fk_ok (by decide +kernel)
set_option maxRecDepth 100000 in
theorem o_Le_liveBuying : a_cm a_nw a_tn 102 m_Le_liveBuying 1371 146 = true := fk_ok (by decide +kernel)
set_option maxRecDepth 100000 in
theorem o_Le_livePutting : a_cm a_nw a_tn 103 m_Le_livePutting 1377 146 = true := fk_ok (by decide +kernel)
set_option maxRecDepth 100000 in
theorem o_Le_verdict : a_cm a_nw a_tn 104 m_Le_verdict 1388 146 = true := fk_ok (by decide +kernel)
set_option maxRecDepth 100000 in
theorem o_Or_init : a_cm a_nw a_tn 105 m_Or_init 503 147 = true := fk_ok (by decide +kernel)
set_option maxRecDepth 100000 in
theorem o_Or_rowAt : a_cm a_nw a_tn 106 m_Or_rowAt 1098 147 = true := fk_ok (by decide +kernel)
set_option maxRecDepth 100000 in
theorem o_Or_leastCoin : a_cm a_nw a_tn 107 m_Or_leastCoin 1022 147 = true := fk_ok (by decide +kernel)
set_option maxRecDepth 100000 in
theorem o_Or_leaveAsNow : a_cm a_nw a_tn 108 m_Or_leaveAsNow 1026 147 = true := fk_ok (by decide +kernel)
set_option maxRecDepth 100000 in
theorem o_Or_leaveAsTold : a_cm a_nw a_tn 109 m_Or_leaveAsTold 1189 147 = true := fk_ok (by decide +kernel)
set_option maxRecDepth 100000 in
theorem o_Or_cheapestSet : a_cm a_nw a_tn 110 m_Or_cheapestSet 1036 147 = true := fk_ok (by decide +kernel)
set_option maxRecDepth 100000 in
theorem o_Or_coinOf : a_cm a_nw a_tn 111 m_Or_coinOf 1052 147 = true := fk_ok (by decide +kernel)
set_option maxRecDepth 100000 in
theorem o_Or_closedBy : a_cm a_nw a_tn 112 m_Or_closedBy 1044 147 = true := fk_ok (by decide +kernel)
set_option maxRecDepth 100000 in
theorem o_Or_addUp : a_cm a_nw a_tn 113 m_Or_addUp 1066 147 = true := fk_ok (by decide +kernel)
set_option maxRecDepth 100000 in
theorem o_Or_closesAllLeft : a_cm a_nw a_tn 114 m_Or_closesAllLeft 1040 147 = true := fk_ok (by decide +kernel)
set_option maxRecDepth 100000 in
theorem o_Or_mayFollow : a_cm a_nw a_tn 115 m_Or_mayFollow 1062 147 = true := fk_ok (by decide +kernel)
set_option maxRecDepth 100000 in
theorem o_Or_leaveOut : a_cm a_nw a_tn 116 m_Or_leaveOut 1074 147 = true := fk_ok (by decide +kernel)
set_option maxRecDepth 100000 in
theorem o_Or_fitsLast : a_cm a_nw a_tn 117 m_Or_fitsLast 1070 147 = true := fk_ok (by decide +kernel)
set_option maxRecDepth 100000 in
theorem o_Or_tellRow : a_cm a_nw a_tn 118 m_Or_tellRow 1078 147 = true := fk_ok (by decide +kernel)
set_option maxRecDepth 100000 in
theorem o_Or_mayBeFirst : a_cm a_nw a_tn 119 m_Or_mayBeFirst 1082 147 = true := fk_ok (by decide +kernel)
set_option maxRecDepth 100000 in
theorem o_Or_take : a_cm a_nw a_tn 120 m_Or_take 1086 147 = true := fk_ok (by decide +kernel)
set_option maxRecDepth 100000 in
theorem o_Or_giveBack : a_cm a_nw a_tn 121 m_Or_giveBack 1090 147 = true := fk_ok (by decide +kernel)
set_option maxRecDepth 100000 in
theorem o_Or_readLastPage : a_cm a_nw a_tn 122 m_Or_readLastPage 1176 147 = true := fk_ok (by decide +kernel)
set_option maxRecDepth 100000 in
theorem o_Or_cameSo : a_cm a_nw a_tn 123 m_Or_cameSo 1185 147 = true := fk_ok (by decide +kernel)
set_option maxRecDepth 100000 in
theorem o_Or_leavesLastPage : a_cm a_nw a_tn 124 m_Or_leavesLastPage 1197 147 = true := fk_ok (by decide +kernel)
