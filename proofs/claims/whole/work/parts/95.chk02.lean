set_option maxRecDepth 100000 in
theorem o_Se_readCondition : a_cm a_nw a_tn 87 m_Se_readCondition 1399 146 = true := fk_ok (by decide +kernel)
set_option maxRecDepth 100000 in
theorem o_Se_readOne : a_cm a_nw a_tn 88 m_Se_readOne 1403 146 = true := fk_ok (by decide +kernel)
set_option maxRecDepth 100000 in
theorem o_Se_readNamed : a_cm a_nw a_tn 89 m_Se_readNamed 1417 146 = true := fk_ok (by decide +kernel)
set_option maxRecDepth 100000 in
theorem o_Se_readComparison : a_cm a_nw a_tn 90 m_Se_readComparison 1422 146 = true := fk_ok (by decide +kernel)
set_option maxRecDepth 100000 in
theorem o_Se_add : a_cm a_nw a_tn 91 m_Se_add 1413 146 = true := fk_ok (by decide +kernel)
set_option maxRecDepth 100000 in
theorem o_Se_holds : a_cm a_nw a_tn 92 m_Se_holds 1441 146 = true := fk_ok (by decide +kernel)
set_option maxRecDepth 100000 in
theorem o_Se_holdsOne : a_cm a_nw a_tn 93 m_Se_holdsOne 1445 146 = true := fk_ok (by decide +kernel)
set_option maxRecDepth 100000 in
theorem o_Se_compares : a_cm a_nw a_tn 94 m_Se_compares 1455 146 = true := fk_ok (by decide +kernel)
set_option maxRecDepth 100000 in
theorem o_Le_init : a_cm a_nw a_tn 95 m_Le_init 463 147 = true := fk_ok (by decide +kernel)
set_option maxRecDepth 100000 in
theorem o_Le_read : a_cm a_nw a_tn 96 m_Le_read 1349 147 = true := fk_ok (by decide +kernel)
set_option maxRecDepth 100000 in
theorem o_Le_readFirst : a_cm a_nw a_tn 97 m_Le_readFirst 1354 147 = true := fk_ok (by decide +kernel)
set_option maxRecDepth 100000 in
theorem o_Le_readDays : a_cm a_nw a_tn 98 m_Le_readDays 1362 147 = true := fk_ok (by decide +kernel)
set_option maxRecDepth 100000 in
theorem o_Le_readDeed : a_cm a_nw a_tn 99 m_Le_readDeed 1367 147 = true := fk_ok (by decide +kernel)
set_option maxRecDepth 100000 in
theorem o_Le_judge : a_cm a_nw a_tn 100 m_Le_judge 1374 147 = true := fk_ok (by decide +kernel)
set_option maxRecDepth 100000 in
theorem o_Le_live : a_cm a_nw a_tn 101 m_Le_live 1378 147 = true := fk_ok (by decide +kernel)
set_option maxRecDepth 100000 in
theorem o_Le_verdict : a_cm a_nw a_tn 102 m_Le_verdict 1391 147 = true := fk_ok (by decide +kernel)
set_option maxRecDepth 100000 in
theorem o_Or_init : a_cm a_nw a_tn 103 m_Or_init 504 148 = true := fk_ok (by decide +kernel)
set_option maxRecDepth 100000 in
theorem o_Or_rowAt : a_cm a_nw a_tn 104 m_Or_rowAt 1101 148 = true := fk_ok (by decide +kernel)
set_option maxRecDepth 100000 in
theorem o_Or_leastCoin : a_cm a_nw a_tn 105 m_Or_leastCoin 1025 148 = true := fk_ok (by decide +kernel)
set_option maxRecDepth 100000 in
theorem o_Or_leaveAsNow : a_cm a_nw a_tn 106 m_Or_leaveAsNow 1029 148 = true := fk_ok (by decide +kernel)
set_option maxRecDepth 100000 in
theorem o_Or_leaveAsTold : a_cm a_nw a_tn 107 m_Or_leaveAsTold 1200 148 = true := fk_ok (by decide +kernel)
set_option maxRecDepth 100000 in
theorem o_Or_cheapestSet : a_cm a_nw a_tn 108 m_Or_cheapestSet 1039 148 = true := fk_ok (by decide +kernel)
set_option maxRecDepth 100000 in
theorem o_Or_coinOf : a_cm a_nw a_tn 109 m_Or_coinOf 1055 148 = true := fk_ok (by decide +kernel)
set_option maxRecDepth 100000 in
theorem o_Or_closedBy : a_cm a_nw a_tn 110 m_Or_closedBy 1047 148 = true := fk_ok (by decide +kernel)
set_option maxRecDepth 100000 in
theorem o_Or_addUp : a_cm a_nw a_tn 111 m_Or_addUp 1069 148 = true := fk_ok (by decide +kernel)
set_option maxRecDepth 100000 in
theorem o_Or_closesAllLeft : a_cm a_nw a_tn 112 m_Or_closesAllLeft 1043 148 = true := fk_ok (by decide +kernel)
set_option maxRecDepth 100000 in
theorem o_Or_mayFollow : a_cm a_nw a_tn 113 m_Or_mayFollow 1065 148 = true := fk_ok (by decide +kernel)
set_option maxRecDepth 100000 in
theorem o_Or_leaveOut : a_cm a_nw a_tn 114 m_Or_leaveOut 1077 148 = true := fk_ok (by decide +kernel)
set_option maxRecDepth 100000 in
theorem o_Or_fitsLast : a_cm a_nw a_tn 115 m_Or_fitsLast 1073 148 = true := fk_ok (by decide +kernel)
set_option maxRecDepth 100000 in
theorem o_Or_tellRow : a_cm a_nw a_tn 116 m_Or_tellRow 1081 148 = true := fk_ok (by decide +kernel)
set_option maxRecDepth 100000 in
theorem o_Or_mayBeFirst : a_cm a_nw a_tn 117 m_Or_mayBeFirst 1085 148 = true := fk_ok (by decide +kernel)
set_option maxRecDepth 100000 in
theorem o_Or_take : a_cm a_nw a_tn 118 m_Or_take 1089 148 = true := fk_ok (by decide +kernel)
set_option maxRecDepth 100000 in
theorem o_Or_giveBack : a_cm a_nw a_tn 119 m_Or_giveBack 1093 148 = true := fk_ok (by decide +kernel)
set_option maxRecDepth 100000 in
theorem o_Or_readLastPage : a_cm a_nw a_tn 120 m_Or_readLastPage 1187 148 = true := fk_ok (by decide +kernel)
