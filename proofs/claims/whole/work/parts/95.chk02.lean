set_option maxRecDepth 100000 in
theorem o_Se_readCondition : a_cm a_nw a_tn 87 m_Se_readCondition 1384 143 = true := fk_ok (by decide +kernel)
set_option maxRecDepth 100000 in
theorem o_Se_readOne : a_cm a_nw a_tn 88 m_Se_readOne 1388 143 = true := fk_ok (by decide +kernel)
set_option maxRecDepth 100000 in
theorem o_Se_readNamed : a_cm a_nw a_tn 89 m_Se_readNamed 1402 143 = true := fk_ok (by decide +kernel)
set_option maxRecDepth 100000 in
theorem o_Se_readComparison : a_cm a_nw a_tn 90 m_Se_readComparison 1407 143 = true := fk_ok (by decide +kernel)
set_option maxRecDepth 100000 in
theorem o_Se_add : a_cm a_nw a_tn 91 m_Se_add 1398 143 = true := fk_ok (by decide +kernel)
set_option maxRecDepth 100000 in
theorem o_Se_holds : a_cm a_nw a_tn 92 m_Se_holds 1426 143 = true := fk_ok (by decide +kernel)
set_option maxRecDepth 100000 in
theorem o_Se_holdsOne : a_cm a_nw a_tn 93 m_Se_holdsOne 1430 143 = true := fk_ok (by decide +kernel)
set_option maxRecDepth 100000 in
theorem o_Se_compares : a_cm a_nw a_tn 94 m_Se_compares 1440 143 = true := fk_ok (by decide +kernel)
set_option maxRecDepth 100000 in
theorem o_Le_init : a_cm a_nw a_tn 95 m_Le_init 460 144 = true := fk_ok (by decide +kernel)
set_option maxRecDepth 100000 in
theorem o_Le_read : a_cm a_nw a_tn 96 m_Le_read 1334 144 = true := fk_ok (by decide +kernel)
set_option maxRecDepth 100000 in
theorem o_Le_readFirst : a_cm a_nw a_tn 97 m_Le_readFirst 1339 144 = true := fk_ok (by decide +kernel)
set_option maxRecDepth 100000 in
theorem o_Le_readDays : a_cm a_nw a_tn 98 m_Le_readDays 1347 144 = true := fk_ok (by decide +kernel)
set_option maxRecDepth 100000 in
theorem o_Le_readDeed : a_cm a_nw a_tn 99 m_Le_readDeed 1352 144 = true := fk_ok (by decide +kernel)
set_option maxRecDepth 100000 in
theorem o_Le_judge : a_cm a_nw a_tn 100 m_Le_judge 1359 144 = true := fk_ok (by decide +kernel)
set_option maxRecDepth 100000 in
theorem o_Le_live : a_cm a_nw a_tn 101 m_Le_live 1363 144 = true := fk_ok (by decide +kernel)
set_option maxRecDepth 100000 in
theorem o_Le_verdict : a_cm a_nw a_tn 102 m_Le_verdict 1376 144 = true := fk_ok (by decide +kernel)
set_option maxRecDepth 100000 in
theorem o_Or_init : a_cm a_nw a_tn 103 m_Or_init 501 145 = true := fk_ok (by decide +kernel)
set_option maxRecDepth 100000 in
theorem o_Or_rowAt : a_cm a_nw a_tn 104 m_Or_rowAt 1098 145 = true := fk_ok (by decide +kernel)
set_option maxRecDepth 100000 in
theorem o_Or_leastCoin : a_cm a_nw a_tn 105 m_Or_leastCoin 1022 145 = true := fk_ok (by decide +kernel)
set_option maxRecDepth 100000 in
theorem o_Or_leaveAsNow : a_cm a_nw a_tn 106 m_Or_leaveAsNow 1026 145 = true := fk_ok (by decide +kernel)
set_option maxRecDepth 100000 in
theorem o_Or_leaveAsTold : a_cm a_nw a_tn 107 m_Or_leaveAsTold 1189 145 = true := fk_ok (by decide +kernel)
set_option maxRecDepth 100000 in
theorem o_Or_cheapestSet : a_cm a_nw a_tn 108 m_Or_cheapestSet 1036 145 = true := fk_ok (by decide +kernel)
set_option maxRecDepth 100000 in
theorem o_Or_coinOf : a_cm a_nw a_tn 109 m_Or_coinOf 1052 145 = true := fk_ok (by decide +kernel)
set_option maxRecDepth 100000 in
theorem o_Or_closedBy : a_cm a_nw a_tn 110 m_Or_closedBy 1044 145 = true := fk_ok (by decide +kernel)
set_option maxRecDepth 100000 in
theorem o_Or_addUp : a_cm a_nw a_tn 111 m_Or_addUp 1066 145 = true := fk_ok (by decide +kernel)
set_option maxRecDepth 100000 in
theorem o_Or_closesAllLeft : a_cm a_nw a_tn 112 m_Or_closesAllLeft 1040 145 = true := fk_ok (by decide +kernel)
set_option maxRecDepth 100000 in
theorem o_Or_mayFollow : a_cm a_nw a_tn 113 m_Or_mayFollow 1062 145 = true := fk_ok (by decide +kernel)
set_option maxRecDepth 100000 in
theorem o_Or_leaveOut : a_cm a_nw a_tn 114 m_Or_leaveOut 1074 145 = true := fk_ok (by decide +kernel)
set_option maxRecDepth 100000 in
theorem o_Or_fitsLast : a_cm a_nw a_tn 115 m_Or_fitsLast 1070 145 = true := fk_ok (by decide +kernel)
set_option maxRecDepth 100000 in
theorem o_Or_tellRow : a_cm a_nw a_tn 116 m_Or_tellRow 1078 145 = true := fk_ok (by decide +kernel)
set_option maxRecDepth 100000 in
theorem o_Or_mayBeFirst : a_cm a_nw a_tn 117 m_Or_mayBeFirst 1082 145 = true := fk_ok (by decide +kernel)
set_option maxRecDepth 100000 in
theorem o_Or_take : a_cm a_nw a_tn 118 m_Or_take 1086 145 = true := fk_ok (by decide +kernel)
set_option maxRecDepth 100000 in
theorem o_Or_giveBack : a_cm a_nw a_tn 119 m_Or_giveBack 1090 145 = true := fk_ok (by decide +kernel)
set_option maxRecDepth 100000 in
theorem o_Or_readLastPage : a_cm a_nw a_tn 120 m_Or_readLastPage 1176 145 = true := fk_ok (by decide +kernel)
