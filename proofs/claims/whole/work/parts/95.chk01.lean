set_option maxRecDepth 100000 in
theorem o_Fa_takeName : a_cm a_nw a_tn 44 m_Fa_takeName 779 143 = true := fk_ok (by decide +kernel)
set_option maxRecDepth 100000 in
theorem o_Af_init : a_cm a_nw a_tn 45 m_Af_init 359 144 = true := fk_ok (by decide +kernel)
set_option maxRecDepth 100000 in
theorem o_Af_begin : a_cm a_nw a_tn 46 m_Af_begin 832 144 = true := fk_ok (by decide +kernel)
set_option maxRecDepth 100000 in
theorem o_Af_copy : a_cm a_nw a_tn 47 m_Af_copy 937 144 = true := fk_ok (by decide +kernel)
set_option maxRecDepth 100000 in
theorem o_Af_daysLeft : a_cm a_nw a_tn 48 m_Af_daysLeft 975 144 = true := fk_ok (by decide +kernel)
set_option maxRecDepth 100000 in
theorem o_Af_amount : a_cm a_nw a_tn 49 m_Af_amount 861 144 = true := fk_ok (by decide +kernel)
set_option maxRecDepth 100000 in
theorem o_Af_setAmount : a_cm a_nw a_tn 50 m_Af_setAmount 967 144 = true := fk_ok (by decide +kernel)
set_option maxRecDepth 100000 in
theorem o_Af_shutBy : a_cm a_nw a_tn 51 m_Af_shutBy 1000 144 = true := fk_ok (by decide +kernel)
set_option maxRecDepth 100000 in
theorem o_Af_isPut : a_cm a_nw a_tn 52 m_Af_isPut 907 144 = true := fk_ok (by decide +kernel)
set_option maxRecDepth 100000 in
theorem o_Af_allOpen : a_cm a_nw a_tn 53 m_Af_allOpen 898 144 = true := fk_ok (by decide +kernel)
set_option maxRecDepth 100000 in
theorem o_Af_openKinds : a_cm a_nw a_tn 54 m_Af_openKinds 1556 144 = true := fk_ok (by decide +kernel)
set_option maxRecDepth 100000 in
theorem o_Af_openInAll : a_cm a_nw a_tn 55 m_Af_openInAll 915 144 = true := fk_ok (by decide +kernel)
set_option maxRecDepth 100000 in
theorem o_Af_ended : a_cm a_nw a_tn 56 m_Af_ended 894 144 = true := fk_ok (by decide +kernel)
set_option maxRecDepth 100000 in
theorem o_Af_pages : a_cm a_nw a_tn 57 m_Af_pages 1459 144 = true := fk_ok (by decide +kernel)
set_option maxRecDepth 100000 in
theorem o_Af_darkPages : a_cm a_nw a_tn 58 m_Af_darkPages 1561 144 = true := fk_ok (by decide +kernel)
set_option maxRecDepth 100000 in
theorem o_Af_allWentOn : a_cm a_nw a_tn 59 m_Af_allWentOn 919 144 = true := fk_ok (by decide +kernel)
set_option maxRecDepth 100000 in
theorem o_Af_allPut : a_cm a_nw a_tn 60 m_Af_allPut 903 144 = true := fk_ok (by decide +kernel)
set_option maxRecDepth 100000 in
theorem o_Af_allCoin : a_cm a_nw a_tn 61 m_Af_allCoin 911 144 = true := fk_ok (by decide +kernel)
set_option maxRecDepth 100000 in
theorem o_Af_endingsOf : a_cm a_nw a_tn 62 m_Af_endingsOf 886 144 = true := fk_ok (by decide +kernel)
set_option maxRecDepth 100000 in
theorem o_Af_suits : a_cm a_nw a_tn 63 m_Af_suits 956 144 = true := fk_ok (by decide +kernel)
set_option maxRecDepth 100000 in
theorem o_Af_fitting : a_cm a_nw a_tn 64 m_Af_fitting 1034 144 = true := fk_ok (by decide +kernel)
set_option maxRecDepth 100000 in
theorem o_Af_wouldClose : a_cm a_nw a_tn 65 m_Af_wouldClose 1129 144 = true := fk_ok (by decide +kernel)
set_option maxRecDepth 100000 in
theorem o_Af_enders : a_cm a_nw a_tn 66 m_Af_enders 1123 144 = true := fk_ok (by decide +kernel)
set_option maxRecDepth 100000 in
theorem o_Af_liking : a_cm a_nw a_tn 67 m_Af_liking 1240 144 = true := fk_ok (by decide +kernel)
set_option maxRecDepth 100000 in
theorem o_Af_cheapestOfOthers : a_cm a_nw a_tn 68 m_Af_cheapestOfOthers 1316 144 = true := fk_ok (by decide +kernel)
set_option maxRecDepth 100000 in
theorem o_Af_whyNotBuy : a_cm a_nw a_tn 69 m_Af_whyNotBuy 927 144 = true := fk_ok (by decide +kernel)
set_option maxRecDepth 100000 in
theorem o_Af_sell : a_cm a_nw a_tn 70 m_Af_sell 942 144 = true := fk_ok (by decide +kernel)
set_option maxRecDepth 100000 in
theorem o_Af_whyNotPut : a_cm a_nw a_tn 71 m_Af_whyNotPut 951 144 = true := fk_ok (by decide +kernel)
set_option maxRecDepth 100000 in
theorem o_Af_lay : a_cm a_nw a_tn 72 m_Af_lay 961 144 = true := fk_ok (by decide +kernel)
set_option maxRecDepth 100000 in
theorem o_Af_passDays : a_cm a_nw a_tn 73 m_Af_passDays 980 144 = true := fk_ok (by decide +kernel)
set_option maxRecDepth 100000 in
theorem o_Af_passDay : a_cm a_nw a_tn 74 m_Af_passDay 984 144 = true := fk_ok (by decide +kernel)
set_option maxRecDepth 100000 in
theorem o_Af_isWaiting : a_cm a_nw a_tn 75 m_Af_isWaiting 988 144 = true := fk_ok (by decide +kernel)
set_option maxRecDepth 100000 in
theorem o_Af_lastQuietDay : a_cm a_nw a_tn 76 m_Af_lastQuietDay 992 144 = true := fk_ok (by decide +kernel)
set_option maxRecDepth 100000 in
theorem o_Af_goOn : a_cm a_nw a_tn 77 m_Af_goOn 996 144 = true := fk_ok (by decide +kernel)
set_option maxRecDepth 100000 in
theorem o_Af_waiting : a_cm a_nw a_tn 78 m_Af_waiting 1308 144 = true := fk_ok (by decide +kernel)
set_option maxRecDepth 100000 in
theorem o_Af_openAt : a_cm a_nw a_tn 79 m_Af_openAt 1300 144 = true := fk_ok (by decide +kernel)
set_option maxRecDepth 100000 in
theorem o_Pa_init : a_cm a_nw a_tn 80 m_Pa_init 421 145 = true := fk_ok (by decide +kernel)
set_option maxRecDepth 100000 in
theorem o_Pa_clear : a_cm a_nw a_tn 81 m_Pa_clear 841 145 = true := fk_ok (by decide +kernel)
set_option maxRecDepth 100000 in
theorem o_Pa_keep : a_cm a_nw a_tn 82 m_Pa_keep 933 145 = true := fk_ok (by decide +kernel)
set_option maxRecDepth 100000 in
theorem o_Pa_takeBack : a_cm a_nw a_tn 83 m_Pa_takeBack 1011 145 = true := fk_ok (by decide +kernel)
set_option maxRecDepth 100000 in
theorem o_Se_init : a_cm a_nw a_tn 84 m_Se_init 440 146 = true := fk_ok (by decide +kernel)
set_option maxRecDepth 100000 in
theorem o_Se_clear : a_cm a_nw a_tn 85 m_Se_clear 837 146 = true := fk_ok (by decide +kernel)
set_option maxRecDepth 100000 in
theorem o_Se_copy : a_cm a_nw a_tn 86 m_Se_copy 1432 146 = true := fk_ok (by decide +kernel)
