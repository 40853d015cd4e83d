set_option maxRecDepth 100000 in
theorem o_Ta_add : a_cm a_nw a_tn 1 m_Ta_add 688 138 = true := fk_ok (by decide +kernel)
set_option maxRecDepth 100000 in
theorem o_Ta_at : a_cm a_nw a_tn 2 m_Ta_at 1191 138 = true := fk_ok (by decide +kernel)
set_option maxRecDepth 100000 in
theorem o_Ta_begin : a_cm a_nw a_tn 3 m_Ta_begin 700 138 = true := fk_ok (by decide +kernel)
set_option maxRecDepth 100000 in
theorem o_Ta_step : a_cm a_nw a_tn 4 m_Ta_step 704 138 = true := fk_ok (by decide +kernel)
set_option maxRecDepth 100000 in
theorem o_Ta_readRun : a_cm a_nw a_tn 5 m_Ta_readRun 714 138 = true := fk_ok (by decide +kernel)
set_option maxRecDepth 100000 in
theorem o_Ta_findKey : a_cm a_nw a_tn 6 m_Ta_findKey 721 138 = true := fk_ok (by decide +kernel)
set_option maxRecDepth 100000 in
theorem o_Ta_isBlank : a_cm a_nw a_tn 7 m_Ta_isBlank 710 138 = true := fk_ok (by decide +kernel)
set_option maxRecDepth 100000 in
theorem o_Ta_isSign : a_cm a_nw a_tn 8 m_Ta_isSign 717 138 = true := fk_ok (by decide +kernel)
set_option maxRecDepth 100000 in
theorem o_Ta_atEnd : a_cm a_nw a_tn 9 m_Ta_atEnd 733 138 = true := fk_ok (by decide +kernel)
set_option maxRecDepth 100000 in
theorem o_Ta_atName : a_cm a_nw a_tn 10 m_Ta_atName 758 138 = true := fk_ok (by decide +kernel)
set_option maxRecDepth 100000 in
theorem o_Ta_atSign : a_cm a_nw a_tn 11 m_Ta_atSign 791 138 = true := fk_ok (by decide +kernel)
set_option maxRecDepth 100000 in
theorem o_Ta_word : a_cm a_nw a_tn 12 m_Ta_word 741 138 = true := fk_ok (by decide +kernel)
set_option maxRecDepth 100000 in
theorem o_Ta_comparison : a_cm a_nw a_tn 13 m_Ta_comparison 1426 138 = true := fk_ok (by decide +kernel)
set_option maxRecDepth 100000 in
theorem o_Ta_fail : a_cm a_nw a_tn 14 m_Ta_fail 749 138 = true := fk_ok (by decide +kernel)
set_option maxRecDepth 100000 in
theorem o_Ta_takeEnd : a_cm a_nw a_tn 15 m_Ta_takeEnd 816 138 = true := fk_ok (by decide +kernel)
set_option maxRecDepth 100000 in
theorem o_Ta_takeSign : a_cm a_nw a_tn 16 m_Ta_takeSign 811 138 = true := fk_ok (by decide +kernel)
set_option maxRecDepth 100000 in
theorem o_Ta_takeNumber : a_cm a_nw a_tn 17 m_Ta_takeNumber 770 138 = true := fk_ok (by decide +kernel)
set_option maxRecDepth 100000 in
theorem o_Fa_init : a_cm a_nw a_tn 18 m_Fa_init 274 143 = true := fk_ok (by decide +kernel)
set_option maxRecDepth 100000 in
theorem o_Fa_copy : a_cm a_nw a_tn 19 m_Fa_copy 825 143 = true := fk_ok (by decide +kernel)
set_option maxRecDepth 100000 in
theorem o_Fa_clear : a_cm a_nw a_tn 20 m_Fa_clear 729 143 = true := fk_ok (by decide +kernel)
set_option maxRecDepth 100000 in
theorem o_Fa_isKind : a_cm a_nw a_tn 21 m_Fa_isKind 857 143 = true := fk_ok (by decide +kernel)
set_option maxRecDepth 100000 in
theorem o_Fa_isMan : a_cm a_nw a_tn 22 m_Fa_isMan 878 143 = true := fk_ok (by decide +kernel)
set_option maxRecDepth 100000 in
theorem o_Fa_isThing : a_cm a_nw a_tn 23 m_Fa_isThing 853 143 = true := fk_ok (by decide +kernel)
set_option maxRecDepth 100000 in
theorem o_Fa_isEnding : a_cm a_nw a_tn 24 m_Fa_isEnding 803 143 = true := fk_ok (by decide +kernel)
set_option maxRecDepth 100000 in
theorem o_Fa_areThings : a_cm a_nw a_tn 25 m_Fa_areThings 1109 143 = true := fk_ok (by decide +kernel)
set_option maxRecDepth 100000 in
theorem o_Fa_closed : a_cm a_nw a_tn 26 m_Fa_closed 870 143 = true := fk_ok (by decide +kernel)
set_option maxRecDepth 100000 in
theorem o_Fa_firstOpen : a_cm a_nw a_tn 27 m_Fa_firstOpen 1204 143 = true := fk_ok (by decide +kernel)
set_option maxRecDepth 100000 in
theorem o_Fa_closesInAll : a_cm a_nw a_tn 28 m_Fa_closesInAll 1574 143 = true := fk_ok (by decide +kernel)
set_option maxRecDepth 100000 in
theorem o_Fa_thingsOf : a_cm a_nw a_tn 29 m_Fa_thingsOf 882 143 = true := fk_ok (by decide +kernel)
set_option maxRecDepth 100000 in
theorem o_Fa_mostUnlike : a_cm a_nw a_tn 30 m_Fa_mostUnlike 1213 143 = true := fk_ok (by decide +kernel)
set_option maxRecDepth 100000 in
theorem o_Fa_unlikeAmounts : a_cm a_nw a_tn 31 m_Fa_unlikeAmounts 1217 143 = true := fk_ok (by decide +kernel)
set_option maxRecDepth 100000 in
theorem o_Fa_read : a_cm a_nw a_tn 32 m_Fa_read 725 143 = true := fk_ok (by decide +kernel)
set_option maxRecDepth 100000 in
theorem o_Fa_readLine : a_cm a_nw a_tn 33 m_Fa_readLine 737 143 = true := fk_ok (by decide +kernel)
set_option maxRecDepth 100000 in
theorem o_Fa_readKind : a_cm a_nw a_tn 34 m_Fa_readKind 745 143 = true := fk_ok (by decide +kernel)
set_option maxRecDepth 100000 in
theorem o_Fa_readMan : a_cm a_nw a_tn 35 m_Fa_readMan 766 143 = true := fk_ok (by decide +kernel)
set_option maxRecDepth 100000 in
theorem o_Fa_readThing : a_cm a_nw a_tn 36 m_Fa_readThing 775 143 = true := fk_ok (by decide +kernel)
set_option maxRecDepth 100000 in
theorem o_Fa_readEnding : a_cm a_nw a_tn 37 m_Fa_readEnding 795 143 = true := fk_ok (by decide +kernel)
set_option maxRecDepth 100000 in
theorem o_Fa_readAmounts : a_cm a_nw a_tn 38 m_Fa_readAmounts 787 143 = true := fk_ok (by decide +kernel)
set_option maxRecDepth 100000 in
theorem o_Fa_readFalse : a_cm a_nw a_tn 39 m_Fa_readFalse 799 143 = true := fk_ok (by decide +kernel)
set_option maxRecDepth 100000 in
theorem o_Fa_readDusk : a_cm a_nw a_tn 40 m_Fa_readDusk 807 143 = true := fk_ok (by decide +kernel)
set_option maxRecDepth 100000 in
theorem o_Fa_findName : a_cm a_nw a_tn 41 m_Fa_findName 762 143 = true := fk_ok (by decide +kernel)
set_option maxRecDepth 100000 in
theorem o_Fa_takeNewName : a_cm a_nw a_tn 42 m_Fa_takeNewName 754 143 = true := fk_ok (by decide +kernel)
set_option maxRecDepth 100000 in
theorem o_Fa_lookUp : a_cm a_nw a_tn 43 m_Fa_lookUp 783 143 = true := fk_ok (by decide +kernel)
