/-! ALL METHODS, CHECKED -/
set_option maxRecDepth 100000 in
theorem o_Ta_init : a_cm a_nw a_tn 0 m_Ta_init 173 138 = true := fk_ok (by decide +kernel)
set_option maxRecDepth 100000 in
theorem o_La_thing : a_ch9 a_nw a_tn 316 m_La_thing [(0, 10, 13, 13)] 1481 = true := by decide +kernel
set_option maxRecDepth 100000 in
theorem o_La_ending : a_ch9 a_nw a_tn 317 m_La_ending [(0, 10, 13, 13)] 1565 = true := by decide +kernel
set_option maxRecDepth 100000 in
theorem oz_tw_thing : m_EM_thing.2.2.2.2.all (a_tw1 m_EM_thing.2.1) = true := by decide +kernel
set_option maxRecDepth 100000 in
theorem oz_tw_ending : m_EM_ending.2.2.2.2.all (a_tw1 m_EM_ending.2.1) = true := by decide +kernel
def oz_P (y : Nat) : Prop := ∃ m wc wi, a_T[y]? = some m ∧ a_cm a_nw a_tn y m wc wi = true
set_option maxRecDepth 100000 in
theorem oz_b0 : ∀ i, i < 40 → oz_P (0 + i) := fun i hi => match i, hi with
  | 0, _ => ⟨_, _, _, rfl, o_Ta_init⟩
  | 1, _ => ⟨_, _, _, rfl, o_Ta_add⟩
  | 2, _ => ⟨_, _, _, rfl, o_Ta_at⟩
  | 3, _ => ⟨_, _, _, rfl, o_Ta_begin⟩
  | 4, _ => ⟨_, _, _, rfl, o_Ta_step⟩
  | 5, _ => ⟨_, _, _, rfl, o_Ta_readRun⟩
  | 6, _ => ⟨_, _, _, rfl, o_Ta_findKey⟩
  | 7, _ => ⟨_, _, _, rfl, o_Ta_isBlank⟩
  | 8, _ => ⟨_, _, _, rfl, o_Ta_isSign⟩
  | 9, _ => ⟨_, _, _, rfl, o_Ta_atEnd⟩
  | 10, _ => ⟨_, _, _, rfl, o_Ta_atName⟩
  | 11, _ => ⟨_, _, _, rfl, o_Ta_atSign⟩
  | 12, _ => ⟨_, _, _, rfl, o_Ta_word⟩
  | 13, _ => ⟨_, _, _, rfl, o_Ta_comparison⟩
  | 14, _ => ⟨_, _, _, rfl, o_Ta_fail⟩
  | 15, _ => ⟨_, _, _, rfl, o_Ta_takeEnd⟩
  | 16, _ => ⟨_, _, _, rfl, o_Ta_takeSign⟩
  | 17, _ => ⟨_, _, _, rfl, o_Ta_takeNumber⟩
  | 18, _ => ⟨_, _, _, rfl, o_Fa_init⟩
  | 19, _ => ⟨_, _, _, rfl, o_Fa_copy⟩
  | 20, _ => ⟨_, _, _, rfl, o_Fa_clear⟩
  | 21, _ => ⟨_, _, _, rfl, o_Fa_isKind⟩
  | 22, _ => ⟨_, _, _, rfl, o_Fa_isMan⟩
  | 23, _ => ⟨_, _, _, rfl, o_Fa_isThing⟩
  | 24, _ => ⟨_, _, _, rfl, o_Fa_isEnding⟩
  | 25, _ => ⟨_, _, _, rfl, o_Fa_areThings⟩
  | 26, _ => ⟨_, _, _, rfl, o_Fa_closed⟩
  | 27, _ => ⟨_, _, _, rfl, o_Fa_firstOpen⟩
  | 28, _ => ⟨_, _, _, rfl, o_Fa_closesInAll⟩
  | 29, _ => ⟨_, _, _, rfl, o_Fa_thingsOf⟩
  | 30, _ => ⟨_, _, _, rfl, o_Fa_mostUnlike⟩
  | 31, _ => ⟨_, _, _, rfl, o_Fa_unlikeAmounts⟩
  | 32, _ => ⟨_, _, _, rfl, o_Fa_read⟩
  | 33, _ => ⟨_, _, _, rfl, o_Fa_readLine⟩
  | 34, _ => ⟨_, _, _, rfl, o_Fa_readKind⟩
  | 35, _ => ⟨_, _, _, rfl, o_Fa_readMan⟩
  | 36, _ => ⟨_, _, _, rfl, o_Fa_readThing⟩
  | 37, _ => ⟨_, _, _, rfl, o_Fa_readEnding⟩
  | 38, _ => ⟨_, _, _, rfl, o_Fa_readAmounts⟩
  | 39, _ => ⟨_, _, _, rfl, o_Fa_readFalse⟩
  | n + 40, h => absurd h (by omega)
set_option maxRecDepth 100000 in
theorem oz_b1 : ∀ i, i < 40 → oz_P (40 + i) := fun i hi => match i, hi with
  | 0, _ => ⟨_, _, _, rfl, o_Fa_readDusk⟩
  | 1, _ => ⟨_, _, _, rfl, o_Fa_findName⟩
  | 2, _ => ⟨_, _, _, rfl, o_Fa_takeNewName⟩
  | 3, _ => ⟨_, _, _, rfl, o_Fa_lookUp⟩
  | 4, _ => ⟨_, _, _, rfl, o_Fa_takeName⟩
  | 5, _ => ⟨_, _, _, rfl, o_Af_init⟩
  | 6, _ => ⟨_, _, _, rfl, o_Af_begin⟩
  | 7, _ => ⟨_, _, _, rfl, o_Af_copy⟩
  | 8, _ => ⟨_, _, _, rfl, o_Af_daysLeft⟩
  | 9, _ => ⟨_, _, _, rfl, o_Af_amount⟩
  | 10, _ => ⟨_, _, _, rfl, o_Af_setAmount⟩
  | 11, _ => ⟨_, _, _, rfl, o_Af_shutBy⟩
  | 12, _ => ⟨_, _, _, rfl, o_Af_isPut⟩
  | 13, _ => ⟨_, _, _, rfl, o_Af_allOpen⟩
  | 14, _ => ⟨_, _, _, rfl, o_Af_openKinds⟩
  | 15, _ => ⟨_, _, _, rfl, o_Af_openInAll⟩
  | 16, _ => ⟨_, _, _, rfl, o_Af_ended⟩
  | 17, _ => ⟨_, _, _, rfl, o_Af_pages⟩
  | 18, _ => ⟨_, _, _, rfl, o_Af_darkPages⟩
  | 19, _ => ⟨_, _, _, rfl, o_Af_allWentOn⟩
  | 20, _ => ⟨_, _, _, rfl, o_Af_allPut⟩
  | 21, _ => ⟨_, _, _, rfl, o_Af_allCoin⟩
  | 22, _ => ⟨_, _, _, rfl, o_Af_endingsOf⟩
  | 23, _ => ⟨_, _, _, rfl, o_Af_suits⟩
  | 24, _ => ⟨_, _, _, rfl, o_Af_fitting⟩
  | 25, _ => ⟨_, _, _, rfl, o_Af_wouldClose⟩
  | 26, _ => ⟨_, _, _, rfl, o_Af_enders⟩
  | 27, _ => ⟨_, _, _, rfl, o_Af_liking⟩
  | 28, _ => ⟨_, _, _, rfl, o_Af_cheapestOfOthers⟩
  | 29, _ => ⟨_, _, _, rfl, o_Af_whyNotBuy⟩
  | 30, _ => ⟨_, _, _, rfl, o_Af_sell⟩
  | 31, _ => ⟨_, _, _, rfl, o_Af_whyNotPut⟩
  | 32, _ => ⟨_, _, _, rfl, o_Af_lay⟩
  | 33, _ => ⟨_, _, _, rfl, o_Af_passDays⟩
  | 34, _ => ⟨_, _, _, rfl, o_Af_passDay⟩
  | 35, _ => ⟨_, _, _, rfl, o_Af_isWaiting⟩
  | 36, _ => ⟨_, _, _, rfl, o_Af_lastQuietDay⟩
  | 37, _ => ⟨_, _, _, rfl, o_Af_goOn⟩
  | 38, _ => ⟨_, _, _, rfl, o_Af_waiting⟩
  | 39, _ => ⟨_, _, _, rfl, o_Af_openAt⟩
  | n + 40, h => absurd h (by omega)
set_option maxRecDepth 100000 in
theorem oz_b2 : ∀ i, i < 40 → oz_P (80 + i) := fun i hi => match i, hi with
  | 0, _ => ⟨_, _, _, rfl, o_Pa_init⟩
  | 1, _ => ⟨_, _, _, rfl, o_Pa_clear⟩
  | 2, _ => ⟨_, _, _, rfl, o_Pa_keep⟩
  | 3, _ => ⟨_, _, _, rfl, o_Pa_takeBack⟩
  | 4, _ => ⟨_, _, _, rfl, o_Se_init⟩
  | 5, _ => ⟨_, _, _, rfl, o_Se_clear⟩
  | 6, _ => ⟨_, _, _, rfl, o_Se_copy⟩
  | 7, _ => ⟨_, _, _, rfl, o_Se_readCondition⟩
  | 8, _ => ⟨_, _, _, rfl, o_Se_readOne⟩
  | 9, _ => ⟨_, _, _, rfl, o_Se_readNamed⟩
  | 10, _ => ⟨_, _, _, rfl, o_Se_readComparison⟩
  | 11, _ => ⟨_, _, _, rfl, o_Se_add⟩
  | 12, _ => ⟨_, _, _, rfl, o_Se_holds⟩
  | 13, _ => ⟨_, _, _, rfl, o_Se_holdsOne⟩
  | 14, _ => ⟨_, _, _, rfl, o_Se_compares⟩
  | 15, _ => ⟨_, _, _, rfl, o_Le_init⟩
  | 16, _ => ⟨_, _, _, rfl, o_Le_read⟩
  | 17, _ => ⟨_, _, _, rfl, o_Le_readFirst⟩
  | 18, _ => ⟨_, _, _, rfl, o_Le_readDays⟩
  | 19, _ => ⟨_, _, _, rfl, o_Le_readDeed⟩
  | 20, _ => ⟨_, _, _, rfl, o_Le_judge⟩
  | 21, _ => ⟨_, _, _, rfl, o_Le_live⟩
  | 22, _ => ⟨_, _, _, rfl, o_Le_verdict⟩
  | 23, _ => ⟨_, _, _, rfl, o_Or_init⟩
  | 24, _ => ⟨_, _, _, rfl, o_Or_rowAt⟩
  | 25, _ => ⟨_, _, _, rfl, o_Or_leastCoin⟩
  | 26, _ => ⟨_, _, _, rfl, o_Or_leaveAsNow⟩
  | 27, _ => ⟨_, _, _, rfl, o_Or_leaveAsTold⟩
  | 28, _ => ⟨_, _, _, rfl, o_Or_cheapestSet⟩
  | 29, _ => ⟨_, _, _, rfl, o_Or_coinOf⟩
  | 30, _ => ⟨_, _, _, rfl, o_Or_closedBy⟩
  | 31, _ => ⟨_, _, _, rfl, o_Or_addUp⟩
  | 32, _ => ⟨_, _, _, rfl, o_Or_closesAllLeft⟩
  | 33, _ => ⟨_, _, _, rfl, o_Or_mayFollow⟩
  | 34, _ => ⟨_, _, _, rfl, o_Or_leaveOut⟩
  | 35, _ => ⟨_, _, _, rfl, o_Or_fitsLast⟩
  | 36, _ => ⟨_, _, _, rfl, o_Or_tellRow⟩
  | 37, _ => ⟨_, _, _, rfl, o_Or_mayBeFirst⟩
  | 38, _ => ⟨_, _, _, rfl, o_Or_take⟩
  | 39, _ => ⟨_, _, _, rfl, o_Or_giveBack⟩
  | n + 40, h => absurd h (by omega)
set_option maxRecDepth 100000 in
theorem oz_b3 : ∀ i, i < 40 → oz_P (120 + i) := fun i hi => match i, hi with
  | 0, _ => ⟨_, _, _, rfl, o_Or_readLastPage⟩
  | 1, _ => ⟨_, _, _, rfl, o_Or_cameSo⟩
  | 2, _ => ⟨_, _, _, rfl, o_Or_leavesLastPage⟩
  | 3, _ => ⟨_, _, _, rfl, o_Ma_init⟩
  | 4, _ => ⟨_, _, _, rfl, o_Ma_given⟩
  | 5, _ => ⟨_, _, _, rfl, o_Ma_gather⟩
  | 6, _ => ⟨_, _, _, rfl, o_Ma_leastCoin⟩
  | 7, _ => ⟨_, _, _, rfl, o_Ma_leastRest⟩
  | 8, _ => ⟨_, _, _, rfl, o_Ma_freeFor⟩
  | 9, _ => ⟨_, _, _, rfl, o_Ma_restBehind⟩
  | 10, _ => ⟨_, _, _, rfl, o_Ma_coinWith⟩
  | 11, _ => ⟨_, _, _, rfl, o_Ma_give⟩
  | 12, _ => ⟨_, _, _, rfl, o_Ma_firstBest⟩
  | 13, _ => ⟨_, _, _, rfl, o_Ma_fewest⟩
  | 14, _ => ⟨_, _, _, rfl, o_Ma_goWithAll⟩
  | 15, _ => ⟨_, _, _, rfl, o_Ri_init⟩
  | 16, _ => ⟨_, _, _, rfl, o_Ri_form⟩
  | 17, _ => ⟨_, _, _, rfl, o_Ri_come⟩
  | 18, _ => ⟨_, _, _, rfl, o_Ri_point⟩
  | 19, _ => ⟨_, _, _, rfl, o_Ri_favourite⟩
  | 20, _ => ⟨_, _, _, rfl, o_Ri_leaveInRings⟩
  | 21, _ => ⟨_, _, _, rfl, o_Ri_broughtBy⟩
  | 22, _ => ⟨_, _, _, rfl, o_Ri_standsInRing⟩
  | 23, _ => ⟨_, _, _, rfl, o_Ri_changed⟩
  | 24, _ => ⟨_, _, _, rfl, o_Ri_handOver⟩
  | 25, _ => ⟨_, _, _, rfl, o_Dr_init⟩
  | 26, _ => ⟨_, _, _, rfl, o_Dr_draw⟩
  | 27, _ => ⟨_, _, _, rfl, o_Dr_live⟩
  | 28, _ => ⟨_, _, _, rfl, o_Dr_act⟩
  | 29, _ => ⟨_, _, _, rfl, o_Im_init⟩
  | 30, _ => ⟨_, _, _, rfl, o_Im_keep⟩
  | 31, _ => ⟨_, _, _, rfl, o_EM_init⟩
  | 32, _ => ⟨_, _, _, rfl, o_EM_feed⟩
  | 33, _ => ⟨_, _, _, rfl, o_EM_end⟩
  | 34, _ => ⟨_, _, _, rfl, o_EM_market⟩
  | 35, _ => ⟨_, _, _, rfl, o_EM_fault⟩
  | 36, _ => ⟨_, _, _, rfl, o_EM_thing⟩
  | 37, _ => ⟨_, _, _, rfl, o_EM_open⟩
  | 38, _ => ⟨_, _, _, rfl, o_EM_ending⟩
  | 39, _ => ⟨_, _, _, rfl, o_EM_closes⟩
  | n + 40, h => absurd h (by omega)
set_option maxRecDepth 100000 in
theorem oz_b4 : ∀ i, i < 40 → oz_P (160 + i) := fun i hi => match i, hi with
  | 0, _ => ⟨_, _, _, rfl, o_EM_man⟩
  | 1, _ => ⟨_, _, _, rfl, o_EM_now⟩
  | 2, _ => ⟨_, _, _, rfl, o_EM_buy⟩
  | 3, _ => ⟨_, _, _, rfl, o_EM_put⟩
  | 4, _ => ⟨_, _, _, rfl, o_EM_days⟩
  | 5, _ => ⟨_, _, _, rfl, o_EM_undo⟩
  | 6, _ => ⟨_, _, _, rfl, o_EM_fits⟩
  | 7, _ => ⟨_, _, _, rfl, o_EM_ends⟩
  | 8, _ => ⟨_, _, _, rfl, o_EM_row⟩
  | 9, _ => ⟨_, _, _, rfl, o_EM_street⟩
  | 10, _ => ⟨_, _, _, rfl, o_EM_has⟩
  | 11, _ => ⟨_, _, _, rfl, o_EM_covers⟩
  | 12, _ => ⟨_, _, _, rfl, o_EM_tray⟩
  | 13, _ => ⟨_, _, _, rfl, o_EM_was⟩
  | 14, _ => ⟨_, _, _, rfl, o_EM_ask⟩
  | 15, _ => ⟨_, _, _, rfl, o_EM_haggle⟩
  | 16, _ => ⟨_, _, _, rfl, o_EM_rounds⟩
  | 17, _ => ⟨_, _, _, rfl, o_EM_likes⟩
  | 18, _ => ⟨_, _, _, rfl, o_EM_gets⟩
  | 19, _ => ⟨_, _, _, rfl, o_EM_trade⟩
  | 20, _ => ⟨_, _, _, rfl, o_EM_when⟩
  | 21, _ => ⟨_, _, _, rfl, o_EM_later⟩
  | 22, _ => ⟨_, _, _, rfl, o_EM_dark⟩
  | 23, _ => ⟨_, _, _, rfl, o_EM_cheapest⟩
  | 24, _ => ⟨_, _, _, rfl, o_EM_drawn⟩
  | 25, _ => ⟨_, _, _, rfl, o_EM_odds⟩
  | 26, _ => ⟨_, _, _, rfl, o_EM_ledger⟩
  | 27, _ => ⟨_, _, _, rfl, o_EM_told⟩
  | 28, _ => ⟨_, _, _, rfl, o_EM_sentence⟩
  | 29, _ => ⟨_, _, _, rfl, o_EM_said⟩
  | 30, _ => ⟨_, _, _, rfl, o_EM_image⟩
  | 31, _ => ⟨_, _, _, rfl, o_EM_restore⟩
  | 32, _ => ⟨_, _, _, rfl, o_EM_count⟩
  | 33, _ => ⟨_, _, _, rfl, o_EM_leaveText⟩
  | 34, _ => ⟨_, _, _, rfl, o_EM_isIn⟩
  | 35, _ => ⟨_, _, _, rfl, o_Mo_thrown⟩
  | 36, _ => ⟨_, _, _, rfl, o_Mo_throwsIf⟩
  | 37, _ => ⟨_, _, _, rfl, o_Mo_feed⟩
  | 38, _ => ⟨_, _, _, rfl, o_Mo_four⟩
  | 39, _ => ⟨_, _, _, rfl, o_Mo_end⟩
  | n + 40, h => absurd h (by omega)
set_option maxRecDepth 100000 in
theorem oz_b5 : ∀ i, i < 40 → oz_P (200 + i) := fun i hi => match i, hi with
  | 0, _ => ⟨_, _, _, rfl, o_Mo_taken⟩
  | 1, _ => ⟨_, _, _, rfl, o_Mo_isIn⟩
  | 2, _ => ⟨_, _, _, rfl, o_Mo_bitOf⟩
  | 3, _ => ⟨_, _, _, rfl, o_Mo_lesser⟩
  | 4, _ => ⟨_, _, _, rfl, o_Mo_greater⟩
  | 5, _ => ⟨_, _, _, rfl, o_Mo_bits⟩
  | 6, _ => ⟨_, _, _, rfl, o_Mo_octet⟩
  | 7, _ => ⟨_, _, _, rfl, o_Mo_init⟩
  | 8, _ => ⟨_, _, _, rfl, o_Mo_peek⟩
  | 9, _ => ⟨_, _, _, rfl, o_Mo_isSmall⟩
  | 10, _ => ⟨_, _, _, rfl, o_Mo_isDigit⟩
  | 11, _ => ⟨_, _, _, rfl, o_Mo_next⟩
  | 12, _ => ⟨_, _, _, rfl, o_Mo_bad⟩
  | 13, _ => ⟨_, _, _, rfl, o_Mo_isWord⟩
  | 14, _ => ⟨_, _, _, rfl, o_Mo_isSign⟩
  | 15, _ => ⟨_, _, _, rfl, o_Mo_sign⟩
  | 16, _ => ⟨_, _, _, rfl, o_Mo_isName⟩
  | 17, _ => ⟨_, _, _, rfl, o_Mo_takes⟩
  | 18, _ => ⟨_, _, _, rfl, o_Mo_puts⟩
  | 19, _ => ⟨_, _, _, rfl, o_Mo_find⟩
  | 20, _ => ⟨_, _, _, rfl, o_Mo_fresh⟩
  | 21, _ => ⟨_, _, _, rfl, o_Mo_looksAt⟩
  | 22, _ => ⟨_, _, _, rfl, o_Mo_takesName⟩
  | 23, _ => ⟨_, _, _, rfl, o_Mo_line⟩
  | 24, _ => ⟨_, _, _, rfl, o_Mo_readKinds⟩
  | 25, _ => ⟨_, _, _, rfl, o_Mo_market⟩
  | 26, _ => ⟨_, _, _, rfl, o_Mo_fault⟩
  | 27, _ => ⟨_, _, _, rfl, o_Mo_isKind⟩
  | 28, _ => ⟨_, _, _, rfl, o_Mo_isMan⟩
  | 29, _ => ⟨_, _, _, rfl, o_Mo_isThing⟩
  | 30, _ => ⟨_, _, _, rfl, o_Mo_isEnding⟩
  | 31, _ => ⟨_, _, _, rfl, o_Mo_isPut⟩
  | 32, _ => ⟨_, _, _, rfl, o_Mo_openOf⟩
  | 33, _ => ⟨_, _, _, rfl, o_Mo_closed⟩
  | 34, _ => ⟨_, _, _, rfl, o_Mo_fitsRow⟩
  | 35, _ => ⟨_, _, _, rfl, o_Mo_doesFit⟩
  | 36, _ => ⟨_, _, _, rfl, o_Mo_endingsOf⟩
  | 37, _ => ⟨_, _, _, rfl, o_Mo_putSet⟩
  | 38, _ => ⟨_, _, _, rfl, o_Mo_endedSet⟩
  | 39, _ => ⟨_, _, _, rfl, o_Mo_thing⟩
  | n + 40, h => absurd h (by omega)
set_option maxRecDepth 100000 in
theorem oz_b6 : ∀ i, i < 40 → oz_P (240 + i) := fun i hi => match i, hi with
  | 0, _ => ⟨_, _, _, rfl, o_Mo_open⟩
  | 1, _ => ⟨_, _, _, rfl, o_Mo_ending⟩
  | 2, _ => ⟨_, _, _, rfl, o_Mo_closes⟩
  | 3, _ => ⟨_, _, _, rfl, o_Mo_man⟩
  | 4, _ => ⟨_, _, _, rfl, o_Mo_now⟩
  | 5, _ => ⟨_, _, _, rfl, o_Mo_whyBuy⟩
  | 6, _ => ⟨_, _, _, rfl, o_Mo_buys⟩
  | 7, _ => ⟨_, _, _, rfl, o_Mo_whyPut⟩
  | 8, _ => ⟨_, _, _, rfl, o_Mo_putsTo⟩
  | 9, _ => ⟨_, _, _, rfl, o_Mo_goesOnInDark⟩
  | 10, _ => ⟨_, _, _, rfl, o_Mo_day⟩
  | 11, _ => ⟨_, _, _, rfl, o_Mo_goesOn⟩
  | 12, _ => ⟨_, _, _, rfl, o_Mo_buy⟩
  | 13, _ => ⟨_, _, _, rfl, o_Mo_put⟩
  | 14, _ => ⟨_, _, _, rfl, o_Mo_days⟩
  | 15, _ => ⟨_, _, _, rfl, o_Mo_keep⟩
  | 16, _ => ⟨_, _, _, rfl, o_Mo_undo⟩
  | 17, _ => ⟨_, _, _, rfl, o_Mo_tries⟩
  | 18, _ => ⟨_, _, _, rfl, o_Mo_back⟩
  | 19, _ => ⟨_, _, _, rfl, o_Mo_fits⟩
  | 20, _ => ⟨_, _, _, rfl, o_Mo_rest⟩
  | 21, _ => ⟨_, _, _, rfl, o_Mo_fitsBehind⟩
  | 22, _ => ⟨_, _, _, rfl, o_Mo_cans⟩
  | 23, _ => ⟨_, _, _, rfl, o_Mo_closesAll⟩
  | 24, _ => ⟨_, _, _, rfl, o_Mo_priceOf⟩
  | 25, _ => ⟨_, _, _, rfl, o_Mo_orders⟩
  | 26, _ => ⟨_, _, _, rfl, o_Mo_ends⟩
  | 27, _ => ⟨_, _, _, rfl, o_Mo_row⟩
  | 28, _ => ⟨_, _, _, rfl, o_Mo_endsAt⟩
  | 29, _ => ⟨_, _, _, rfl, o_Mo_needs⟩
  | 30, _ => ⟨_, _, _, rfl, o_Mo_streets⟩
  | 31, _ => ⟨_, _, _, rfl, o_Mo_street⟩
  | 32, _ => ⟨_, _, _, rfl, o_Mo_has⟩
  | 33, _ => ⟨_, _, _, rfl, o_Mo_goesWith⟩
  | 34, _ => ⟨_, _, _, rfl, o_Mo_covers⟩
  | 35, _ => ⟨_, _, _, rfl, o_Mo_tray⟩
  | 36, _ => ⟨_, _, _, rfl, o_Mo_wasIt⟩
  | 37, _ => ⟨_, _, _, rfl, o_Mo_unlike⟩
  | 38, _ => ⟨_, _, _, rfl, o_Mo_was⟩
  | 39, _ => ⟨_, _, _, rfl, o_Mo_ask⟩
  | n + 40, h => absurd h (by omega)
set_option maxRecDepth 100000 in
theorem oz_b7 : ∀ i, i < 36 → oz_P (280 + i) := fun i hi => match i, hi with
  | 0, _ => ⟨_, _, _, rfl, o_Mo_haggle⟩
  | 1, _ => ⟨_, _, _, rfl, o_Mo_rounds⟩
  | 2, _ => ⟨_, _, _, rfl, o_Mo_likesOf⟩
  | 3, _ => ⟨_, _, _, rfl, o_Mo_likes⟩
  | 4, _ => ⟨_, _, _, rfl, o_Mo_rings⟩
  | 5, _ => ⟨_, _, _, rfl, o_Mo_pointsTo⟩
  | 6, _ => ⟨_, _, _, rfl, o_Mo_comesBack⟩
  | 7, _ => ⟨_, _, _, rfl, o_Mo_gets⟩
  | 8, _ => ⟨_, _, _, rfl, o_Mo_trade⟩
  | 9, _ => ⟨_, _, _, rfl, o_Mo_when⟩
  | 10, _ => ⟨_, _, _, rfl, o_Mo_later⟩
  | 11, _ => ⟨_, _, _, rfl, o_Mo_dark⟩
  | 12, _ => ⟨_, _, _, rfl, o_Mo_cheapest⟩
  | 13, _ => ⟨_, _, _, rfl, o_Mo_draw⟩
  | 14, _ => ⟨_, _, _, rfl, o_Mo_drawsMan⟩
  | 15, _ => ⟨_, _, _, rfl, o_Mo_draws⟩
  | 16, _ => ⟨_, _, _, rfl, o_Mo_drawn⟩
  | 17, _ => ⟨_, _, _, rfl, o_Mo_odds⟩
  | 18, _ => ⟨_, _, _, rfl, o_Mo_ledgerLine⟩
  | 19, _ => ⟨_, _, _, rfl, o_Mo_lives⟩
  | 20, _ => ⟨_, _, _, rfl, o_Mo_ledger⟩
  | 21, _ => ⟨_, _, _, rfl, o_Mo_told⟩
  | 22, _ => ⟨_, _, _, rfl, o_Mo_code⟩
  | 23, _ => ⟨_, _, _, rfl, o_Mo_joins⟩
  | 24, _ => ⟨_, _, _, rfl, o_Mo_nots⟩
  | 25, _ => ⟨_, _, _, rfl, o_Mo_leafOf⟩
  | 26, _ => ⟨_, _, _, rfl, o_Mo_operand⟩
  | 27, _ => ⟨_, _, _, rfl, o_Mo_behind⟩
  | 28, _ => ⟨_, _, _, rfl, o_Mo_sentence⟩
  | 29, _ => ⟨_, _, _, rfl, o_Mo_isLeaf⟩
  | 30, _ => ⟨_, _, _, rfl, o_Mo_isSaid⟩
  | 31, _ => ⟨_, _, _, rfl, o_Mo_said⟩
  | 32, _ => ⟨_, _, _, rfl, o_Mo_image⟩
  | 33, _ => ⟨_, _, _, rfl, o_Mo_restore⟩
  | 34, _ => ⟨_, _, _, rfl, o_Mo_count⟩
  | 35, _ => ⟨_, _, _, rfl, o_Ji_bitCount⟩
  | n + 36, h => absurd h (by omega)
theorem oz_b : ∀ y, y < 316 → oz_P y := by
  intro y hy
  rcases (show (0 ≤ y ∧ y < 40) ∨ (40 ≤ y ∧ y < 80) ∨ (80 ≤ y ∧ y < 120) ∨ (120 ≤ y ∧ y < 160) ∨ (160 ≤ y ∧ y < 200) ∨ (200 ≤ y ∧ y < 240) ∨ (240 ≤ y ∧ y < 280) ∨ (280 ≤ y ∧ y < 316) by omega) with ⟨h1, h2⟩ | ⟨h1, h2⟩ | ⟨h1, h2⟩ | ⟨h1, h2⟩ | ⟨h1, h2⟩ | ⟨h1, h2⟩ | ⟨h1, h2⟩ | ⟨h1, h2⟩
  · have := oz_b0 (y - 0) (by omega)
    rwa [show 0 + (y - 0) = y by omega] at this
  · have := oz_b1 (y - 40) (by omega)
    rwa [show 40 + (y - 40) = y by omega] at this
  · have := oz_b2 (y - 80) (by omega)
    rwa [show 80 + (y - 80) = y by omega] at this
  · have := oz_b3 (y - 120) (by omega)
    rwa [show 120 + (y - 120) = y by omega] at this
  · have := oz_b4 (y - 160) (by omega)
    rwa [show 160 + (y - 160) = y by omega] at this
  · have := oz_b5 (y - 200) (by omega)
    rwa [show 200 + (y - 200) = y by omega] at this
  · have := oz_b6 (y - 240) (by omega)
    rwa [show 240 + (y - 240) = y by omega] at this
  · have := oz_b7 (y - 280) (by omega)
    rwa [show 280 + (y - 280) = y by omega] at this
theorem oz_tnl : a_tn.length = 318 := by decide +kernel
theorem oz_all : ∀ y m, a_T[y]? = some m → decide (y = 316 ∨ y = 317) = false → a_tn[y]?.isSome = true → ∃ wc wi, a_cm a_nw a_tn y m wc wi = true := by
  intro y m hm hs htn
  have hs := of_decide_eq_false hs
  have hlt : y < 318 := by
    rcases Nat.lt_or_ge y 318 with h | h
    · exact h
    · rw [List.getElem?_eq_none (by rw [oz_tnl]; exact h)] at htn
      exact absurd htn (by decide)
  obtain ⟨m2, wc, wi, e1, e2⟩ := oz_b y (by omega)
  cases e1.symm.trans hm
  exact ⟨wc, wi, e2⟩
section SM
variable {l : Launch} {D : va_G} {aC : Nat → ClassId} {base : Nat} {b : Nat × Nat} {X : Nat × (Nat → Int32)}
theorem oz_Sm : ∀ d, a_Sm l D aC base b X d (a_ex X a_tx a_T d) := by
  refine a_all (fun y => decide (y = 316 ∨ y = 317)) oz_all ?_
  intro d ih y vs h h1 v hs hr hv z mL rt htn
  have hs := of_decide_eq_true hs
  rcases hs with rfl | rfl
  · unfold a_ex at hr
    rw [t_La_thing] at hr
    obtain ⟨e1, e2, e3, e4, e5⟩ := a_met9 ih (fun y vs h h1 w hq => a_ex_le _ _ _ _ _ _ hq) o_La_thing hv hr
    cases e1.symm.trans htn
    exact ⟨rfl, by decide +kernel, _, _, e3, e4, e5⟩
  · unfold a_ex at hr
    rw [t_La_ending] at hr
    obtain ⟨e1, e2, e3, e4, e5⟩ := a_met9 ih (fun y vs h h1 w hq => a_ex_le _ _ _ _ _ _ hq) o_La_ending hv hr
    cases e1.symm.trans htn
    exact ⟨rfl, by decide +kernel, _, _, e3, e4, e5⟩
theorem oz_pre {y : MethodName} {ws : List Cond} {rm : Room} {Pc Pc2 : Array Value → State → Prop} {Qc : Array Value → State → Outcome → State → Prop} {mc ms : Nat} {free : Addr → Prop} (h : Met l y ws rm Pc Qc mc ms free) (hp : ∀ a U, Pc2 a U → Pc a U) : Met l y ws rm Pc2 Qc mc ms free :=
  fun p e ha hc hk s m args below hf happ hP hK => h p e ha hc hk s m args below hf happ (hp _ _ hP) hK
theorem oz_X0 {h : A_H} {av : List Value} {a : Array Value} {U : State} (q : va_Pc av (a_Wd D aC base b X h) a U) : va_Pc av (a_Wd D aC base b i_X0 h) a U := by
  obtain ⟨q0, h1, h2, h3, h4⟩ := q
  exact ⟨q0, h1, h2, ⟨fun z => absurd z (show ¬ (4000 < 4000) by decide), h3.2⟩, h4⟩
theorem oz_cw_thing : Cond.codeWith m_La_thing.1 method_3_code 5 (some .int) [(0, 10, 13, 13)] ∈ a_G := a_lk_inv (i := 1481) (by decide +kernel)
theorem oz_cw_ending : Cond.codeWith m_La_ending.1 method_4_code 5 (some .int) [(0, 10, 13, 13)] ∈ a_G := a_lk_inv (i := 1565) (by decide +kernel)
theorem oz_cl13 : Cond.classLink "EndingMarketLaw" 13 a_NS ∈ a_G := a_lk_inv (i := 1482) (by decide +kernel)
theorem oz_tn_thing : a_tn[316]? = some (m_La_thing.1, 5, some .int) := by decide +kernel
theorem oz_tn_ending : a_tn[317]? = some (m_La_ending.1, 5, some .int) := by decide +kernel

theorem oz_T_thing (hl : l.stackTraces = false) {vs : List Value} {h h1 : A_H} {v : Option Value} (hr : lz_T X 39 156 vs h = some (h1, v)) : a_le h h1 ∧ Met l m_La_thing.1 (Cond.codeWith m_La_thing.1 method_3_code 5 (some .int) [(0, 10, 13, 13)] :: a_G) (a_rm 41 (a_nc h1 - a_nc h) (a_ns h1 - a_ns h)) (va_Pc (vs.map (a_cV base b)) (a_Wd D aC base b X h)) (a_Qc D aC base b h1 v) (a_nc h1 - a_nc h) (a_ns h1 - a_ns h) (fun q => base ≤ q) := by
  unfold lz_T at hr
  split at hr
  · rename_i x p0 p1 o v4 hvs
    obtain ⟨hk, hr⟩ := a_kc_inv hr
    split at hr
    · rename_i h9 hex
      cases hr
      unfold a_ex at hex
      rw [t_EM_thing] at hex
      obtain ⟨wc, wi, hcm⟩ := oz_all 156 m_EM_thing t_EM_thing (by decide) (by decide +kernel)
      obtain ⟨g1, g2, g3, g4⟩ := a_metX hl (oz_Sm (D := D) (aC := aC) (base := base) (b := b) (X := X) 39) (fun y vs h h1 w hq => a_ex_le _ _ _ _ _ _ hq) hcm rfl oz_tw_thing hex
      exact ⟨g1, a_met_thing (d := 39) hvs hk g1 oz_cw_thing oz_cl13 g2 g3 g4⟩
    · cases hr
  · cases hr
theorem oz_T_ending (hl : l.stackTraces = false) {vs : List Value} {h h1 : A_H} {v : Option Value} (hr : lz_T X 39 158 vs h = some (h1, v)) : a_le h h1 ∧ Met l m_La_ending.1 (Cond.codeWith m_La_ending.1 method_4_code 5 (some .int) [(0, 10, 13, 13)] :: a_G) (a_rm 41 (a_nc h1 - a_nc h) (a_ns h1 - a_ns h)) (va_Pc (vs.map (a_cV base b)) (a_Wd D aC base b X h)) (a_Qc D aC base b h1 v) (a_nc h1 - a_nc h) (a_ns h1 - a_ns h) (fun q => base ≤ q) := by
  unfold lz_T at hr
  split at hr
  · rename_i x p0 p1 o v4 hvs
    obtain ⟨hk, hr⟩ := a_kc_inv hr
    split at hr
    · rename_i h9 hex
      cases hr
      unfold a_ex at hex
      rw [t_EM_ending] at hex
      obtain ⟨wc, wi, hcm⟩ := oz_all 158 m_EM_ending t_EM_ending (by decide) (by decide +kernel)
      obtain ⟨g1, g2, g3, g4⟩ := a_metX hl (oz_Sm (D := D) (aC := aC) (base := base) (b := b) (X := X) 39) (fun y vs h h1 w hq => a_ex_le _ _ _ _ _ _ hq) hcm rfl oz_tw_ending hex
      exact ⟨g1, a_met_ending (d := 39) hvs hk g1 oz_cw_ending oz_cl13 g2 g3 g4⟩
    · cases hr
  · cases hr
/-- the law's machine is sound -/
theorem oz_M (hl : l.stackTraces = false) : a_Sm l D aC base b X 41 (lz_M X 39) := by
  intro y vs h h1 v hr hv z mL rt htn
  unfold lz_M at hr
  split at hr
  · obtain ⟨g1, ⟨bytes, g2, g3, g4⟩ | ⟨q1, q2, bytes, hh, g2, g3, g4⟩⟩ := oz_Sm (l := l) (D := D) (aC := aC) (base := base) (b := b) (X := i_X0) 41 y vs h h1 v hr hv z mL rt htn
    · exact ⟨g1, Or.inl ⟨bytes, g2, g3, oz_pre g4 fun a U q => oz_X0 q⟩⟩
    · exact ⟨g1, Or.inr ⟨q1, q2, bytes, hh, g2, g3, oz_pre g4 fun a U q => oz_X0 q⟩⟩
  · split at hr
    · rename_i r hex
      cases hr
      exact oz_Sm (l := l) (D := D) (aC := aC) (base := base) (b := b) (X := X) 41 y vs h h1 v hex hv z mL rt htn
    · split at hr
      · rename_i e
        subst e
        obtain ⟨g1, g2⟩ := oz_T_thing (D := D) (aC := aC) (base := base) (b := b) hl hr
        cases oz_tn_thing.symm.trans htn
        exact ⟨g1, Or.inr ⟨rfl, by decide +kernel, _, _, oz_cw_thing, by decide, g2⟩⟩
      · split at hr
        · rename_i e
          subst e
          obtain ⟨g1, g2⟩ := oz_T_ending (D := D) (aC := aC) (base := base) (b := b) hl hr
          cases oz_tn_ending.symm.trans htn
          exact ⟨g1, Or.inr ⟨rfl, by decide +kernel, _, _, oz_cw_ending, by decide, g2⟩⟩
        · cases hr
end SM
