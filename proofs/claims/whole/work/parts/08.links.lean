/-! ===== methods; what the pool entries link ===== -/
abbrev mX0_init : ev_MI := (yX0_init, cX0_init, 1, none)
abbrev mX1_init : ev_MI := (yX1_init, cX1_init, 1, none)
abbrev mX1_need : ev_MI := (yX1_need, cX1_need, 1, (some .int))
abbrev mX1_dropOf : ev_MI := (yX1_dropOf, cX1_dropOf, 3, (some .int))
abbrev mX2_init : ev_MI := (yX2_init, cX2_init, 1, none)
abbrev mX2_gather : ev_MI := (yX2_gather, cX2_gather, 9, none)
abbrev mX2_find : ev_MI := (yX2_find, cX2_find, 5, none)
abbrev mX2_tryFrom : ev_MI := (yX2_tryFrom, cX2_tryFrom, 8, none)
abbrev mX3_init : ev_MI := (yX3_init, cX3_init, 2, none)
abbrev mX3_empty : ev_MI := (yX3_empty, cX3_empty, 1, none)
abbrev mX3_stickAt : ev_MI := (yX3_stickAt, cX3_stickAt, 2, (some (.object "AlikeArrows$Stick")))
abbrev mX3_bowAt : ev_MI := (yX3_bowAt, cX3_bowAt, 2, (some (.object "AlikeArrows$Bow")))
abbrev mX3_archerAt : ev_MI := (yX3_archerAt, cX3_archerAt, 2, (some (.object "AlikeArrows$Archer")))
abbrev mX3_addStick : ev_MI := (yX3_addStick, cX3_addStick, 1, (some (.object "AlikeArrows$Stick")))
abbrev mX3_addBow : ev_MI := (yX3_addBow, cX3_addBow, 1, (some (.object "AlikeArrows$Bow")))
abbrev mX3_addArcher : ev_MI := (yX3_addArcher, cX3_addArcher, 1, (some (.object "AlikeArrows$Archer")))
abbrev mX4_init : ev_MI := (yX4_init, cX4_init, 2, none)
abbrev mX4_take : ev_MI := (yX4_take, cX4_take, 5, none)
abbrev mX4_give : ev_MI := (yX4_give, cX4_give, 4, none)
abbrev mX5_init : ev_MI := (yX5_init, cX5_init, 1, none)
abbrev mX5_rateAs : ev_MI := (yX5_rateAs, cX5_rateAs, 5, (some .int))
abbrev mX5_ofFlight : ev_MI := (yX5_ofFlight, cX5_ofFlight, 2, (some .int))
abbrev mX5_ofClean : ev_MI := (yX5_ofClean, cX5_ofClean, 2, (some .int))
abbrev mX5_ofStiff : ev_MI := (yX5_ofStiff, cX5_ofStiff, 3, (some .int))
abbrev mX5_ofWindy : ev_MI := (yX5_ofWindy, cX5_ofWindy, 3, (some .int))
abbrev mX5_ofSlapped : ev_MI := (yX5_ofSlapped, cX5_ofSlapped, 3, (some .int))
abbrev mX5_ofSoft : ev_MI := (yX5_ofSoft, cX5_ofSoft, 2, (some .int))
abbrev mX6_init : ev_MI := (yX6_init, cX6_init, 1, none)
abbrev mX6_tell : ev_MI := (yX6_tell, cX6_tell, 2, (some .int))
abbrev mX6_find : ev_MI := (yX6_find, cX6_find, 16, none)
abbrev mX6_isFewer : ev_MI := (yX6_isFewer, cX6_isFewer, 2, (some .boolean))
abbrev mX6_note : ev_MI := (yX6_note, cX6_note, 5, none)
abbrev mX7_init : ev_MI := (yX7_init, cX7_init, 1, none)
abbrev mX7_add : ev_MI := (yX7_add, cX7_add, 2, none)
abbrev mX7_empty : ev_MI := (yX7_empty, cX7_empty, 2, (some .int))
abbrev mX7_byteAt : ev_MI := (yX7_byteAt, cX7_byteAt, 2, (some .int))
abbrev mX7_readAll : ev_MI := (yX7_readAll, cX7_readAll, 3, (some .int))
abbrev mX7_readItem : ev_MI := (yX7_readItem, cX7_readItem, 2, (some .boolean))
abbrev mX7_readStick : ev_MI := (yX7_readStick, cX7_readStick, 3, (some .boolean))
abbrev mX7_readBow : ev_MI := (yX7_readBow, cX7_readBow, 3, (some .boolean))
abbrev mX7_readArcher : ev_MI := (yX7_readArcher, cX7_readArcher, 4, (some .boolean))
abbrev mX7_skipBlanks : ev_MI := (yX7_skipBlanks, cX7_skipBlanks, 1, none)
abbrev mX7_takeWord : ev_MI := (yX7_takeWord, cX7_takeWord, 4, (some .boolean))
abbrev mX7_takeNumbers : ev_MI := (yX7_takeNumbers, cX7_takeNumbers, 4, (some .boolean))
abbrev mX7_takeNumber : ev_MI := (yX7_takeNumber, cX7_takeNumber, 6, (some .int))
abbrev mX7_takeEnd : ev_MI := (yX7_takeEnd, cX7_takeEnd, 1, (some .boolean))
abbrev mX8_init : ev_MI := (yX8_init, cX8_init, 1, none)
abbrev mX8_add : ev_MI := (yX8_add, cX8_add, 6, none)
abbrev mX8_tell : ev_MI := (yX8_tell, cX8_tell, 3, (some .int))
abbrev mX8_empty : ev_MI := (yX8_empty, cX8_empty, 2, (some .int))
abbrev mX8_copy : ev_MI := (yX8_copy, cX8_copy, 3, none)
abbrev mX8_partedBy : ev_MI := (yX8_partedBy, cX8_partedBy, 7, (some .int))
abbrev mX8_weigh : ev_MI := (yX8_weigh, cX8_weigh, 3, none)
abbrev mX8_addUp : ev_MI := (yX8_addUp, cX8_addUp, 4, none)
abbrev mX8_addFraction : ev_MI := (yX8_addFraction, cX8_addFraction, 7, none)
abbrev mX8_commonDivisor : ev_MI := (yX8_commonDivisor, cX8_commonDivisor, 7, (some .long))
abbrev mX8_spreadOf : ev_MI := (yX8_spreadOf, cX8_spreadOf, 6, (some .int))
abbrev mX8_mayLeave : ev_MI := (yX8_mayLeave, cX8_mayLeave, 12, (some .int))
abbrev mX9_init : ev_MI := (yX9_init, cX9_init, 1, none)
abbrev mX9_copy : ev_MI := (yX9_copy, cX9_copy, 2, none)
abbrev mX9_spine : ev_MI := (yX9_spine, cX9_spine, 1, (some .int))
abbrev mX9_spineBy : ev_MI := (yX9_spineBy, cX9_spineBy, 2, (some .int))
abbrev mX9_stiffBy : ev_MI := (yX9_stiffBy, cX9_stiffBy, 2, (some .int))
abbrev mX9_mass : ev_MI := (yX9_mass, cX9_mass, 1, (some .int))
abbrev mX9_mostCuts : ev_MI := (yX9_mostCuts, cX9_mostCuts, 1, (some .int))
abbrev mX9_mostScrapes : ev_MI := (yX9_mostScrapes, cX9_mostScrapes, 1, (some .int))
abbrev mX9_mostLoads : ev_MI := (yX9_mostLoads, cX9_mostLoads, 1, (some .int))
abbrev mX10_init : ev_MI := (yX10_init, cX10_init, 1, none)
abbrev mX10_change : ev_MI := (yX10_change, cX10_change, 4, (some .int))
abbrev mX10_wind : ev_MI := (yX10_wind, cX10_wind, 1, (some .int))
abbrev mX10_isClean : ev_MI := (yX10_isClean, cX10_isClean, 2, (some .boolean))
abbrev mX10_flightOf : ev_MI := (yX10_flightOf, cX10_flightOf, 2, (some .int))
abbrev mX10_bareOf : ev_MI := (yX10_bareOf, cX10_bareOf, 3, (some .int))
abbrev mX10_feathered : ev_MI := (yX10_feathered, cX10_feathered, 3, (some .int))
abbrev mX10_goesOf : ev_MI := (yX10_goesOf, cX10_goesOf, 4, (some .int))
abbrev mX11_init : ev_MI := (yX11_init, cX11_init, 1, none)
abbrev mX11_type : ev_MI := (yX11_type, cX11_type, 5, (some .int))
abbrev mX11_clear : ev_MI := (yX11_clear, cX11_clear, 1, (some .int))
abbrev mX11_arrows : ev_MI := (yX11_arrows, cX11_arrows, 3, (some .int))
abbrev mX11_stick : ev_MI := (yX11_stick, cX11_stick, 4, (some .int))
abbrev mX11_bow : ev_MI := (yX11_bow, cX11_bow, 4, (some .int))
abbrev mX11_archer : ev_MI := (yX11_archer, cX11_archer, 4, (some .int))
abbrev mX11_tune : ev_MI := (yX11_tune, cX11_tune, 3, (some .int))
abbrev mX11_cut : ev_MI := (yX11_cut, cX11_cut, 3, (some .int))
abbrev mX11_scrape : ev_MI := (yX11_scrape, cX11_scrape, 3, (some .int))
abbrev mX11_load : ev_MI := (yX11_load, cX11_load, 3, (some .int))
abbrev mX11_turn : ev_MI := (yX11_turn, cX11_turn, 3, (some .int))
abbrev mX11_least : ev_MI := (yX11_least, cX11_least, 8, (some .int))
abbrev mX11_flight : ev_MI := (yX11_flight, cX11_flight, 7, (some .int))
abbrev mX11_band : ev_MI := (yX11_band, cX11_band, 8, (some .int))
abbrev mX11_says : ev_MI := (yX11_says, cX11_says, 6, (some .int))
abbrev mX11_alike : ev_MI := (yX11_alike, cX11_alike, 6, (some .int))
abbrev mX11_turned : ev_MI := (yX11_turned, cX11_turned, 5, (some .int))
abbrev mX11_wreck : ev_MI := (yX11_wreck, cX11_wreck, 7, (some .int))
abbrev mX11_feather : ev_MI := (yX11_feather, cX11_feather, 11, (some .int))
abbrev mX11_warm : ev_MI := (yX11_warm, cX11_warm, 11, (some .int))
abbrev mX11_shoot : ev_MI := (yX11_shoot, cX11_shoot, 10, (some .int))
abbrev mX11_shot : ev_MI := (yX11_shot, cX11_shot, 3, (some .int))
abbrev mX11_wipe : ev_MI := (yX11_wipe, cX11_wipe, 1, (some .int))
abbrev mX11_parted : ev_MI := (yX11_parted, cX11_parted, 1, (some .int))
abbrev mX11_spread : ev_MI := (yX11_spread, cX11_spread, 2, (some .int))
abbrev mX11_out : ev_MI := (yX11_out, cX11_out, 3, (some .int))
abbrev mX11_lot : ev_MI := (yX11_lot, cX11_lot, 3, (some .int))
abbrev mX11_rate : ev_MI := (yX11_rate, cX11_rate, 5, (some .int))
abbrev mX11_keep : ev_MI := (yX11_keep, cX11_keep, 3, (some .int))
abbrev mX11_back : ev_MI := (yX11_back, cX11_back, 3, (some .int))
abbrev mX11_count : ev_MI := (yX11_count, cX11_count, 2, (some .int))
abbrev mX11_trace : ev_MI := (yX11_trace, cX11_trace, 1, (some .long))
abbrev mX11_imageAt : ev_MI := (yX11_imageAt, cX11_imageAt, 2, (some (.object "AlikeArrows$Image")))
abbrev mX11_within : ev_MI := (yX11_within, cX11_within, 3, (some .boolean))
abbrev mX11_divided : ev_MI := (yX11_divided, cX11_divided, 2, (some .int))
abbrev mX11_leftOver : ev_MI := (yX11_leftOver, cX11_leftOver, 2, (some .int))
abbrev mX11_spineOf : ev_MI := (yX11_spineOf, cX11_spineOf, 3, (some .int))
abbrev mX11_needOf : ev_MI := (yX11_needOf, cX11_needOf, 2, (some .int))
abbrev mX12_init : ev_MI := (yX12_init, cX12_init, 1, none)
abbrev mX12_in : ev_MI := (yX12_in, cX12_in, 3, (some .boolean))
abbrev mX12_size : ev_MI := (yX12_size, cX12_size, 1, (some .int))
abbrev mX12_type : ev_MI := (yX12_type, cX12_type, 5, (some .int))
abbrev mX12_clear : ev_MI := (yX12_clear, cX12_clear, 2, (some .int))
abbrev mX12_byteAt : ev_MI := (yX12_byteAt, cX12_byteAt, 2, (some .int))
abbrev mX12_add : ev_MI := (yX12_add, cX12_add, 3, (some .long))
abbrev mX12_named : ev_MI := (yX12_named, cX12_named, 6, (some .long))
abbrev mX12_wordOf : ev_MI := (yX12_wordOf, cX12_wordOf, 3, (some .int))
abbrev mX12_advances : ev_MI := (yX12_advances, cX12_advances, 4, none)
abbrev mX12_isWell : ev_MI := (yX12_isWell, cX12_isWell, 1, (some .boolean))
abbrev mX12_takes : ev_MI := (yX12_takes, cX12_takes, 3, (some .int))
abbrev mX12_number : ev_MI := (yX12_number, cX12_number, 3, (some .int))
abbrev mX12_readsItem : ev_MI := (yX12_readsItem, cX12_readsItem, 4, none)
abbrev mX12_arrows : ev_MI := (yX12_arrows, cX12_arrows, 3, (some .int))
abbrev mX12_isStick : ev_MI := (yX12_isStick, cX12_isStick, 2, (some .boolean))
abbrev mX12_isBow : ev_MI := (yX12_isBow, cX12_isBow, 2, (some .boolean))
abbrev mX12_stick : ev_MI := (yX12_stick, cX12_stick, 3, (some .int))
abbrev mX12_bow : ev_MI := (yX12_bow, cX12_bow, 3, (some .int))
abbrev mX12_archer : ev_MI := (yX12_archer, cX12_archer, 3, (some .int))
abbrev mX12_tune : ev_MI := (yX12_tune, cX12_tune, 5, (some .int))
abbrev mX12_cut : ev_MI := (yX12_cut, cX12_cut, 2, (some .int))
abbrev mX12_mayScrape : ev_MI := (yX12_mayScrape, cX12_mayScrape, 4, (some .boolean))
abbrev mX12_scrape : ev_MI := (yX12_scrape, cX12_scrape, 3, (some .int))
abbrev mX12_load : ev_MI := (yX12_load, cX12_load, 2, (some .int))
abbrev mX12_turn : ev_MI := (yX12_turn, cX12_turn, 2, (some .int))
abbrev mX12_tries : ev_MI := (yX12_tries, cX12_tries, 7, (some .boolean))
abbrev mX12_isAct : ev_MI := (yX12_isAct, cX12_isAct, 1, (some .boolean))
abbrev mX12_least : ev_MI := (yX12_least, cX12_least, 12, (some .int))
abbrev mX12_lays : ev_MI := (yX12_lays, cX12_lays, 3, none)
abbrev mX12_kindOf : ev_MI := (yX12_kindOf, cX12_kindOf, 2, (some .int))
abbrev mX12_bareOf : ev_MI := (yX12_bareOf, cX12_bareOf, 4, (some .int))
abbrev mX12_flies : ev_MI := (yX12_flies, cX12_flies, 3, none)
abbrev mX12_fliesWith : ev_MI := (yX12_fliesWith, cX12_fliesWith, 3, none)
abbrev mX12_flight : ev_MI := (yX12_flight, cX12_flight, 4, (some .int))
abbrev mX12_band : ev_MI := (yX12_band, cX12_band, 9, (some .int))
abbrev mX12_says : ev_MI := (yX12_says, cX12_says, 8, (some .int))
abbrev mX12_areSame : ev_MI := (yX12_areSame, cX12_areSame, 2, (some .boolean))
abbrev mX12_fliesAll : ev_MI := (yX12_fliesAll, cX12_fliesAll, 4, none)
abbrev mX12_areAlike : ev_MI := (yX12_areAlike, cX12_areAlike, 7, (some .boolean))
abbrev mX12_manyOf : ev_MI := (yX12_manyOf, cX12_manyOf, 4, (some .int))
abbrev mX12_alike : ev_MI := (yX12_alike, cX12_alike, 7, (some .int))
abbrev mX12_turned : ev_MI := (yX12_turned, cX12_turned, 10, (some .int))
abbrev mX12_wreck : ev_MI := (yX12_wreck, cX12_wreck, 7, (some .int))
abbrev mX12_feather : ev_MI := (yX12_feather, cX12_feather, 8, (some .int))
abbrev mX12_warm : ev_MI := (yX12_warm, cX12_warm, 8, (some .int))
abbrev mX12_shoot : ev_MI := (yX12_shoot, cX12_shoot, 7, (some .int))
abbrev mX12_shot : ev_MI := (yX12_shot, cX12_shot, 3, (some .int))
abbrev mX12_wipe : ev_MI := (yX12_wipe, cX12_wipe, 2, (some .int))
abbrev mX12_gcd : ev_MI := (yX12_gcd, cX12_gcd, 10, (some .long))
abbrev mX12_adds : ev_MI := (yX12_adds, cX12_adds, 7, none)
abbrev mX12_parts : ev_MI := (yX12_parts, cX12_parts, 9, none)
abbrev mX12_parted : ev_MI := (yX12_parted, cX12_parted, 11, (some .int))
abbrev mX12_spread : ev_MI := (yX12_spread, cX12_spread, 7, (some .int))
abbrev mX12_out : ev_MI := (yX12_out, cX12_out, 9, (some .int))
abbrev mX12_lot : ev_MI := (yX12_lot, cX12_lot, 3, (some .int))
abbrev mX12_rate : ev_MI := (yX12_rate, cX12_rate, 5, (some .int))
abbrev mX12_keep : ev_MI := (yX12_keep, cX12_keep, 3, (some .int))
abbrev mX12_back : ev_MI := (yX12_back, cX12_back, 3, (some .int))
abbrev mX12_count : ev_MI := (yX12_count, cX12_count, 2, (some .int))
abbrev mX12_trace : ev_MI := (yX12_trace, cX12_trace, 1, (some .long))
abbrev mJ6_bitCount_0f7a4 : ev_MI := (yJ6_bitCount_0f7a4, cJ6_bitCount_0f7a4, 1, (some .int))
abbrev mJ9_abs_0f7a4 : ev_MI := (yJ9_abs_0f7a4, cJ9_abs_0f7a4, 1, (some .int))
abbrev mJ9_abs_067f4 : ev_MI := (yJ9_abs_067f4, cJ9_abs_067f4, 2, (some .long))
abbrev mJ9_max_7cf53 : ev_MI := (yJ9_max_7cf53, cJ9_max_7cf53, 2, (some .int))
abbrev mJ9_min_7cf53 : ev_MI := (yJ9_min_7cf53, cJ9_min_7cf53, 2, (some .int))
abbrev mJ0_length_8abf5 : ev_MI := (yJ0_length_8abf5, cJ0_length_8abf5, 1, (some .int))
abbrev mJ0_charAt_5068e : ev_MI := (yJ0_charAt_5068e, cJ0_charAt_5068e, 2, (some .char))
abbrev mJ0_coder_7d493 : ev_MI := (yJ0_coder_7d493, cJ0_coder_7d493, 1, (some .byte))
abbrev mJ0_isLatin1_aae02 : ev_MI := (yJ0_isLatin1_aae02, cJ0_isLatin1_aae02, 1, (some .boolean))
abbrev mJ0_checkIndex_df160 : ev_MI := (yJ0_checkIndex_df160, cJ0_checkIndex_df160, 2, none)
abbrev mJ1_charAt_3b067 : ev_MI := (yJ1_charAt_3b067, cJ1_charAt_3b067, 2, (some .char))
abbrev mJ2_getChar_3b067 : ev_MI := (yJ2_getChar_3b067, cJ2_getChar_3b067, 2, (some .char))
abbrev mJ2_length_9d52b : ev_MI := (yJ2_length_9d52b, cJ2_length_9d52b, 1, (some .int))
abbrev mJ2_charAt_3b067 : ev_MI := (yJ2_charAt_3b067, cJ2_charAt_3b067, 2, (some .char))
abbrev mJ2_checkIndex_2214a : ev_MI := (yJ2_checkIndex_2214a, cJ2_checkIndex_2214a, 2, none)
abbrev mJ3_checkIndex_8e157 : ev_MI := (yJ3_checkIndex_8e157, cJ3_checkIndex_8e157, 3, (some .int))
abbrev mL_law : ev_MI := (yL_law, cL_law, 4, some .boolean)
theorem in_X0 : ∀ w ∈ u_ws RX0 TX0 2, w ∈ ev_TB := by
  have h1 : ∀ w ∈ u_ws RX0 TX0 2, w ∈ lw_tbl := by decide +kernel
  have h2 : ∀ w ∈ u_ws RX0 TX0 2, goodWord w = true := by decide +kernel
  exact fun w hw => ev_in (h1 w hw) (h2 w hw)
theorem in_X1 : ∀ w ∈ u_ws RX1 TX1 2, w ∈ ev_TB := by
  have h1 : ∀ w ∈ u_ws RX1 TX1 2, w ∈ lw_tbl := by decide +kernel
  have h2 : ∀ w ∈ u_ws RX1 TX1 2, goodWord w = true := by decide +kernel
  exact fun w hw => ev_in (h1 w hw) (h2 w hw)
theorem in_X2 : ∀ w ∈ u_ws RX2 TX2 6, w ∈ ev_TB := by
  have h1 : ∀ w ∈ u_ws RX2 TX2 6, w ∈ lw_tbl := by decide +kernel
  have h2 : ∀ w ∈ u_ws RX2 TX2 6, goodWord w = true := by decide +kernel
  exact fun w hw => ev_in (h1 w hw) (h2 w hw)
theorem in_X3 : ∀ w ∈ u_ws RX3 TX3 6, w ∈ ev_TB := by
  have h1 : ∀ w ∈ u_ws RX3 TX3 6, w ∈ lw_tbl := by decide +kernel
  have h2 : ∀ w ∈ u_ws RX3 TX3 6, goodWord w = true := by decide +kernel
  exact fun w hw => ev_in (h1 w hw) (h2 w hw)
theorem in_X4 : ∀ w ∈ u_ws RX4 TX4 4, w ∈ ev_TB := by
  have h1 : ∀ w ∈ u_ws RX4 TX4 4, w ∈ lw_tbl := by decide +kernel
  have h2 : ∀ w ∈ u_ws RX4 TX4 4, goodWord w = true := by decide +kernel
  exact fun w hw => ev_in (h1 w hw) (h2 w hw)
theorem in_X5 : ∀ w ∈ u_ws RX5 TX5 1, w ∈ ev_TB := by
  have h1 : ∀ w ∈ u_ws RX5 TX5 1, w ∈ lw_tbl := by decide +kernel
  have h2 : ∀ w ∈ u_ws RX5 TX5 1, goodWord w = true := by decide +kernel
  exact fun w hw => ev_in (h1 w hw) (h2 w hw)
theorem in_X6 : ∀ w ∈ u_ws RX6 TX6 5, w ∈ ev_TB := by
  have h1 : ∀ w ∈ u_ws RX6 TX6 5, w ∈ lw_tbl := by decide +kernel
  have h2 : ∀ w ∈ u_ws RX6 TX6 5, goodWord w = true := by decide +kernel
  exact fun w hw => ev_in (h1 w hw) (h2 w hw)
theorem in_X7 : ∀ w ∈ u_ws RX7 TX7 4, w ∈ ev_TB := by
  have h1 : ∀ w ∈ u_ws RX7 TX7 4, w ∈ lw_tbl := by decide +kernel
  have h2 : ∀ w ∈ u_ws RX7 TX7 4, goodWord w = true := by decide +kernel
  exact fun w hw => ev_in (h1 w hw) (h2 w hw)
theorem in_X8 : ∀ w ∈ u_ws RX8 TX8 10, w ∈ ev_TB := by
  have h1 : ∀ w ∈ u_ws RX8 TX8 10, w ∈ lw_tbl := by decide +kernel
  have h2 : ∀ w ∈ u_ws RX8 TX8 10, goodWord w = true := by decide +kernel
  exact fun w hw => ev_in (h1 w hw) (h2 w hw)
theorem in_X9 : ∀ w ∈ u_ws RX9 TX9 7, w ∈ ev_TB := by
  have h1 : ∀ w ∈ u_ws RX9 TX9 7, w ∈ lw_tbl := by decide +kernel
  have h2 : ∀ w ∈ u_ws RX9 TX9 7, goodWord w = true := by decide +kernel
  exact fun w hw => ev_in (h1 w hw) (h2 w hw)
theorem in_X10 : ∀ w ∈ u_ws RX10 TX10 1, w ∈ ev_TB := by
  have h1 : ∀ w ∈ u_ws RX10 TX10 1, w ∈ lw_tbl := by decide +kernel
  have h2 : ∀ w ∈ u_ws RX10 TX10 1, goodWord w = true := by decide +kernel
  exact fun w hw => ev_in (h1 w hw) (h2 w hw)
theorem in_X11 : ∀ w ∈ u_ws RX11 TX11 11, w ∈ ev_TB := by
  have h1 : ∀ w ∈ u_ws RX11 TX11 11, w ∈ lw_tbl := by decide +kernel
  have h2 : ∀ w ∈ u_ws RX11 TX11 11, goodWord w = true := by decide +kernel
  exact fun w hw => ev_in (h1 w hw) (h2 w hw)
theorem in_X12 : ∀ w ∈ u_ws RX12 TX12 36, w ∈ ev_TB := by
  have h1 : ∀ w ∈ u_ws RX12 TX12 36, w ∈ lw_tbl := by decide +kernel
  have h2 : ∀ w ∈ u_ws RX12 TX12 36, goodWord w = true := by decide +kernel
  exact fun w hw => ev_in (h1 w hw) (h2 w hw)
theorem arI : Cond.arrayClass .int ∈ ev_TB := ev_in (List.mem_of_getElem? (i := 91) (by decide +kernel)) rfl
theorem arZ : Cond.arrayClass .boolean ∈ ev_TB := ev_in (List.mem_of_getElem? (i := 1028) (by decide +kernel)) rfl
theorem imOb : Cond.instanceMethod objectInit ∈ ev_TB := ev_in (List.mem_of_getElem? (i := 69) (by decide +kernel)) rfl
theorem cdOb : Cond.code objectInit ⟨#[0xb1]⟩ 1 none ∈ ev_TB := ev_in (List.mem_of_getElem? (i := 70) (by decide +kernel)) rfl
theorem iniMath : Cond.initialized "java/lang/Math" ∈ ev_TB := ev_in (List.mem_of_getElem? (i := 61) (by decide +kernel)) rfl
theorem obX0_1 : Cond.methodLink RX0 1 objectInit ∈ ev_TB ∧ Cond.instanceMethod objectInit ∈ ev_TB ∧ Cond.code objectInit ⟨#[0xb1]⟩ 1 none ∈ ev_TB := ⟨ev_in (List.mem_of_getElem? (i := 306) (by decide +kernel)) rfl, imOb, cdOb⟩
theorem obX1_1 : Cond.methodLink RX1 1 objectInit ∈ ev_TB ∧ Cond.instanceMethod objectInit ∈ ev_TB ∧ Cond.code objectInit ⟨#[0xb1]⟩ 1 none ∈ ev_TB := ⟨ev_in (List.mem_of_getElem? (i := 290) (by decide +kernel)) rfl, imOb, cdOb⟩
theorem flX1_7 : ev_FL RX1 7 1 0 := ⟨(RX1, TX1, 2), rfl, by decide, ev_in (List.mem_of_getElem? (i := 291) (by decide +kernel)) rfl, in_X1, rfl⟩
theorem flX1_13 : ev_FL RX1 13 1 1 := ⟨(RX1, TX1, 2), rfl, by decide, ev_in (List.mem_of_getElem? (i := 294) (by decide +kernel)) rfl, in_X1, rfl⟩
theorem cdX11_needOf : ev_code mX11_needOf ∈ ev_TB := ev_in (List.mem_of_getElem? (i := 559) (by decide +kernel)) rfl
theorem ini_X11 : Cond.initialized RX11 ∈ ev_TB := ev_in (List.mem_of_getElem? (i := 44) (by decide +kernel)) rfl
theorem smX11_needOf : Cond.static yX11_needOf ∈ ev_TB := ev_in (List.mem_of_getElem? (i := 558) (by decide +kernel)) rfl
theorem kX1_need_8 : ev_K mX1_need 8 mX11_needOf none 2 := ev_kSN (host := "AlikeArrows") dX1_need_8 (List.mem_filter.mpr ⟨List.mem_of_getElem? (i := 557) (by decide +kernel), rfl⟩) ⟨smX11_needOf, ini_X11, cdX11_needOf⟩ ⟨by decide +kernel, by decide +kernel, by decide +kernel⟩
theorem cdX9_mass : ev_code mX9_mass ∈ ev_TB := ev_in (List.mem_of_getElem? (i := 641) (by decide +kernel)) rfl
theorem ini_X9 : Cond.initialized RX9 ∈ ev_TB := ev_in (List.mem_of_getElem? (i := 52) (by decide +kernel)) rfl
theorem imX9_mass : Cond.instanceMethod yX9_mass ∈ ev_TB := ev_in (List.mem_of_getElem? (i := 639) (by decide +kernel)) rfl
theorem seX9_mass : Cond.selects RX9 yX9_mass yX9_mass ∈ ev_TB := ev_in (List.mem_of_getElem? (i := 640) (by decide +kernel)) rfl
theorem kX1_dropOf_3 : ev_K mX1_dropOf 3 mX9_mass (some RX9) 1 := ev_kV dX1_dropOf_3 ⟨ev_in (List.mem_of_getElem? (i := 700) (by decide +kernel)) rfl, imX9_mass, seX9_mass, ini_X9, cdX9_mass⟩ ⟨rfl, by decide +kernel, by decide +kernel, by decide +kernel⟩
theorem cdX11_divided : ev_code mX11_divided ∈ ev_TB := ev_in (List.mem_of_getElem? (i := 637) (by decide +kernel)) rfl
theorem smX11_divided : Cond.static yX11_divided ∈ ev_TB := ev_in (List.mem_of_getElem? (i := 636) (by decide +kernel)) rfl
theorem kX1_dropOf_11 : ev_K mX1_dropOf 11 mX11_divided none 2 := ev_kSN (host := "AlikeArrows") dX1_dropOf_11 (List.mem_filter.mpr ⟨List.mem_of_getElem? (i := 701) (by decide +kernel), rfl⟩) ⟨smX11_divided, ini_X11, cdX11_divided⟩ ⟨by decide +kernel, by decide +kernel, by decide +kernel⟩
theorem obX2_3 : Cond.methodLink RX2 3 objectInit ∈ ev_TB ∧ Cond.instanceMethod objectInit ∈ ev_TB ∧ Cond.code objectInit ⟨#[0xb1]⟩ 1 none ∈ ev_TB := ⟨ev_in (List.mem_of_getElem? (i := 145) (by decide +kernel)) rfl, imOb, cdOb⟩
theorem fpX2_9 : ev_FP RX2 9 2 0 (.array .int) true := ⟨(RX2, TX2, 6), tyX2, rfl, by decide, ev_in (List.mem_of_getElem? (i := 146) (by decide +kernel)) rfl, in_X2, rfl, tyX2_ok, nmX2, by decide +kernel, rfl, fun h => by first | rfl | cases h⟩
theorem fpX2_15 : ev_FP RX2 15 2 1 (.array .int) true := ⟨(RX2, TX2, 6), tyX2, rfl, by decide, ev_in (List.mem_of_getElem? (i := 147) (by decide +kernel)) rfl, in_X2, rfl, tyX2_ok, nmX2, by decide +kernel, rfl, fun h => by first | rfl | cases h⟩
theorem fpX2_18 : ev_FP RX2 18 2 2 (.array .int) true := ⟨(RX2, TX2, 6), tyX2, rfl, by decide, ev_in (List.mem_of_getElem? (i := 148) (by decide +kernel)) rfl, in_X2, rfl, tyX2_ok, nmX2, by decide +kernel, rfl, fun h => by first | rfl | cases h⟩
theorem fpX2_21 : ev_FP RX2 21 2 3 .int false := ⟨(RX2, TX2, 6), tyX2, rfl, by decide, ev_in (List.mem_of_getElem? (i := 149) (by decide +kernel)) rfl, in_X2, rfl, tyX2_ok, nmX2, by decide +kernel, rfl, fun h => by first | rfl | cases h⟩
theorem flX2_25 : ev_FL RX2 25 3 3 := ⟨(RX3, TX3, 6), rfl, by decide, ev_in (List.mem_of_getElem? (i := 324) (by decide +kernel)) rfl, in_X3, rfl⟩
theorem flX2_18 : ev_FL RX2 18 2 2 := ⟨(RX2, TX2, 6), rfl, by decide, ev_in (List.mem_of_getElem? (i := 148) (by decide +kernel)) rfl, in_X2, rfl⟩
theorem flX2_30 : ev_FL RX2 30 3 0 := ⟨(RX3, TX3, 6), rfl, by decide, ev_in (List.mem_of_getElem? (i := 317) (by decide +kernel)) rfl, in_X3, rfl⟩
theorem flX2_34 : ev_FL RX2 34 9 6 := ⟨(RX9, TX9, 7), rfl, by decide, ev_in (List.mem_of_getElem? (i := 239) (by decide +kernel)) rfl, in_X9, rfl⟩
theorem flX2_9 : ev_FL RX2 9 2 0 := ⟨(RX2, TX2, 6), rfl, by decide, ev_in (List.mem_of_getElem? (i := 146) (by decide +kernel)) rfl, in_X2, rfl⟩
theorem cdX9_spineBy : ev_code mX9_spineBy ∈ ev_TB := ev_in (List.mem_of_getElem? (i := 669) (by decide +kernel)) rfl
theorem imX9_spineBy : Cond.instanceMethod yX9_spineBy ∈ ev_TB := ev_in (List.mem_of_getElem? (i := 667) (by decide +kernel)) rfl
theorem seX9_spineBy : Cond.selects RX9 yX9_spineBy yX9_spineBy ∈ ev_TB := ev_in (List.mem_of_getElem? (i := 668) (by decide +kernel)) rfl
theorem kX2_gather_81 : ev_K mX2_gather 81 mX9_spineBy (some RX9) 2 := ev_kV dX2_gather_81 ⟨ev_in (List.mem_of_getElem? (i := 722) (by decide +kernel)) rfl, imX9_spineBy, seX9_spineBy, ini_X9, cdX9_spineBy⟩ ⟨rfl, by decide +kernel, by decide +kernel, by decide +kernel⟩
theorem cdX1_need : ev_code mX1_need ∈ ev_TB := ev_in (List.mem_of_getElem? (i := 556) (by decide +kernel)) rfl
theorem ini_X1 : Cond.initialized RX1 ∈ ev_TB := ev_in (List.mem_of_getElem? (i := 54) (by decide +kernel)) rfl
theorem imX1_need : Cond.instanceMethod yX1_need ∈ ev_TB := ev_in (List.mem_of_getElem? (i := 554) (by decide +kernel)) rfl
theorem seX1_need : Cond.selects RX1 yX1_need yX1_need ∈ ev_TB := ev_in (List.mem_of_getElem? (i := 555) (by decide +kernel)) rfl
theorem kX2_gather_85 : ev_K mX2_gather 85 mX1_need (some RX1) 1 := ev_kV dX2_gather_85 ⟨ev_in (List.mem_of_getElem? (i := 723) (by decide +kernel)) rfl, imX1_need, seX1_need, ini_X1, cdX1_need⟩ ⟨rfl, by decide +kernel, by decide +kernel, by decide +kernel⟩
theorem flX2_49 : ev_FL RX2 49 9 5 := ⟨(RX9, TX9, 7), rfl, by decide, ev_in (List.mem_of_getElem? (i := 235) (by decide +kernel)) rfl, in_X9, rfl⟩
theorem cdX10_goesOf : ev_code mX10_goesOf ∈ ev_TB := ev_in (List.mem_of_getElem? (i := 684) (by decide +kernel)) rfl
theorem ini_X10 : Cond.initialized RX10 ∈ ev_TB := ev_in (List.mem_of_getElem? (i := 46) (by decide +kernel)) rfl
theorem imX10_goesOf : Cond.instanceMethod yX10_goesOf ∈ ev_TB := ev_in (List.mem_of_getElem? (i := 682) (by decide +kernel)) rfl
theorem seX10_goesOf : Cond.selects RX10 yX10_goesOf yX10_goesOf ∈ ev_TB := ev_in (List.mem_of_getElem? (i := 683) (by decide +kernel)) rfl
theorem kX2_gather_94 : ev_K mX2_gather 94 mX10_goesOf (some RX10) 4 := ev_kV dX2_gather_94 ⟨ev_in (List.mem_of_getElem? (i := 724) (by decide +kernel)) rfl, imX10_goesOf, seX10_goesOf, ini_X10, cdX10_goesOf⟩ ⟨rfl, by decide +kernel, by decide +kernel, by decide +kernel⟩
theorem flX2_15 : ev_FL RX2 15 2 1 := ⟨(RX2, TX2, 6), rfl, by decide, ev_in (List.mem_of_getElem? (i := 147) (by decide +kernel)) rfl, in_X2, rfl⟩
theorem kX2_gather_111 : ev_K mX2_gather 111 mX9_spineBy (some RX9) 2 := ev_kV dX2_gather_111 ⟨ev_in (List.mem_of_getElem? (i := 722) (by decide +kernel)) rfl, imX9_spineBy, seX9_spineBy, ini_X9, cdX9_spineBy⟩ ⟨rfl, by decide +kernel, by decide +kernel, by decide +kernel⟩
theorem kX2_gather_115 : ev_K mX2_gather 115 mX1_need (some RX1) 1 := ev_kV dX2_gather_115 ⟨ev_in (List.mem_of_getElem? (i := 723) (by decide +kernel)) rfl, imX1_need, seX1_need, ini_X1, cdX1_need⟩ ⟨rfl, by decide +kernel, by decide +kernel, by decide +kernel⟩
theorem kX2_gather_124 : ev_K mX2_gather 124 mX10_goesOf (some RX10) 4 := ev_kV dX2_gather_124 ⟨ev_in (List.mem_of_getElem? (i := 724) (by decide +kernel)) rfl, imX10_goesOf, seX10_goesOf, ini_X10, cdX10_goesOf⟩ ⟨rfl, by decide +kernel, by decide +kernel, by decide +kernel⟩
theorem cdX1_dropOf : ev_code mX1_dropOf ∈ ev_TB := ev_in (List.mem_of_getElem? (i := 699) (by decide +kernel)) rfl
theorem imX1_dropOf : Cond.instanceMethod yX1_dropOf ∈ ev_TB := ev_in (List.mem_of_getElem? (i := 697) (by decide +kernel)) rfl
theorem seX1_dropOf : Cond.selects RX1 yX1_dropOf yX1_dropOf ∈ ev_TB := ev_in (List.mem_of_getElem? (i := 698) (by decide +kernel)) rfl
theorem kX2_gather_142 : ev_K mX2_gather 142 mX1_dropOf (some RX1) 3 := ev_kV dX2_gather_142 ⟨ev_in (List.mem_of_getElem? (i := 725) (by decide +kernel)) rfl, imX1_dropOf, seX1_dropOf, ini_X1, cdX1_dropOf⟩ ⟨rfl, by decide +kernel, by decide +kernel, by decide +kernel⟩
theorem flX2_21 : ev_FL RX2 21 2 3 := ⟨(RX2, TX2, 6), rfl, by decide, ev_in (List.mem_of_getElem? (i := 149) (by decide +kernel)) rfl, in_X2, rfl⟩
theorem fpX2_62 : ev_FP RX2 62 2 4 .int false := ⟨(RX2, TX2, 6), tyX2, rfl, by decide, ev_in (List.mem_of_getElem? (i := 150) (by decide +kernel)) rfl, in_X2, rfl, tyX2_ok, nmX2, by decide +kernel, rfl, fun h => by first | rfl | cases h⟩
theorem fpX2_65 : ev_FP RX2 65 2 5 .int false := ⟨(RX2, TX2, 6), tyX2, rfl, by decide, ev_in (List.mem_of_getElem? (i := 152) (by decide +kernel)) rfl, in_X2, rfl, tyX2_ok, nmX2, by decide +kernel, rfl, fun h => by first | rfl | cases h⟩
theorem cdX2_tryFrom : ev_code mX2_tryFrom ∈ ev_TB := ev_in (List.mem_of_getElem? (i := 733) (by decide +kernel)) rfl
theorem ini_X2 : Cond.initialized RX2 ∈ ev_TB := ev_in (List.mem_of_getElem? (i := 48) (by decide +kernel)) rfl
theorem imX2_tryFrom : Cond.instanceMethod yX2_tryFrom ∈ ev_TB := ev_in (List.mem_of_getElem? (i := 732) (by decide +kernel)) rfl
theorem seX2_tryFrom : Cond.selects RX2 yX2_tryFrom yX2_tryFrom ∈ ev_TB := ev_in (List.mem_of_getElem? (i := 12) (by decide +kernel)) rfl
theorem kX2_find_48 : ev_K mX2_find 48 mX2_tryFrom (some RX2) 5 := ev_kV dX2_find_48 ⟨ev_in (List.mem_of_getElem? (i := 730) (by decide +kernel)) rfl, imX2_tryFrom, seX2_tryFrom, ini_X2, cdX2_tryFrom⟩ ⟨rfl, by decide +kernel, by decide +kernel, by decide +kernel⟩
theorem kX2_find_67 : ev_K mX2_find 67 mX2_tryFrom (some RX2) 5 := ev_kV dX2_find_67 ⟨ev_in (List.mem_of_getElem? (i := 730) (by decide +kernel)) rfl, imX2_tryFrom, seX2_tryFrom, ini_X2, cdX2_tryFrom⟩ ⟨rfl, by decide +kernel, by decide +kernel, by decide +kernel⟩
theorem cdX11_within : ev_code mX11_within ∈ ev_TB := ev_in (List.mem_of_getElem? (i := 386) (by decide +kernel)) rfl
theorem smX11_within : Cond.static yX11_within ∈ ev_TB := ev_in (List.mem_of_getElem? (i := 385) (by decide +kernel)) rfl
theorem kX2_tryFrom_26 : ev_K mX2_tryFrom 26 mX11_within none 3 := ev_kSN (host := "AlikeArrows") dX2_tryFrom_26 (List.mem_filter.mpr ⟨List.mem_of_getElem? (i := 734) (by decide +kernel), rfl⟩) ⟨smX11_within, ini_X11, cdX11_within⟩ ⟨by decide +kernel, by decide +kernel, by decide +kernel⟩
theorem kX2_tryFrom_43 : ev_K mX2_tryFrom 43 mX11_within none 3 := ev_kSN (host := "AlikeArrows") dX2_tryFrom_43 (List.mem_filter.mpr ⟨List.mem_of_getElem? (i := 734) (by decide +kernel), rfl⟩) ⟨smX11_within, ini_X11, cdX11_within⟩ ⟨by decide +kernel, by decide +kernel, by decide +kernel⟩
theorem kX2_tryFrom_73 : ev_K mX2_tryFrom 73 mX11_within none 3 := ev_kSN (host := "AlikeArrows") dX2_tryFrom_73 (List.mem_filter.mpr ⟨List.mem_of_getElem? (i := 734) (by decide +kernel), rfl⟩) ⟨smX11_within, ini_X11, cdX11_within⟩ ⟨by decide +kernel, by decide +kernel, by decide +kernel⟩
theorem cdJ6_bitCount_0f7a4 : ev_code mJ6_bitCount_0f7a4 ∈ ev_TB := ev_in (List.mem_of_getElem? (i := 737) (by decide +kernel)) rfl
theorem ini_J6 : Cond.initialized RJ6 ∈ ev_TB := ev_in (List.mem_of_getElem? (i := 62) (by decide +kernel)) rfl
theorem smJ6_bitCount_0f7a4 : Cond.static yJ6_bitCount_0f7a4 ∈ ev_TB := ev_in (List.mem_of_getElem? (i := 736) (by decide +kernel)) rfl
theorem kX2_tryFrom_96 : ev_K mX2_tryFrom 96 mJ6_bitCount_0f7a4 none 1 := ev_kS dX2_tryFrom_96 ⟨ev_in (List.mem_of_getElem? (i := 735) (by decide +kernel)) rfl, smJ6_bitCount_0f7a4, ini_J6, cdJ6_bitCount_0f7a4⟩ ⟨by decide +kernel, by decide +kernel, by decide +kernel⟩
theorem flX2_65 : ev_FL RX2 65 2 5 := ⟨(RX2, TX2, 6), rfl, by decide, ev_in (List.mem_of_getElem? (i := 152) (by decide +kernel)) rfl, in_X2, rfl⟩
theorem flX2_62 : ev_FL RX2 62 2 4 := ⟨(RX2, TX2, 6), rfl, by decide, ev_in (List.mem_of_getElem? (i := 150) (by decide +kernel)) rfl, in_X2, rfl⟩
theorem obX3_3 : Cond.methodLink RX3 3 objectInit ∈ ev_TB ∧ Cond.instanceMethod objectInit ∈ ev_TB ∧ Cond.code objectInit ⟨#[0xb1]⟩ 1 none ∈ ev_TB := ⟨ev_in (List.mem_of_getElem? (i := 279) (by decide +kernel)) rfl, imOb, cdOb⟩
theorem clX3_9 : Cond.classLink RX3 9 RX9 ∈ ev_TB := ev_in (List.mem_of_getElem? (i := 280) (by decide +kernel)) rfl
theorem fpX3_11 : ev_FP RX3 11 3 0 (.array (.object RX9)) true := ⟨(RX3, TX3, 6), tyX3, rfl, by decide, ev_in (List.mem_of_getElem? (i := 316) (by decide +kernel)) rfl, in_X3, rfl, tyX3_ok, nmX3, by decide +kernel, rfl, fun h => by first | rfl | cases h⟩
theorem clX3_17 : Cond.classLink RX3 17 RX1 ∈ ev_TB := ev_in (List.mem_of_getElem? (i := 281) (by decide +kernel)) rfl
theorem fpX3_19 : ev_FP RX3 19 3 1 (.array (.object RX1)) true := ⟨(RX3, TX3, 6), tyX3, rfl, by decide, ev_in (List.mem_of_getElem? (i := 320) (by decide +kernel)) rfl, in_X3, rfl, tyX3_ok, nmX3, by decide +kernel, rfl, fun h => by first | rfl | cases h⟩
theorem clX3_23 : Cond.classLink RX3 23 RX0 ∈ ev_TB := ev_in (List.mem_of_getElem? (i := 283) (by decide +kernel)) rfl
theorem fpX3_25 : ev_FP RX3 25 3 2 (.array (.object RX0)) true := ⟨(RX3, TX3, 6), tyX3, rfl, by decide, ev_in (List.mem_of_getElem? (i := 321) (by decide +kernel)) rfl, in_X3, rfl, tyX3_ok, nmX3, by decide +kernel, rfl, fun h => by first | rfl | cases h⟩
theorem flX3_11 : ev_FL RX3 11 3 0 := ⟨(RX3, TX3, 6), rfl, by decide, ev_in (List.mem_of_getElem? (i := 316) (by decide +kernel)) rfl, in_X3, rfl⟩
theorem nwX3_9 : ev_NW RX3 9 9 [.int 0, .int 0, .int 0, .int 0, .int 0, .int 0, .int 0] 7 := ⟨(RX9, TX9, 7), tyX9, rfl, rfl, ev_in (List.mem_of_getElem? (i := 280) (by decide +kernel)) rfl, ev_in (List.mem_of_getElem? (i := 210) (by decide +kernel)) rfl, ini_X9, in_X9, tyX9_ok, fun j hj => by
  match j, hj with
  | 0, _ => exact ⟨rfl, fun _ => rfl⟩
  | 1, _ => exact ⟨rfl, fun _ => rfl⟩
  | 2, _ => exact ⟨rfl, fun _ => rfl⟩
  | 3, _ => exact ⟨rfl, fun _ => rfl⟩
  | 4, _ => exact ⟨rfl, fun _ => rfl⟩
  | 5, _ => exact ⟨rfl, fun _ => rfl⟩
  | 6, _ => exact ⟨rfl, fun _ => rfl⟩
  | j + 7, hj => exact absurd hj (by show ¬ j + 7 < 7; omega)⟩
theorem cdX9_init : ev_code mX9_init ∈ ev_TB := ev_in (List.mem_of_getElem? (i := 213) (by decide +kernel)) rfl
theorem imX9_init : Cond.instanceMethod yX9_init ∈ ev_TB := ev_in (List.mem_of_getElem? (i := 212) (by decide +kernel)) rfl
theorem kX3_init_49 : ev_K mX3_init 49 mX9_init (some RX9) 1 := ev_kIN (host := "AlikeArrows") dX3_init_49 rfl (List.mem_filter.mpr ⟨List.mem_of_getElem? (i := 285) (by decide +kernel), rfl⟩) ⟨imX9_init, ini_X9, cdX9_init⟩ rfl ⟨by decide +kernel, by decide +kernel, by decide +kernel⟩
theorem flX3_19 : ev_FL RX3 19 3 1 := ⟨(RX3, TX3, 6), rfl, by decide, ev_in (List.mem_of_getElem? (i := 320) (by decide +kernel)) rfl, in_X3, rfl⟩
theorem nwX3_17 : ev_NW RX3 17 1 [.int 0, .int 0] 2 := ⟨(RX1, TX1, 2), tyX1, rfl, rfl, ev_in (List.mem_of_getElem? (i := 281) (by decide +kernel)) rfl, ev_in (List.mem_of_getElem? (i := 286) (by decide +kernel)) rfl, ini_X1, in_X1, tyX1_ok, fun j hj => by
  match j, hj with
  | 0, _ => exact ⟨rfl, fun _ => rfl⟩
  | 1, _ => exact ⟨rfl, fun _ => rfl⟩
  | j + 2, hj => exact absurd hj (by show ¬ j + 2 < 2; omega)⟩
theorem cdX1_init : ev_code mX1_init ∈ ev_TB := ev_in (List.mem_of_getElem? (i := 289) (by decide +kernel)) rfl
theorem imX1_init : Cond.instanceMethod yX1_init ∈ ev_TB := ev_in (List.mem_of_getElem? (i := 288) (by decide +kernel)) rfl
theorem kX3_init_79 : ev_K mX3_init 79 mX1_init (some RX1) 1 := ev_kIN (host := "AlikeArrows") dX3_init_79 rfl (List.mem_filter.mpr ⟨List.mem_of_getElem? (i := 287) (by decide +kernel), rfl⟩) ⟨imX1_init, ini_X1, cdX1_init⟩ rfl ⟨by decide +kernel, by decide +kernel, by decide +kernel⟩
theorem flX3_25 : ev_FL RX3 25 3 2 := ⟨(RX3, TX3, 6), rfl, by decide, ev_in (List.mem_of_getElem? (i := 321) (by decide +kernel)) rfl, in_X3, rfl⟩
theorem ini_X0 : Cond.initialized RX0 ∈ ev_TB := ev_in (List.mem_of_getElem? (i := 55) (by decide +kernel)) rfl
theorem nwX3_23 : ev_NW RX3 23 0 [.int 0, .int 0] 2 := ⟨(RX0, TX0, 2), tyX0, rfl, rfl, ev_in (List.mem_of_getElem? (i := 283) (by decide +kernel)) rfl, ev_in (List.mem_of_getElem? (i := 302) (by decide +kernel)) rfl, ini_X0, in_X0, tyX0_ok, fun j hj => by
  match j, hj with
  | 0, _ => exact ⟨rfl, fun _ => rfl⟩
  | 1, _ => exact ⟨rfl, fun _ => rfl⟩
  | j + 2, hj => exact absurd hj (by show ¬ j + 2 < 2; omega)⟩
theorem cdX0_init : ev_code mX0_init ∈ ev_TB := ev_in (List.mem_of_getElem? (i := 305) (by decide +kernel)) rfl
theorem imX0_init : Cond.instanceMethod yX0_init ∈ ev_TB := ev_in (List.mem_of_getElem? (i := 304) (by decide +kernel)) rfl
theorem kX3_init_109 : ev_K mX3_init 109 mX0_init (some RX0) 1 := ev_kIN (host := "AlikeArrows") dX3_init_109 rfl (List.mem_filter.mpr ⟨List.mem_of_getElem? (i := 303) (by decide +kernel), rfl⟩) ⟨imX0_init, ini_X0, cdX0_init⟩ rfl ⟨by decide +kernel, by decide +kernel, by decide +kernel⟩
theorem fpX3_32 : ev_FP RX3 32 3 3 .int false := ⟨(RX3, TX3, 6), tyX3, rfl, by decide, ev_in (List.mem_of_getElem? (i := 322) (by decide +kernel)) rfl, in_X3, rfl, tyX3_ok, nmX3, by decide +kernel, rfl, fun h => by first | rfl | cases h⟩
theorem fpX3_36 : ev_FP RX3 36 3 4 .int false := ⟨(RX3, TX3, 6), tyX3, rfl, by decide, ev_in (List.mem_of_getElem? (i := 327) (by decide +kernel)) rfl, in_X3, rfl, tyX3_ok, nmX3, by decide +kernel, rfl, fun h => by first | rfl | cases h⟩
theorem fpX3_39 : ev_FP RX3 39 3 5 .int false := ⟨(RX3, TX3, 6), tyX3, rfl, by decide, ev_in (List.mem_of_getElem? (i := 330) (by decide +kernel)) rfl, in_X3, rfl, tyX3_ok, nmX3, by decide +kernel, rfl, fun h => by first | rfl | cases h⟩
theorem flX3_32 : ev_FL RX3 32 3 3 := ⟨(RX3, TX3, 6), rfl, by decide, ev_in (List.mem_of_getElem? (i := 322) (by decide +kernel)) rfl, in_X3, rfl⟩
theorem flX3_36 : ev_FL RX3 36 3 4 := ⟨(RX3, TX3, 6), rfl, by decide, ev_in (List.mem_of_getElem? (i := 327) (by decide +kernel)) rfl, in_X3, rfl⟩
theorem flX3_39 : ev_FL RX3 39 3 5 := ⟨(RX3, TX3, 6), rfl, by decide, ev_in (List.mem_of_getElem? (i := 330) (by decide +kernel)) rfl, in_X3, rfl⟩
theorem obX4_3 : Cond.methodLink RX4 3 objectInit ∈ ev_TB ∧ Cond.instanceMethod objectInit ∈ ev_TB ∧ Cond.code objectInit ⟨#[0xb1]⟩ 1 none ∈ ev_TB := ⟨ev_in (List.mem_of_getElem? (i := 205) (by decide +kernel)) rfl, imOb, cdOb⟩
theorem clX4_9 : Cond.classLink RX4 9 RX9 ∈ ev_TB := ev_in (List.mem_of_getElem? (i := 206) (by decide +kernel)) rfl
theorem fpX4_11 : ev_FP RX4 11 4 0 (.array (.object RX9)) true := ⟨(RX4, TX4, 4), tyX4, rfl, by decide, ev_in (List.mem_of_getElem? (i := 259) (by decide +kernel)) rfl, in_X4, rfl, tyX4_ok, nmX4, by decide +kernel, rfl, fun h => by first | rfl | cases h⟩
theorem ini_X8 : Cond.initialized RX8 ∈ ev_TB := ev_in (List.mem_of_getElem? (i := 47) (by decide +kernel)) rfl
theorem nwX4_17 : ev_NW RX4 17 8 [.null, .null, .null, .null, .null, .null, .null, .long 0, .long 0, .int 0] 10 := ⟨(RX8, TX8, 10), tyX8, rfl, rfl, ev_in (List.mem_of_getElem? (i := 208) (by decide +kernel)) rfl, ev_in (List.mem_of_getElem? (i := 103) (by decide +kernel)) rfl, ini_X8, in_X8, tyX8_ok, fun j hj => by
  match j, hj with
  | 0, _ => exact ⟨rfl, fun _ => rfl⟩
  | 1, _ => exact ⟨rfl, fun _ => rfl⟩
  | 2, _ => exact ⟨rfl, fun _ => rfl⟩
  | 3, _ => exact ⟨rfl, fun _ => rfl⟩
  | 4, _ => exact ⟨rfl, fun _ => rfl⟩
  | 5, _ => exact ⟨rfl, fun _ => rfl⟩
  | 6, _ => exact ⟨rfl, fun _ => rfl⟩
  | 7, _ => exact ⟨rfl, fun _ => rfl⟩
  | 8, _ => exact ⟨rfl, fun _ => rfl⟩
  | 9, _ => exact ⟨rfl, fun _ => rfl⟩
  | j + 10, hj => exact absurd hj (by show ¬ j + 10 < 10; omega)⟩
theorem cdX8_init : ev_code mX8_init ∈ ev_TB := ev_in (List.mem_of_getElem? (i := 106) (by decide +kernel)) rfl
theorem imX8_init : Cond.instanceMethod yX8_init ∈ ev_TB := ev_in (List.mem_of_getElem? (i := 105) (by decide +kernel)) rfl
theorem kX4_init_18 : ev_K mX4_init 18 mX8_init (some RX8) 1 := ev_kIN (host := "AlikeArrows") dX4_init_18 rfl (List.mem_filter.mpr ⟨List.mem_of_getElem? (i := 209) (by decide +kernel), rfl⟩) ⟨imX8_init, ini_X8, cdX8_init⟩ rfl ⟨by decide +kernel, by decide +kernel, by decide +kernel⟩
theorem fpX4_20 : ev_FP RX4 20 4 1 (.object RX8) true := ⟨(RX4, TX4, 4), tyX4, rfl, by decide, ev_in (List.mem_of_getElem? (i := 260) (by decide +kernel)) rfl, in_X4, rfl, tyX4_ok, nmX4, by decide +kernel, rfl, fun h => by first | rfl | cases h⟩
theorem flX4_11 : ev_FL RX4 11 4 0 := ⟨(RX4, TX4, 4), rfl, by decide, ev_in (List.mem_of_getElem? (i := 259) (by decide +kernel)) rfl, in_X4, rfl⟩
theorem nwX4_9 : ev_NW RX4 9 9 [.int 0, .int 0, .int 0, .int 0, .int 0, .int 0, .int 0] 7 := ⟨(RX9, TX9, 7), tyX9, rfl, rfl, ev_in (List.mem_of_getElem? (i := 206) (by decide +kernel)) rfl, ev_in (List.mem_of_getElem? (i := 210) (by decide +kernel)) rfl, ini_X9, in_X9, tyX9_ok, fun j hj => by
  match j, hj with
  | 0, _ => exact ⟨rfl, fun _ => rfl⟩
  | 1, _ => exact ⟨rfl, fun _ => rfl⟩
  | 2, _ => exact ⟨rfl, fun _ => rfl⟩
  | 3, _ => exact ⟨rfl, fun _ => rfl⟩
  | 4, _ => exact ⟨rfl, fun _ => rfl⟩
  | 5, _ => exact ⟨rfl, fun _ => rfl⟩
  | 6, _ => exact ⟨rfl, fun _ => rfl⟩
  | j + 7, hj => exact absurd hj (by show ¬ j + 7 < 7; omega)⟩
theorem kX4_init_44 : ev_K mX4_init 44 mX9_init (some RX9) 1 := ev_kIN (host := "AlikeArrows") dX4_init_44 rfl (List.mem_filter.mpr ⟨List.mem_of_getElem? (i := 211) (by decide +kernel), rfl⟩) ⟨imX9_init, ini_X9, cdX9_init⟩ rfl ⟨by decide +kernel, by decide +kernel, by decide +kernel⟩
theorem flX4_25 : ev_FL RX4 25 3 3 := ⟨(RX3, TX3, 6), rfl, by decide, ev_in (List.mem_of_getElem? (i := 323) (by decide +kernel)) rfl, in_X3, rfl⟩
theorem flX4_31 : ev_FL RX4 31 3 0 := ⟨(RX3, TX3, 6), rfl, by decide, ev_in (List.mem_of_getElem? (i := 318) (by decide +kernel)) rfl, in_X3, rfl⟩
theorem cdX9_copy : ev_code mX9_copy ∈ ev_TB := ev_in (List.mem_of_getElem? (i := 892) (by decide +kernel)) rfl
theorem imX9_copy : Cond.instanceMethod yX9_copy ∈ ev_TB := ev_in (List.mem_of_getElem? (i := 890) (by decide +kernel)) rfl
theorem seX9_copy : Cond.selects RX9 yX9_copy yX9_copy ∈ ev_TB := ev_in (List.mem_of_getElem? (i := 891) (by decide +kernel)) rfl
theorem kX4_take_36 : ev_K mX4_take 36 mX9_copy (some RX9) 2 := ev_kV dX4_take_36 ⟨ev_in (List.mem_of_getElem? (i := 889) (by decide +kernel)) rfl, imX9_copy, seX9_copy, ini_X9, cdX9_copy⟩ ⟨rfl, by decide +kernel, by decide +kernel, by decide +kernel⟩
theorem flX4_20 : ev_FL RX4 20 4 1 := ⟨(RX4, TX4, 4), rfl, by decide, ev_in (List.mem_of_getElem? (i := 260) (by decide +kernel)) rfl, in_X4, rfl⟩
theorem cdX8_copy : ev_code mX8_copy ∈ ev_TB := ev_in (List.mem_of_getElem? (i := 896) (by decide +kernel)) rfl
theorem imX8_copy : Cond.instanceMethod yX8_copy ∈ ev_TB := ev_in (List.mem_of_getElem? (i := 894) (by decide +kernel)) rfl
theorem seX8_copy : Cond.selects RX8 yX8_copy yX8_copy ∈ ev_TB := ev_in (List.mem_of_getElem? (i := 895) (by decide +kernel)) rfl
theorem kX4_take_50 : ev_K mX4_take 50 mX8_copy (some RX8) 2 := ev_kV dX4_take_50 ⟨ev_in (List.mem_of_getElem? (i := 893) (by decide +kernel)) rfl, imX8_copy, seX8_copy, ini_X8, cdX8_copy⟩ ⟨rfl, by decide +kernel, by decide +kernel, by decide +kernel⟩
theorem fpX4_39 : ev_FP RX4 39 4 2 .int false := ⟨(RX4, TX4, 4), tyX4, rfl, by decide, ev_in (List.mem_of_getElem? (i := 261) (by decide +kernel)) rfl, in_X4, rfl, tyX4_ok, nmX4, by decide +kernel, rfl, fun h => by first | rfl | cases h⟩
theorem fpX4_42 : ev_FP RX4 42 4 3 .boolean false := ⟨(RX4, TX4, 4), tyX4, rfl, by decide, ev_in (List.mem_of_getElem? (i := 263) (by decide +kernel)) rfl, in_X4, rfl, tyX4_ok, nmX4, by decide +kernel, rfl, fun h => by first | rfl | cases h⟩
theorem kX4_give_31 : ev_K mX4_give 31 mX9_copy (some RX9) 2 := ev_kV dX4_give_31 ⟨ev_in (List.mem_of_getElem? (i := 889) (by decide +kernel)) rfl, imX9_copy, seX9_copy, ini_X9, cdX9_copy⟩ ⟨rfl, by decide +kernel, by decide +kernel, by decide +kernel⟩
theorem kX4_give_45 : ev_K mX4_give 45 mX8_copy (some RX8) 2 := ev_kV dX4_give_45 ⟨ev_in (List.mem_of_getElem? (i := 893) (by decide +kernel)) rfl, imX8_copy, seX8_copy, ini_X8, cdX8_copy⟩ ⟨rfl, by decide +kernel, by decide +kernel, by decide +kernel⟩
theorem obX5_3 : Cond.methodLink RX5 3 objectInit ∈ ev_TB ∧ Cond.instanceMethod objectInit ∈ ev_TB ∧ Cond.code objectInit ⟨#[0xb1]⟩ 1 none ∈ ev_TB := ⟨ev_in (List.mem_of_getElem? (i := 194) (by decide +kernel)) rfl, imOb, cdOb⟩
theorem cdX5_ofFlight : ev_code mX5_ofFlight ∈ ev_TB := ev_in (List.mem_of_getElem? (i := 848) (by decide +kernel)) rfl
theorem ini_X5 : Cond.initialized RX5 ∈ ev_TB := ev_in (List.mem_of_getElem? (i := 50) (by decide +kernel)) rfl
theorem imX5_ofFlight : Cond.instanceMethod yX5_ofFlight ∈ ev_TB := ev_in (List.mem_of_getElem? (i := 847) (by decide +kernel)) rfl
theorem seX5_ofFlight : Cond.selects RX5 yX5_ofFlight yX5_ofFlight ∈ ev_TB := ev_in (List.mem_of_getElem? (i := 16) (by decide +kernel)) rfl
theorem kX5_rateAs_42 : ev_K mX5_rateAs 42 mX5_ofFlight (some RX5) 2 := ev_kV dX5_rateAs_42 ⟨ev_in (List.mem_of_getElem? (i := 845) (by decide +kernel)) rfl, imX5_ofFlight, seX5_ofFlight, ini_X5, cdX5_ofFlight⟩ ⟨rfl, by decide +kernel, by decide +kernel, by decide +kernel⟩
theorem cdX5_ofClean : ev_code mX5_ofClean ∈ ev_TB := ev_in (List.mem_of_getElem? (i := 853) (by decide +kernel)) rfl
theorem imX5_ofClean : Cond.instanceMethod yX5_ofClean ∈ ev_TB := ev_in (List.mem_of_getElem? (i := 852) (by decide +kernel)) rfl
theorem seX5_ofClean : Cond.selects RX5 yX5_ofClean yX5_ofClean ∈ ev_TB := ev_in (List.mem_of_getElem? (i := 17) (by decide +kernel)) rfl
theorem kX5_rateAs_48 : ev_K mX5_rateAs 48 mX5_ofClean (some RX5) 2 := ev_kV dX5_rateAs_48 ⟨ev_in (List.mem_of_getElem? (i := 850) (by decide +kernel)) rfl, imX5_ofClean, seX5_ofClean, ini_X5, cdX5_ofClean⟩ ⟨rfl, by decide +kernel, by decide +kernel, by decide +kernel⟩
theorem cdX5_ofStiff : ev_code mX5_ofStiff ∈ ev_TB := ev_in (List.mem_of_getElem? (i := 858) (by decide +kernel)) rfl
theorem imX5_ofStiff : Cond.instanceMethod yX5_ofStiff ∈ ev_TB := ev_in (List.mem_of_getElem? (i := 857) (by decide +kernel)) rfl
theorem seX5_ofStiff : Cond.selects RX5 yX5_ofStiff yX5_ofStiff ∈ ev_TB := ev_in (List.mem_of_getElem? (i := 18) (by decide +kernel)) rfl
theorem kX5_rateAs_55 : ev_K mX5_rateAs 55 mX5_ofStiff (some RX5) 3 := ev_kV dX5_rateAs_55 ⟨ev_in (List.mem_of_getElem? (i := 855) (by decide +kernel)) rfl, imX5_ofStiff, seX5_ofStiff, ini_X5, cdX5_ofStiff⟩ ⟨rfl, by decide +kernel, by decide +kernel, by decide +kernel⟩
theorem cdX5_ofWindy : ev_code mX5_ofWindy ∈ ev_TB := ev_in (List.mem_of_getElem? (i := 864) (by decide +kernel)) rfl
theorem imX5_ofWindy : Cond.instanceMethod yX5_ofWindy ∈ ev_TB := ev_in (List.mem_of_getElem? (i := 863) (by decide +kernel)) rfl
theorem seX5_ofWindy : Cond.selects RX5 yX5_ofWindy yX5_ofWindy ∈ ev_TB := ev_in (List.mem_of_getElem? (i := 19) (by decide +kernel)) rfl
theorem kX5_rateAs_63 : ev_K mX5_rateAs 63 mX5_ofWindy (some RX5) 3 := ev_kV dX5_rateAs_63 ⟨ev_in (List.mem_of_getElem? (i := 861) (by decide +kernel)) rfl, imX5_ofWindy, seX5_ofWindy, ini_X5, cdX5_ofWindy⟩ ⟨rfl, by decide +kernel, by decide +kernel, by decide +kernel⟩
theorem cdX5_ofSlapped : ev_code mX5_ofSlapped ∈ ev_TB := ev_in (List.mem_of_getElem? (i := 869) (by decide +kernel)) rfl
theorem imX5_ofSlapped : Cond.instanceMethod yX5_ofSlapped ∈ ev_TB := ev_in (List.mem_of_getElem? (i := 868) (by decide +kernel)) rfl
theorem seX5_ofSlapped : Cond.selects RX5 yX5_ofSlapped yX5_ofSlapped ∈ ev_TB := ev_in (List.mem_of_getElem? (i := 20) (by decide +kernel)) rfl
theorem kX5_rateAs_70 : ev_K mX5_rateAs 70 mX5_ofSlapped (some RX5) 3 := ev_kV dX5_rateAs_70 ⟨ev_in (List.mem_of_getElem? (i := 866) (by decide +kernel)) rfl, imX5_ofSlapped, seX5_ofSlapped, ini_X5, cdX5_ofSlapped⟩ ⟨rfl, by decide +kernel, by decide +kernel, by decide +kernel⟩
theorem cdX5_ofSoft : ev_code mX5_ofSoft ∈ ev_TB := ev_in (List.mem_of_getElem? (i := 874) (by decide +kernel)) rfl
theorem imX5_ofSoft : Cond.instanceMethod yX5_ofSoft ∈ ev_TB := ev_in (List.mem_of_getElem? (i := 873) (by decide +kernel)) rfl
theorem seX5_ofSoft : Cond.selects RX5 yX5_ofSoft yX5_ofSoft ∈ ev_TB := ev_in (List.mem_of_getElem? (i := 21) (by decide +kernel)) rfl
theorem kX5_rateAs_76 : ev_K mX5_rateAs 76 mX5_ofSoft (some RX5) 2 := ev_kV dX5_rateAs_76 ⟨ev_in (List.mem_of_getElem? (i := 871) (by decide +kernel)) rfl, imX5_ofSoft, seX5_ofSoft, ini_X5, cdX5_ofSoft⟩ ⟨rfl, by decide +kernel, by decide +kernel, by decide +kernel⟩
theorem coX5_32 : Cond.constant RX5 32 (-1000000) ∈ ev_TB := ev_in (List.mem_of_getElem? (i := 876) (by decide +kernel)) rfl
theorem flX5_33 : ev_FL RX5 33 5 0 := ⟨(RX5, TX5, 1), rfl, by decide, ev_in (List.mem_of_getElem? (i := 195) (by decide +kernel)) rfl, in_X5, rfl⟩
theorem fpX5_33 : ev_FP RX5 33 5 0 .long false := ⟨(RX5, TX5, 1), tyX5, rfl, by decide, ev_in (List.mem_of_getElem? (i := 195) (by decide +kernel)) rfl, in_X5, rfl, tyX5_ok, nmX5, by decide +kernel, rfl, fun h => by first | rfl | cases h⟩
theorem cdX9_spine : ev_code mX9_spine ∈ ev_TB := ev_in (List.mem_of_getElem? (i := 665) (by decide +kernel)) rfl
theorem imX9_spine : Cond.instanceMethod yX9_spine ∈ ev_TB := ev_in (List.mem_of_getElem? (i := 663) (by decide +kernel)) rfl
theorem seX9_spine : Cond.selects RX9 yX9_spine yX9_spine ∈ ev_TB := ev_in (List.mem_of_getElem? (i := 664) (by decide +kernel)) rfl
theorem kX5_ofFlight_11 : ev_K mX5_ofFlight 11 mX9_spine (some RX9) 1 := ev_kV dX5_ofFlight_11 ⟨ev_in (List.mem_of_getElem? (i := 849) (by decide +kernel)) rfl, imX9_spine, seX9_spine, ini_X9, cdX9_spine⟩ ⟨rfl, by decide +kernel, by decide +kernel, by decide +kernel⟩
theorem coX5_43 : Cond.constantLong RX5 43 (10) ∈ ev_TB := ev_in (List.mem_of_getElem? (i := 854) (by decide +kernel)) rfl
theorem kX5_ofClean_14 : ev_K mX5_ofClean 14 mX5_ofFlight (some RX5) 2 := ev_kV dX5_ofClean_14 ⟨ev_in (List.mem_of_getElem? (i := 845) (by decide +kernel)) rfl, imX5_ofFlight, seX5_ofFlight, ini_X5, cdX5_ofFlight⟩ ⟨rfl, by decide +kernel, by decide +kernel, by decide +kernel⟩
theorem flX5_45 : ev_FL RX5 45 9 1 := ⟨(RX9, TX9, 7), rfl, by decide, ev_in (List.mem_of_getElem? (i := 220) (by decide +kernel)) rfl, in_X9, rfl⟩
theorem coX5_49 : Cond.constantLong RX5 49 (100) ∈ ev_TB := ev_in (List.mem_of_getElem? (i := 859) (by decide +kernel)) rfl
theorem kX5_ofStiff_14 : ev_K mX5_ofStiff 14 mX5_ofFlight (some RX5) 2 := ev_kV dX5_ofStiff_14 ⟨ev_in (List.mem_of_getElem? (i := 845) (by decide +kernel)) rfl, imX5_ofFlight, seX5_ofFlight, ini_X5, cdX5_ofFlight⟩ ⟨rfl, by decide +kernel, by decide +kernel, by decide +kernel⟩
theorem flX5_51 : ev_FL RX5 51 9 5 := ⟨(RX9, TX9, 7), rfl, by decide, ev_in (List.mem_of_getElem? (i := 236) (by decide +kernel)) rfl, in_X9, rfl⟩
theorem kX5_ofStiff_23 : ev_K mX5_ofStiff 23 mX1_dropOf (some RX1) 3 := ev_kV dX5_ofStiff_23 ⟨ev_in (List.mem_of_getElem? (i := 860) (by decide +kernel)) rfl, imX1_dropOf, seX1_dropOf, ini_X1, cdX1_dropOf⟩ ⟨rfl, by decide +kernel, by decide +kernel, by decide +kernel⟩
theorem coX5_59 : Cond.constantLong RX5 59 (1000) ∈ ev_TB := ev_in (List.mem_of_getElem? (i := 865) (by decide +kernel)) rfl
theorem kX5_ofWindy_14 : ev_K mX5_ofWindy 14 mX5_ofClean (some RX5) 2 := ev_kV dX5_ofWindy_14 ⟨ev_in (List.mem_of_getElem? (i := 850) (by decide +kernel)) rfl, imX5_ofClean, seX5_ofClean, ini_X5, cdX5_ofClean⟩ ⟨rfl, by decide +kernel, by decide +kernel, by decide +kernel⟩
theorem coX5_61 : Cond.constantLong RX5 61 (10000) ∈ ev_TB := ev_in (List.mem_of_getElem? (i := 870) (by decide +kernel)) rfl
theorem kX5_ofSlapped_16 : ev_K mX5_ofSlapped 16 mX5_ofStiff (some RX5) 3 := ev_kV dX5_ofSlapped_16 ⟨ev_in (List.mem_of_getElem? (i := 855) (by decide +kernel)) rfl, imX5_ofStiff, seX5_ofStiff, ini_X5, cdX5_ofStiff⟩ ⟨rfl, by decide +kernel, by decide +kernel, by decide +kernel⟩
theorem coX5_63 : Cond.constantLong RX5 63 (100000) ∈ ev_TB := ev_in (List.mem_of_getElem? (i := 875) (by decide +kernel)) rfl
theorem kX5_ofSoft_14 : ev_K mX5_ofSoft 14 mX5_ofFlight (some RX5) 2 := ev_kV dX5_ofSoft_14 ⟨ev_in (List.mem_of_getElem? (i := 845) (by decide +kernel)) rfl, imX5_ofFlight, seX5_ofFlight, ini_X5, cdX5_ofFlight⟩ ⟨rfl, by decide +kernel, by decide +kernel, by decide +kernel⟩
theorem flX5_65 : ev_FL RX5 65 9 4 := ⟨(RX9, TX9, 7), rfl, by decide, ev_in (List.mem_of_getElem? (i := 233) (by decide +kernel)) rfl, in_X9, rfl⟩
theorem obX6_3 : Cond.methodLink RX6 3 objectInit ∈ ev_TB ∧ Cond.instanceMethod objectInit ∈ ev_TB ∧ Cond.code objectInit ⟨#[0xb1]⟩ 1 none ∈ ev_TB := ⟨ev_in (List.mem_of_getElem? (i := 172) (by decide +kernel)) rfl, imOb, cdOb⟩
theorem flX6_9 : ev_FL RX6 9 6 0 := ⟨(RX6, TX6, 5), rfl, by decide, ev_in (List.mem_of_getElem? (i := 173) (by decide +kernel)) rfl, in_X6, rfl⟩
theorem flX6_15 : ev_FL RX6 15 6 1 := ⟨(RX6, TX6, 5), rfl, by decide, ev_in (List.mem_of_getElem? (i := 174) (by decide +kernel)) rfl, in_X6, rfl⟩
theorem flX6_18 : ev_FL RX6 18 6 2 := ⟨(RX6, TX6, 5), rfl, by decide, ev_in (List.mem_of_getElem? (i := 175) (by decide +kernel)) rfl, in_X6, rfl⟩
theorem flX6_21 : ev_FL RX6 21 6 3 := ⟨(RX6, TX6, 5), rfl, by decide, ev_in (List.mem_of_getElem? (i := 176) (by decide +kernel)) rfl, in_X6, rfl⟩
theorem flX6_24 : ev_FL RX6 24 6 4 := ⟨(RX6, TX6, 5), rfl, by decide, ev_in (List.mem_of_getElem? (i := 177) (by decide +kernel)) rfl, in_X6, rfl⟩
theorem cdX9_mostCuts : ev_code mX9_mostCuts ∈ ev_TB := ev_in (List.mem_of_getElem? (i := 590) (by decide +kernel)) rfl
theorem imX9_mostCuts : Cond.instanceMethod yX9_mostCuts ∈ ev_TB := ev_in (List.mem_of_getElem? (i := 588) (by decide +kernel)) rfl
theorem seX9_mostCuts : Cond.selects RX9 yX9_mostCuts yX9_mostCuts ∈ ev_TB := ev_in (List.mem_of_getElem? (i := 589) (by decide +kernel)) rfl
theorem kX6_find_3 : ev_K mX6_find 3 mX9_mostCuts (some RX9) 1 := ev_kV dX6_find_3 ⟨ev_in (List.mem_of_getElem? (i := 620) (by decide +kernel)) rfl, imX9_mostCuts, seX9_mostCuts, ini_X9, cdX9_mostCuts⟩ ⟨rfl, by decide +kernel, by decide +kernel, by decide +kernel⟩
theorem sMath_min : Cond.static Lib.Math.min.name ∈ ev_TB ∧ Cond.initialized "java/lang/Math" ∈ ev_TB ∧ Cond.code Lib.Math.min.name Lib.Math.min.code 2 (some .int) ∈ ev_TB := ⟨ev_in (List.mem_of_getElem? (i := 494) (by decide +kernel)) rfl, iniMath, ev_in (List.mem_of_getElem? (i := 495) (by decide +kernel)) rfl⟩
theorem maX6_33 : Cond.methodLink RX6 33 Lib.Math.min.name ∈ ev_TB ∧ Cond.static Lib.Math.min.name ∈ ev_TB ∧ Cond.initialized "java/lang/Math" ∈ ev_TB ∧ Cond.code Lib.Math.min.name Lib.Math.min.code 2 (some .int) ∈ ev_TB := ⟨ev_in (List.mem_of_getElem? (i := 621) (by decide +kernel)) rfl, sMath_min⟩
theorem cdX9_mostScrapes : ev_code mX9_mostScrapes ∈ ev_TB := ev_in (List.mem_of_getElem? (i := 598) (by decide +kernel)) rfl
theorem imX9_mostScrapes : Cond.instanceMethod yX9_mostScrapes ∈ ev_TB := ev_in (List.mem_of_getElem? (i := 596) (by decide +kernel)) rfl
theorem seX9_mostScrapes : Cond.selects RX9 yX9_mostScrapes yX9_mostScrapes ∈ ev_TB := ev_in (List.mem_of_getElem? (i := 597) (by decide +kernel)) rfl
theorem kX6_find_14 : ev_K mX6_find 14 mX9_mostScrapes (some RX9) 1 := ev_kV dX6_find_14 ⟨ev_in (List.mem_of_getElem? (i := 622) (by decide +kernel)) rfl, imX9_mostScrapes, seX9_mostScrapes, ini_X9, cdX9_mostScrapes⟩ ⟨rfl, by decide +kernel, by decide +kernel, by decide +kernel⟩
theorem cdX9_mostLoads : ev_code mX9_mostLoads ∈ ev_TB := ev_in (List.mem_of_getElem? (i := 607) (by decide +kernel)) rfl
theorem imX9_mostLoads : Cond.instanceMethod yX9_mostLoads ∈ ev_TB := ev_in (List.mem_of_getElem? (i := 605) (by decide +kernel)) rfl
theorem seX9_mostLoads : Cond.selects RX9 yX9_mostLoads yX9_mostLoads ∈ ev_TB := ev_in (List.mem_of_getElem? (i := 606) (by decide +kernel)) rfl
theorem kX6_find_25 : ev_K mX6_find 25 mX9_mostLoads (some RX9) 1 := ev_kV dX6_find_25 ⟨ev_in (List.mem_of_getElem? (i := 623) (by decide +kernel)) rfl, imX9_mostLoads, seX9_mostLoads, ini_X9, cdX9_mostLoads⟩ ⟨rfl, by decide +kernel, by decide +kernel, by decide +kernel⟩
theorem fpX6_9 : ev_FP RX6 9 6 0 .int false := ⟨(RX6, TX6, 5), tyX6, rfl, by decide, ev_in (List.mem_of_getElem? (i := 173) (by decide +kernel)) rfl, in_X6, rfl, tyX6_ok, nmX6, by decide +kernel, rfl, fun h => by first | rfl | cases h⟩
theorem flX6_45 : ev_FL RX6 45 9 6 := ⟨(RX9, TX9, 7), rfl, by decide, ev_in (List.mem_of_getElem? (i := 241) (by decide +kernel)) rfl, in_X9, rfl⟩
theorem cdX9_stiffBy : ev_code mX9_stiffBy ∈ ev_TB := ev_in (List.mem_of_getElem? (i := 627) (by decide +kernel)) rfl
theorem imX9_stiffBy : Cond.instanceMethod yX9_stiffBy ∈ ev_TB := ev_in (List.mem_of_getElem? (i := 625) (by decide +kernel)) rfl
theorem seX9_stiffBy : Cond.selects RX9 yX9_stiffBy yX9_stiffBy ∈ ev_TB := ev_in (List.mem_of_getElem? (i := 626) (by decide +kernel)) rfl
theorem kX6_find_67 : ev_K mX6_find 67 mX9_stiffBy (some RX9) 2 := ev_kV dX6_find_67 ⟨ev_in (List.mem_of_getElem? (i := 624) (by decide +kernel)) rfl, imX9_stiffBy, seX9_stiffBy, ini_X9, cdX9_stiffBy⟩ ⟨rfl, by decide +kernel, by decide +kernel, by decide +kernel⟩
theorem cdX6_isFewer : ev_code mX6_isFewer ∈ ev_TB := ev_in (List.mem_of_getElem? (i := 631) (by decide +kernel)) rfl
theorem ini_X6 : Cond.initialized RX6 ∈ ev_TB := ev_in (List.mem_of_getElem? (i := 49) (by decide +kernel)) rfl
theorem imX6_isFewer : Cond.instanceMethod yX6_isFewer ∈ ev_TB := ev_in (List.mem_of_getElem? (i := 630) (by decide +kernel)) rfl
theorem seX6_isFewer : Cond.selects RX6 yX6_isFewer yX6_isFewer ∈ ev_TB := ev_in (List.mem_of_getElem? (i := 10) (by decide +kernel)) rfl
theorem kX6_find_114 : ev_K mX6_find 114 mX6_isFewer (some RX6) 2 := ev_kV dX6_find_114 ⟨ev_in (List.mem_of_getElem? (i := 628) (by decide +kernel)) rfl, imX6_isFewer, seX6_isFewer, ini_X6, cdX6_isFewer⟩ ⟨rfl, by decide +kernel, by decide +kernel, by decide +kernel⟩
theorem flX6_56 : ev_FL RX6 56 9 0 := ⟨(RX9, TX9, 7), rfl, by decide, ev_in (List.mem_of_getElem? (i := 216) (by decide +kernel)) rfl, in_X9, rfl⟩
theorem flX6_59 : ev_FL RX6 59 9 4 := ⟨(RX9, TX9, 7), rfl, by decide, ev_in (List.mem_of_getElem? (i := 230) (by decide +kernel)) rfl, in_X9, rfl⟩
theorem cdX11_spineOf : ev_code mX11_spineOf ∈ ev_TB := ev_in (List.mem_of_getElem? (i := 634) (by decide +kernel)) rfl
theorem smX11_spineOf : Cond.static yX11_spineOf ∈ ev_TB := ev_in (List.mem_of_getElem? (i := 633) (by decide +kernel)) rfl
theorem kX6_find_141 : ev_K mX6_find 141 mX11_spineOf none 3 := ev_kSN (host := "AlikeArrows") dX6_find_141 (List.mem_filter.mpr ⟨List.mem_of_getElem? (i := 632) (by decide +kernel), rfl⟩) ⟨smX11_spineOf, ini_X11, cdX11_spineOf⟩ ⟨by decide +kernel, by decide +kernel, by decide +kernel⟩
theorem kX6_find_149 : ev_K mX6_find 149 mX9_mass (some RX9) 1 := ev_kV dX6_find_149 ⟨ev_in (List.mem_of_getElem? (i := 638) (by decide +kernel)) rfl, imX9_mass, seX9_mass, ini_X9, cdX9_mass⟩ ⟨rfl, by decide +kernel, by decide +kernel, by decide +kernel⟩
theorem cdX10_isClean : ev_code mX10_isClean ∈ ev_TB := ev_in (List.mem_of_getElem? (i := 645) (by decide +kernel)) rfl
theorem imX10_isClean : Cond.instanceMethod yX10_isClean ∈ ev_TB := ev_in (List.mem_of_getElem? (i := 643) (by decide +kernel)) rfl
theorem seX10_isClean : Cond.selects RX10 yX10_isClean yX10_isClean ∈ ev_TB := ev_in (List.mem_of_getElem? (i := 644) (by decide +kernel)) rfl
theorem kX6_find_167 : ev_K mX6_find 167 mX10_isClean (some RX10) 2 := ev_kV dX6_find_167 ⟨ev_in (List.mem_of_getElem? (i := 642) (by decide +kernel)) rfl, imX10_isClean, seX10_isClean, ini_X10, cdX10_isClean⟩ ⟨rfl, by decide +kernel, by decide +kernel, by decide +kernel⟩
theorem kX6_find_179 : ev_K mX6_find 179 mX11_within none 3 := ev_kSN (host := "AlikeArrows") dX6_find_179 (List.mem_filter.mpr ⟨List.mem_of_getElem? (i := 649) (by decide +kernel), rfl⟩) ⟨smX11_within, ini_X11, cdX11_within⟩ ⟨by decide +kernel, by decide +kernel, by decide +kernel⟩
theorem cdX6_note : ev_code mX6_note ∈ ev_TB := ev_in (List.mem_of_getElem? (i := 653) (by decide +kernel)) rfl
theorem imX6_note : Cond.instanceMethod yX6_note ∈ ev_TB := ev_in (List.mem_of_getElem? (i := 652) (by decide +kernel)) rfl
theorem seX6_note : Cond.selects RX6 yX6_note yX6_note ∈ ev_TB := ev_in (List.mem_of_getElem? (i := 11) (by decide +kernel)) rfl
theorem kX6_find_194 : ev_K mX6_find 194 mX6_note (some RX6) 5 := ev_kV dX6_find_194 ⟨ev_in (List.mem_of_getElem? (i := 650) (by decide +kernel)) rfl, imX6_note, seX6_note, ini_X6, cdX6_note⟩ ⟨rfl, by decide +kernel, by decide +kernel, by decide +kernel⟩
theorem fpX6_24 : ev_FP RX6 24 6 4 .int false := ⟨(RX6, TX6, 5), tyX6, rfl, by decide, ev_in (List.mem_of_getElem? (i := 177) (by decide +kernel)) rfl, in_X6, rfl, tyX6_ok, nmX6, by decide +kernel, rfl, fun h => by first | rfl | cases h⟩
theorem fpX6_15 : ev_FP RX6 15 6 1 .int false := ⟨(RX6, TX6, 5), tyX6, rfl, by decide, ev_in (List.mem_of_getElem? (i := 174) (by decide +kernel)) rfl, in_X6, rfl, tyX6_ok, nmX6, by decide +kernel, rfl, fun h => by first | rfl | cases h⟩
theorem fpX6_18 : ev_FP RX6 18 6 2 .int false := ⟨(RX6, TX6, 5), tyX6, rfl, by decide, ev_in (List.mem_of_getElem? (i := 175) (by decide +kernel)) rfl, in_X6, rfl, tyX6_ok, nmX6, by decide +kernel, rfl, fun h => by first | rfl | cases h⟩
theorem fpX6_21 : ev_FP RX6 21 6 3 .int false := ⟨(RX6, TX6, 5), tyX6, rfl, by decide, ev_in (List.mem_of_getElem? (i := 176) (by decide +kernel)) rfl, in_X6, rfl, tyX6_ok, nmX6, by decide +kernel, rfl, fun h => by first | rfl | cases h⟩
theorem obX7_3 : Cond.methodLink RX7 3 objectInit ∈ ev_TB ∧ Cond.instanceMethod objectInit ∈ ev_TB ∧ Cond.code objectInit ⟨#[0xb1]⟩ 1 none ∈ ev_TB := ⟨ev_in (List.mem_of_getElem? (i := 76) (by decide +kernel)) rfl, imOb, cdOb⟩
theorem fpX7_9 : ev_FP RX7 9 7 0 (.array .int) true := ⟨(RX7, TX7, 4), tyX7, rfl, by decide, ev_in (List.mem_of_getElem? (i := 77) (by decide +kernel)) rfl, in_X7, rfl, tyX7_ok, nmX7, by decide +kernel, rfl, fun h => by first | rfl | cases h⟩
theorem fpX7_15 : ev_FP RX7 15 7 1 (.array .int) true := ⟨(RX7, TX7, 4), tyX7, rfl, by decide, ev_in (List.mem_of_getElem? (i := 78) (by decide +kernel)) rfl, in_X7, rfl, tyX7_ok, nmX7, by decide +kernel, rfl, fun h => by first | rfl | cases h⟩
theorem flX7_18 : ev_FL RX7 18 7 3 := ⟨(RX7, TX7, 4), rfl, by decide, ev_in (List.mem_of_getElem? (i := 80) (by decide +kernel)) rfl, in_X7, rfl⟩
theorem flX7_9 : ev_FL RX7 9 7 0 := ⟨(RX7, TX7, 4), rfl, by decide, ev_in (List.mem_of_getElem? (i := 77) (by decide +kernel)) rfl, in_X7, rfl⟩
theorem fpX7_18 : ev_FP RX7 18 7 3 .int false := ⟨(RX7, TX7, 4), tyX7, rfl, by decide, ev_in (List.mem_of_getElem? (i := 80) (by decide +kernel)) rfl, in_X7, rfl, tyX7_ok, nmX7, by decide +kernel, rfl, fun h => by first | rfl | cases h⟩
theorem cdX3_empty : ev_code mX3_empty ∈ ev_TB := ev_in (List.mem_of_getElem? (i := 410) (by decide +kernel)) rfl
theorem ini_X3 : Cond.initialized RX3 ∈ ev_TB := ev_in (List.mem_of_getElem? (i := 53) (by decide +kernel)) rfl
theorem imX3_empty : Cond.instanceMethod yX3_empty ∈ ev_TB := ev_in (List.mem_of_getElem? (i := 408) (by decide +kernel)) rfl
theorem seX3_empty : Cond.selects RX3 yX3_empty yX3_empty ∈ ev_TB := ev_in (List.mem_of_getElem? (i := 409) (by decide +kernel)) rfl
theorem kX7_readAll_1 : ev_K mX7_readAll 1 mX3_empty (some RX3) 1 := ev_kV dX7_readAll_1 ⟨ev_in (List.mem_of_getElem? (i := 407) (by decide +kernel)) rfl, imX3_empty, seX3_empty, ini_X3, cdX3_empty⟩ ⟨rfl, by decide +kernel, by decide +kernel, by decide +kernel⟩
theorem fpX7_27 : ev_FP RX7 27 7 2 .int false := ⟨(RX7, TX7, 4), tyX7, rfl, by decide, ev_in (List.mem_of_getElem? (i := 79) (by decide +kernel)) rfl, in_X7, rfl, tyX7_ok, nmX7, by decide +kernel, rfl, fun h => by first | rfl | cases h⟩
theorem cdX7_skipBlanks : ev_code mX7_skipBlanks ∈ ev_TB := ev_in (List.mem_of_getElem? (i := 414) (by decide +kernel)) rfl
theorem ini_X7 : Cond.initialized RX7 ∈ ev_TB := ev_in (List.mem_of_getElem? (i := 45) (by decide +kernel)) rfl
theorem imX7_skipBlanks : Cond.instanceMethod yX7_skipBlanks ∈ ev_TB := ev_in (List.mem_of_getElem? (i := 413) (by decide +kernel)) rfl
theorem seX7_skipBlanks : Cond.selects RX7 yX7_skipBlanks yX7_skipBlanks ∈ ev_TB := ev_in (List.mem_of_getElem? (i := 0) (by decide +kernel)) rfl
theorem kX7_readAll_12 : ev_K mX7_readAll 12 mX7_skipBlanks (some RX7) 1 := ev_kV dX7_readAll_12 ⟨ev_in (List.mem_of_getElem? (i := 411) (by decide +kernel)) rfl, imX7_skipBlanks, seX7_skipBlanks, ini_X7, cdX7_skipBlanks⟩ ⟨rfl, by decide +kernel, by decide +kernel, by decide +kernel⟩
theorem flX7_27 : ev_FL RX7 27 7 2 := ⟨(RX7, TX7, 4), rfl, by decide, ev_in (List.mem_of_getElem? (i := 79) (by decide +kernel)) rfl, in_X7, rfl⟩
theorem cdX7_readItem : ev_code mX7_readItem ∈ ev_TB := ev_in (List.mem_of_getElem? (i := 422) (by decide +kernel)) rfl
theorem imX7_readItem : Cond.instanceMethod yX7_readItem ∈ ev_TB := ev_in (List.mem_of_getElem? (i := 421) (by decide +kernel)) rfl
theorem seX7_readItem : Cond.selects RX7 yX7_readItem yX7_readItem ∈ ev_TB := ev_in (List.mem_of_getElem? (i := 2) (by decide +kernel)) rfl
theorem kX7_readAll_35 : ev_K mX7_readAll 35 mX7_readItem (some RX7) 2 := ev_kV dX7_readAll_35 ⟨ev_in (List.mem_of_getElem? (i := 419) (by decide +kernel)) rfl, imX7_readItem, seX7_readItem, ini_X7, cdX7_readItem⟩ ⟨rfl, by decide +kernel, by decide +kernel, by decide +kernel⟩
theorem kX7_readAll_53 : ev_K mX7_readAll 53 mX7_skipBlanks (some RX7) 1 := ev_kV dX7_readAll_53 ⟨ev_in (List.mem_of_getElem? (i := 411) (by decide +kernel)) rfl, imX7_skipBlanks, seX7_skipBlanks, ini_X7, cdX7_skipBlanks⟩ ⟨rfl, by decide +kernel, by decide +kernel, by decide +kernel⟩
theorem flX7_37 : ev_FL RX7 37 3 3 := ⟨(RX3, TX3, 6), rfl, by decide, ev_in (List.mem_of_getElem? (i := 325) (by decide +kernel)) rfl, in_X3, rfl⟩
theorem cdX7_takeWord : ev_code mX7_takeWord ∈ ev_TB := ev_in (List.mem_of_getElem? (i := 427) (by decide +kernel)) rfl
theorem imX7_takeWord : Cond.instanceMethod yX7_takeWord ∈ ev_TB := ev_in (List.mem_of_getElem? (i := 426) (by decide +kernel)) rfl
theorem seX7_takeWord : Cond.selects RX7 yX7_takeWord yX7_takeWord ∈ ev_TB := ev_in (List.mem_of_getElem? (i := 3) (by decide +kernel)) rfl
theorem kX7_readItem_12 : ev_K mX7_readItem 12 mX7_takeWord (some RX7) 2 := ev_kV dX7_readItem_12 ⟨ev_in (List.mem_of_getElem? (i := 424) (by decide +kernel)) rfl, imX7_takeWord, seX7_takeWord, ini_X7, cdX7_takeWord⟩ ⟨rfl, by decide +kernel, by decide +kernel, by decide +kernel⟩
theorem cdX7_readStick : ev_code mX7_readStick ∈ ev_TB := ev_in (List.mem_of_getElem? (i := 480) (by decide +kernel)) rfl
theorem imX7_readStick : Cond.instanceMethod yX7_readStick ∈ ev_TB := ev_in (List.mem_of_getElem? (i := 479) (by decide +kernel)) rfl
theorem seX7_readStick : Cond.selects RX7 yX7_readStick yX7_readStick ∈ ev_TB := ev_in (List.mem_of_getElem? (i := 4) (by decide +kernel)) rfl
theorem kX7_readItem_20 : ev_K mX7_readItem 20 mX7_readStick (some RX7) 2 := ev_kV dX7_readItem_20 ⟨ev_in (List.mem_of_getElem? (i := 477) (by decide +kernel)) rfl, imX7_readStick, seX7_readStick, ini_X7, cdX7_readStick⟩ ⟨rfl, by decide +kernel, by decide +kernel, by decide +kernel⟩
theorem flX7_49 : ev_FL RX7 49 3 4 := ⟨(RX3, TX3, 6), rfl, by decide, ev_in (List.mem_of_getElem? (i := 328) (by decide +kernel)) rfl, in_X3, rfl⟩
theorem kX7_readItem_35 : ev_K mX7_readItem 35 mX7_takeWord (some RX7) 2 := ev_kV dX7_readItem_35 ⟨ev_in (List.mem_of_getElem? (i := 424) (by decide +kernel)) rfl, imX7_takeWord, seX7_takeWord, ini_X7, cdX7_takeWord⟩ ⟨rfl, by decide +kernel, by decide +kernel, by decide +kernel⟩
theorem cdX7_readBow : ev_code mX7_readBow ∈ ev_TB := ev_in (List.mem_of_getElem? (i := 508) (by decide +kernel)) rfl
theorem imX7_readBow : Cond.instanceMethod yX7_readBow ∈ ev_TB := ev_in (List.mem_of_getElem? (i := 507) (by decide +kernel)) rfl
theorem seX7_readBow : Cond.selects RX7 yX7_readBow yX7_readBow ∈ ev_TB := ev_in (List.mem_of_getElem? (i := 8) (by decide +kernel)) rfl
theorem kX7_readItem_43 : ev_K mX7_readItem 43 mX7_readBow (some RX7) 2 := ev_kV dX7_readItem_43 ⟨ev_in (List.mem_of_getElem? (i := 505) (by decide +kernel)) rfl, imX7_readBow, seX7_readBow, ini_X7, cdX7_readBow⟩ ⟨rfl, by decide +kernel, by decide +kernel, by decide +kernel⟩
theorem flX7_57 : ev_FL RX7 57 3 5 := ⟨(RX3, TX3, 6), rfl, by decide, ev_in (List.mem_of_getElem? (i := 331) (by decide +kernel)) rfl, in_X3, rfl⟩
theorem kX7_readItem_58 : ev_K mX7_readItem 58 mX7_takeWord (some RX7) 2 := ev_kV dX7_readItem_58 ⟨ev_in (List.mem_of_getElem? (i := 424) (by decide +kernel)) rfl, imX7_takeWord, seX7_takeWord, ini_X7, cdX7_takeWord⟩ ⟨rfl, by decide +kernel, by decide +kernel, by decide +kernel⟩
theorem cdX7_readArcher : ev_code mX7_readArcher ∈ ev_TB := ev_in (List.mem_of_getElem? (i := 521) (by decide +kernel)) rfl
theorem imX7_readArcher : Cond.instanceMethod yX7_readArcher ∈ ev_TB := ev_in (List.mem_of_getElem? (i := 520) (by decide +kernel)) rfl
theorem seX7_readArcher : Cond.selects RX7 yX7_readArcher yX7_readArcher ∈ ev_TB := ev_in (List.mem_of_getElem? (i := 9) (by decide +kernel)) rfl
theorem kX7_readItem_66 : ev_K mX7_readItem 66 mX7_readArcher (some RX7) 2 := ev_kV dX7_readItem_66 ⟨ev_in (List.mem_of_getElem? (i := 518) (by decide +kernel)) rfl, imX7_readArcher, seX7_readArcher, ini_X7, cdX7_readArcher⟩ ⟨rfl, by decide +kernel, by decide +kernel, by decide +kernel⟩
theorem fwX7_65 : Cond.fieldLink RX7 65 "AlikeArrows$Reader" "STICK_LEASTS" "[I" ∈ ev_TB := ev_in (List.mem_of_getElem? (i := 481) (by decide +kernel)) rfl
theorem fwX7_68 : Cond.fieldLink RX7 68 "AlikeArrows$Reader" "STICK_MOSTS" "[I" ∈ ev_TB := ev_in (List.mem_of_getElem? (i := 483) (by decide +kernel)) rfl
theorem cdX7_takeNumbers : ev_code mX7_takeNumbers ∈ ev_TB := ev_in (List.mem_of_getElem? (i := 488) (by decide +kernel)) rfl
theorem imX7_takeNumbers : Cond.instanceMethod yX7_takeNumbers ∈ ev_TB := ev_in (List.mem_of_getElem? (i := 487) (by decide +kernel)) rfl
theorem seX7_takeNumbers : Cond.selects RX7 yX7_takeNumbers yX7_takeNumbers ∈ ev_TB := ev_in (List.mem_of_getElem? (i := 5) (by decide +kernel)) rfl
theorem kX7_readStick_7 : ev_K mX7_readStick 7 mX7_takeNumbers (some RX7) 3 := ev_kV dX7_readStick_7 ⟨ev_in (List.mem_of_getElem? (i := 485) (by decide +kernel)) rfl, imX7_takeNumbers, seX7_takeNumbers, ini_X7, cdX7_takeNumbers⟩ ⟨rfl, by decide +kernel, by decide +kernel, by decide +kernel⟩
theorem cdX7_takeEnd : ev_code mX7_takeEnd ∈ ev_TB := ev_in (List.mem_of_getElem? (i := 499) (by decide +kernel)) rfl
theorem imX7_takeEnd : Cond.instanceMethod yX7_takeEnd ∈ ev_TB := ev_in (List.mem_of_getElem? (i := 498) (by decide +kernel)) rfl
theorem seX7_takeEnd : Cond.selects RX7 yX7_takeEnd yX7_takeEnd ∈ ev_TB := ev_in (List.mem_of_getElem? (i := 7) (by decide +kernel)) rfl
theorem kX7_readStick_14 : ev_K mX7_readStick 14 mX7_takeEnd (some RX7) 1 := ev_kV dX7_readStick_14 ⟨ev_in (List.mem_of_getElem? (i := 496) (by decide +kernel)) rfl, imX7_takeEnd, seX7_takeEnd, ini_X7, cdX7_takeEnd⟩ ⟨rfl, by decide +kernel, by decide +kernel, by decide +kernel⟩
theorem cdX3_addStick : ev_code mX3_addStick ∈ ev_TB := ev_in (List.mem_of_getElem? (i := 503) (by decide +kernel)) rfl
theorem imX3_addStick : Cond.instanceMethod yX3_addStick ∈ ev_TB := ev_in (List.mem_of_getElem? (i := 501) (by decide +kernel)) rfl
theorem seX3_addStick : Cond.selects RX3 yX3_addStick yX3_addStick ∈ ev_TB := ev_in (List.mem_of_getElem? (i := 502) (by decide +kernel)) rfl
theorem kX7_readStick_23 : ev_K mX7_readStick 23 mX3_addStick (some RX3) 1 := ev_kV dX7_readStick_23 ⟨ev_in (List.mem_of_getElem? (i := 500) (by decide +kernel)) rfl, imX3_addStick, seX3_addStick, ini_X3, cdX3_addStick⟩ ⟨rfl, by decide +kernel, by decide +kernel, by decide +kernel⟩
theorem flX7_15 : ev_FL RX7 15 7 1 := ⟨(RX7, TX7, 4), rfl, by decide, ev_in (List.mem_of_getElem? (i := 78) (by decide +kernel)) rfl, in_X7, rfl⟩
theorem fpX7_83 : ev_FP RX7 83 9 0 .int false := ⟨(RX9, TX9, 7), tyX9, rfl, by decide, ev_in (List.mem_of_getElem? (i := 218) (by decide +kernel)) rfl, in_X9, rfl, tyX9_ok, nmX9, by decide +kernel, rfl, fun h => by first | rfl | cases h⟩
theorem fpX7_88 : ev_FP RX7 88 9 1 .int false := ⟨(RX9, TX9, 7), tyX9, rfl, by decide, ev_in (List.mem_of_getElem? (i := 222) (by decide +kernel)) rfl, in_X9, rfl, tyX9_ok, nmX9, by decide +kernel, rfl, fun h => by first | rfl | cases h⟩
theorem fpX7_91 : ev_FP RX7 91 9 2 .int false := ⟨(RX9, TX9, 7), tyX9, rfl, by decide, ev_in (List.mem_of_getElem? (i := 225) (by decide +kernel)) rfl, in_X9, rfl, tyX9_ok, nmX9, by decide +kernel, rfl, fun h => by first | rfl | cases h⟩
theorem fpX7_94 : ev_FP RX7 94 9 3 .int false := ⟨(RX9, TX9, 7), tyX9, rfl, by decide, ev_in (List.mem_of_getElem? (i := 228) (by decide +kernel)) rfl, in_X9, rfl, tyX9_ok, nmX9, by decide +kernel, rfl, fun h => by first | rfl | cases h⟩
theorem fpX7_97 : ev_FP RX7 97 9 4 .int false := ⟨(RX9, TX9, 7), tyX9, rfl, by decide, ev_in (List.mem_of_getElem? (i := 232) (by decide +kernel)) rfl, in_X9, rfl, tyX9_ok, nmX9, by decide +kernel, rfl, fun h => by first | rfl | cases h⟩
theorem fpX7_100 : ev_FP RX7 100 9 5 .int false := ⟨(RX9, TX9, 7), tyX9, rfl, by decide, ev_in (List.mem_of_getElem? (i := 238) (by decide +kernel)) rfl, in_X9, rfl, tyX9_ok, nmX9, by decide +kernel, rfl, fun h => by first | rfl | cases h⟩
theorem fpX7_103 : ev_FP RX7 103 9 6 .int false := ⟨(RX9, TX9, 7), tyX9, rfl, by decide, ev_in (List.mem_of_getElem? (i := 243) (by decide +kernel)) rfl, in_X9, rfl, tyX9_ok, nmX9, by decide +kernel, rfl, fun h => by first | rfl | cases h⟩
theorem fwX7_106 : Cond.fieldLink RX7 106 "AlikeArrows$Reader" "BOW_LEASTS" "[I" ∈ ev_TB := ev_in (List.mem_of_getElem? (i := 509) (by decide +kernel)) rfl
theorem fwX7_109 : Cond.fieldLink RX7 109 "AlikeArrows$Reader" "BOW_MOSTS" "[I" ∈ ev_TB := ev_in (List.mem_of_getElem? (i := 511) (by decide +kernel)) rfl
theorem kX7_readBow_7 : ev_K mX7_readBow 7 mX7_takeNumbers (some RX7) 3 := ev_kV dX7_readBow_7 ⟨ev_in (List.mem_of_getElem? (i := 485) (by decide +kernel)) rfl, imX7_takeNumbers, seX7_takeNumbers, ini_X7, cdX7_takeNumbers⟩ ⟨rfl, by decide +kernel, by decide +kernel, by decide +kernel⟩
theorem kX7_readBow_14 : ev_K mX7_readBow 14 mX7_takeEnd (some RX7) 1 := ev_kV dX7_readBow_14 ⟨ev_in (List.mem_of_getElem? (i := 496) (by decide +kernel)) rfl, imX7_takeEnd, seX7_takeEnd, ini_X7, cdX7_takeEnd⟩ ⟨rfl, by decide +kernel, by decide +kernel, by decide +kernel⟩
theorem cdX3_addBow : ev_code mX3_addBow ∈ ev_TB := ev_in (List.mem_of_getElem? (i := 516) (by decide +kernel)) rfl
theorem imX3_addBow : Cond.instanceMethod yX3_addBow ∈ ev_TB := ev_in (List.mem_of_getElem? (i := 514) (by decide +kernel)) rfl
theorem seX3_addBow : Cond.selects RX3 yX3_addBow yX3_addBow ∈ ev_TB := ev_in (List.mem_of_getElem? (i := 515) (by decide +kernel)) rfl
theorem kX7_readBow_23 : ev_K mX7_readBow 23 mX3_addBow (some RX3) 1 := ev_kV dX7_readBow_23 ⟨ev_in (List.mem_of_getElem? (i := 513) (by decide +kernel)) rfl, imX3_addBow, seX3_addBow, ini_X3, cdX3_addBow⟩ ⟨rfl, by decide +kernel, by decide +kernel, by decide +kernel⟩
theorem fpX7_116 : ev_FP RX7 116 1 0 .int false := ⟨(RX1, TX1, 2), tyX1, rfl, by decide, ev_in (List.mem_of_getElem? (i := 293) (by decide +kernel)) rfl, in_X1, rfl, tyX1_ok, nmX1, by decide +kernel, rfl, fun h => by first | rfl | cases h⟩
theorem fpX7_121 : ev_FP RX7 121 1 1 .int false := ⟨(RX1, TX1, 2), tyX1, rfl, by decide, ev_in (List.mem_of_getElem? (i := 296) (by decide +kernel)) rfl, in_X1, rfl, tyX1_ok, nmX1, by decide +kernel, rfl, fun h => by first | rfl | cases h⟩
theorem kX7_readArcher_3 : ev_K mX7_readArcher 3 mX7_takeWord (some RX7) 2 := ev_kV dX7_readArcher_3 ⟨ev_in (List.mem_of_getElem? (i := 424) (by decide +kernel)) rfl, imX7_takeWord, seX7_takeWord, ini_X7, cdX7_takeWord⟩ ⟨rfl, by decide +kernel, by decide +kernel, by decide +kernel⟩
theorem kX7_readArcher_14 : ev_K mX7_readArcher 14 mX7_takeWord (some RX7) 2 := ev_kV dX7_readArcher_14 ⟨ev_in (List.mem_of_getElem? (i := 424) (by decide +kernel)) rfl, imX7_takeWord, seX7_takeWord, ini_X7, cdX7_takeWord⟩ ⟨rfl, by decide +kernel, by decide +kernel, by decide +kernel⟩
theorem fwX7_128 : Cond.fieldLink RX7 128 "AlikeArrows$Reader" "ARCHER_LEASTS" "[I" ∈ ev_TB := ev_in (List.mem_of_getElem? (i := 524) (by decide +kernel)) rfl
theorem fwX7_131 : Cond.fieldLink RX7 131 "AlikeArrows$Reader" "ARCHER_MOSTS" "[I" ∈ ev_TB := ev_in (List.mem_of_getElem? (i := 526) (by decide +kernel)) rfl
theorem kX7_readArcher_29 : ev_K mX7_readArcher 29 mX7_takeNumbers (some RX7) 3 := ev_kV dX7_readArcher_29 ⟨ev_in (List.mem_of_getElem? (i := 485) (by decide +kernel)) rfl, imX7_takeNumbers, seX7_takeNumbers, ini_X7, cdX7_takeNumbers⟩ ⟨rfl, by decide +kernel, by decide +kernel, by decide +kernel⟩
theorem kX7_readArcher_36 : ev_K mX7_readArcher 36 mX7_takeEnd (some RX7) 1 := ev_kV dX7_readArcher_36 ⟨ev_in (List.mem_of_getElem? (i := 496) (by decide +kernel)) rfl, imX7_takeEnd, seX7_takeEnd, ini_X7, cdX7_takeEnd⟩ ⟨rfl, by decide +kernel, by decide +kernel, by decide +kernel⟩
theorem cdX3_addArcher : ev_code mX3_addArcher ∈ ev_TB := ev_in (List.mem_of_getElem? (i := 531) (by decide +kernel)) rfl
theorem imX3_addArcher : Cond.instanceMethod yX3_addArcher ∈ ev_TB := ev_in (List.mem_of_getElem? (i := 529) (by decide +kernel)) rfl
theorem seX3_addArcher : Cond.selects RX3 yX3_addArcher yX3_addArcher ∈ ev_TB := ev_in (List.mem_of_getElem? (i := 530) (by decide +kernel)) rfl
theorem kX7_readArcher_45 : ev_K mX7_readArcher 45 mX3_addArcher (some RX3) 1 := ev_kV dX7_readArcher_45 ⟨ev_in (List.mem_of_getElem? (i := 528) (by decide +kernel)) rfl, imX3_addArcher, seX3_addArcher, ini_X3, cdX3_addArcher⟩ ⟨rfl, by decide +kernel, by decide +kernel, by decide +kernel⟩
theorem fpX7_138 : ev_FP RX7 138 0 0 .int false := ⟨(RX0, TX0, 2), tyX0, rfl, by decide, ev_in (List.mem_of_getElem? (i := 308) (by decide +kernel)) rfl, in_X0, rfl, tyX0_ok, nmX0, by decide +kernel, rfl, fun h => by first | rfl | cases h⟩
theorem fpX7_143 : ev_FP RX7 143 0 1 .int false := ⟨(RX0, TX0, 2), tyX0, rfl, by decide, ev_in (List.mem_of_getElem? (i := 310) (by decide +kernel)) rfl, in_X0, rfl, tyX0_ok, nmX0, by decide +kernel, rfl, fun h => by first | rfl | cases h⟩
theorem cdX7_byteAt : ev_code mX7_byteAt ∈ ev_TB := ev_in (List.mem_of_getElem? (i := 418) (by decide +kernel)) rfl
theorem imX7_byteAt : Cond.instanceMethod yX7_byteAt ∈ ev_TB := ev_in (List.mem_of_getElem? (i := 417) (by decide +kernel)) rfl
theorem seX7_byteAt : Cond.selects RX7 yX7_byteAt yX7_byteAt ∈ ev_TB := ev_in (List.mem_of_getElem? (i := 1) (by decide +kernel)) rfl
theorem kX7_skipBlanks_16 : ev_K mX7_skipBlanks 16 mX7_byteAt (some RX7) 2 := ev_kV dX7_skipBlanks_16 ⟨ev_in (List.mem_of_getElem? (i := 415) (by decide +kernel)) rfl, imX7_byteAt, seX7_byteAt, ini_X7, cdX7_byteAt⟩ ⟨rfl, by decide +kernel, by decide +kernel, by decide +kernel⟩
theorem kX7_takeWord_1 : ev_K mX7_takeWord 1 mX7_skipBlanks (some RX7) 1 := ev_kV dX7_takeWord_1 ⟨ev_in (List.mem_of_getElem? (i := 411) (by decide +kernel)) rfl, imX7_skipBlanks, seX7_skipBlanks, ini_X7, cdX7_skipBlanks⟩ ⟨rfl, by decide +kernel, by decide +kernel, by decide +kernel⟩
theorem cdJ0_length_8abf5 : ev_code mJ0_length_8abf5 ∈ ev_TB := ev_in (List.mem_of_getElem? (i := 431) (by decide +kernel)) rfl
theorem ini_J0 : Cond.initialized RJ0 ∈ ev_TB := ev_in (List.mem_of_getElem? (i := 57) (by decide +kernel)) rfl
theorem imJ0_length_8abf5 : Cond.instanceMethod yJ0_length_8abf5 ∈ ev_TB := ev_in (List.mem_of_getElem? (i := 429) (by decide +kernel)) rfl
theorem seJ0_length_8abf5 : Cond.selects RJ0 yJ0_length_8abf5 yJ0_length_8abf5 ∈ ev_TB := ev_in (List.mem_of_getElem? (i := 430) (by decide +kernel)) rfl
theorem kX7_takeWord_5 : ev_K mX7_takeWord 5 mJ0_length_8abf5 (some RJ0) 1 := ev_kV dX7_takeWord_5 ⟨ev_in (List.mem_of_getElem? (i := 428) (by decide +kernel)) rfl, imJ0_length_8abf5, seJ0_length_8abf5, ini_J0, cdJ0_length_8abf5⟩ ⟨rfl, by decide +kernel, by decide +kernel, by decide +kernel⟩
theorem kX7_takeWord_23 : ev_K mX7_takeWord 23 mX7_byteAt (some RX7) 2 := ev_kV dX7_takeWord_23 ⟨ev_in (List.mem_of_getElem? (i := 415) (by decide +kernel)) rfl, imX7_byteAt, seX7_byteAt, ini_X7, cdX7_byteAt⟩ ⟨rfl, by decide +kernel, by decide +kernel, by decide +kernel⟩
theorem cdJ0_charAt_5068e : ev_code mJ0_charAt_5068e ∈ ev_TB := ev_in (List.mem_of_getElem? (i := 441) (by decide +kernel)) rfl
theorem imJ0_charAt_5068e : Cond.instanceMethod yJ0_charAt_5068e ∈ ev_TB := ev_in (List.mem_of_getElem? (i := 439) (by decide +kernel)) rfl
theorem seJ0_charAt_5068e : Cond.selects RJ0 yJ0_charAt_5068e yJ0_charAt_5068e ∈ ev_TB := ev_in (List.mem_of_getElem? (i := 440) (by decide +kernel)) rfl
theorem kX7_takeWord_28 : ev_K mX7_takeWord 28 mJ0_charAt_5068e (some RJ0) 2 := ev_kV dX7_takeWord_28 ⟨ev_in (List.mem_of_getElem? (i := 438) (by decide +kernel)) rfl, imJ0_charAt_5068e, seJ0_charAt_5068e, ini_J0, cdJ0_charAt_5068e⟩ ⟨rfl, by decide +kernel, by decide +kernel, by decide +kernel⟩
theorem kX7_takeWord_49 : ev_K mX7_takeWord 49 mX7_byteAt (some RX7) 2 := ev_kV dX7_takeWord_49 ⟨ev_in (List.mem_of_getElem? (i := 415) (by decide +kernel)) rfl, imX7_byteAt, seX7_byteAt, ini_X7, cdX7_byteAt⟩ ⟨rfl, by decide +kernel, by decide +kernel, by decide +kernel⟩
theorem kX7_takeWord_56 : ev_K mX7_takeWord 56 mX11_within none 3 := ev_kSN (host := "AlikeArrows") dX7_takeWord_56 (List.mem_filter.mpr ⟨List.mem_of_getElem? (i := 476) (by decide +kernel), rfl⟩) ⟨smX11_within, ini_X11, cdX11_within⟩ ⟨by decide +kernel, by decide +kernel, by decide +kernel⟩
theorem kX7_takeNumbers_24 : ev_K mX7_takeNumbers 24 mX7_skipBlanks (some RX7) 1 := ev_kV dX7_takeNumbers_24 ⟨ev_in (List.mem_of_getElem? (i := 411) (by decide +kernel)) rfl, imX7_skipBlanks, seX7_skipBlanks, ini_X7, cdX7_skipBlanks⟩ ⟨rfl, by decide +kernel, by decide +kernel, by decide +kernel⟩
theorem cdX7_takeNumber : ev_code mX7_takeNumber ∈ ev_TB := ev_in (List.mem_of_getElem? (i := 492) (by decide +kernel)) rfl
theorem imX7_takeNumber : Cond.instanceMethod yX7_takeNumber ∈ ev_TB := ev_in (List.mem_of_getElem? (i := 491) (by decide +kernel)) rfl
theorem seX7_takeNumber : Cond.selects RX7 yX7_takeNumber yX7_takeNumber ∈ ev_TB := ev_in (List.mem_of_getElem? (i := 6) (by decide +kernel)) rfl
theorem kX7_takeNumbers_39 : ev_K mX7_takeNumbers 39 mX7_takeNumber (some RX7) 3 := ev_kV dX7_takeNumbers_39 ⟨ev_in (List.mem_of_getElem? (i := 489) (by decide +kernel)) rfl, imX7_takeNumber, seX7_takeNumber, ini_X7, cdX7_takeNumber⟩ ⟨rfl, by decide +kernel, by decide +kernel, by decide +kernel⟩
theorem kX7_takeNumber_20 : ev_K mX7_takeNumber 20 mX7_byteAt (some RX7) 2 := ev_kV dX7_takeNumber_20 ⟨ev_in (List.mem_of_getElem? (i := 415) (by decide +kernel)) rfl, imX7_byteAt, seX7_byteAt, ini_X7, cdX7_byteAt⟩ ⟨rfl, by decide +kernel, by decide +kernel, by decide +kernel⟩
theorem kX7_takeNumber_27 : ev_K mX7_takeNumber 27 mX11_within none 3 := ev_kSN (host := "AlikeArrows") dX7_takeNumber_27 (List.mem_filter.mpr ⟨List.mem_of_getElem? (i := 476) (by decide +kernel), rfl⟩) ⟨smX11_within, ini_X11, cdX11_within⟩ ⟨by decide +kernel, by decide +kernel, by decide +kernel⟩
theorem kX7_takeNumber_43 : ev_K mX7_takeNumber 43 mX7_byteAt (some RX7) 2 := ev_kV dX7_takeNumber_43 ⟨ev_in (List.mem_of_getElem? (i := 415) (by decide +kernel)) rfl, imX7_byteAt, seX7_byteAt, ini_X7, cdX7_byteAt⟩ ⟨rfl, by decide +kernel, by decide +kernel, by decide +kernel⟩
theorem maX7_167 : Cond.methodLink RX7 167 Lib.Math.min.name ∈ ev_TB ∧ Cond.static Lib.Math.min.name ∈ ev_TB ∧ Cond.initialized "java/lang/Math" ∈ ev_TB ∧ Cond.code Lib.Math.min.name Lib.Math.min.code 2 (some .int) ∈ ev_TB := ⟨ev_in (List.mem_of_getElem? (i := 493) (by decide +kernel)) rfl, sMath_min⟩
theorem kX7_takeNumber_76 : ev_K mX7_takeNumber 76 mX7_byteAt (some RX7) 2 := ev_kV dX7_takeNumber_76 ⟨ev_in (List.mem_of_getElem? (i := 415) (by decide +kernel)) rfl, imX7_byteAt, seX7_byteAt, ini_X7, cdX7_byteAt⟩ ⟨rfl, by decide +kernel, by decide +kernel, by decide +kernel⟩
theorem kX7_takeNumber_108 : ev_K mX7_takeNumber 108 mX11_within none 3 := ev_kSN (host := "AlikeArrows") dX7_takeNumber_108 (List.mem_filter.mpr ⟨List.mem_of_getElem? (i := 476) (by decide +kernel), rfl⟩) ⟨smX11_within, ini_X11, cdX11_within⟩ ⟨by decide +kernel, by decide +kernel, by decide +kernel⟩
theorem kX7_takeEnd_1 : ev_K mX7_takeEnd 1 mX7_skipBlanks (some RX7) 1 := ev_kV dX7_takeEnd_1 ⟨ev_in (List.mem_of_getElem? (i := 411) (by decide +kernel)) rfl, imX7_skipBlanks, seX7_skipBlanks, ini_X7, cdX7_skipBlanks⟩ ⟨rfl, by decide +kernel, by decide +kernel, by decide +kernel⟩
theorem kX7_takeEnd_9 : ev_K mX7_takeEnd 9 mX7_byteAt (some RX7) 2 := ev_kV dX7_takeEnd_9 ⟨ev_in (List.mem_of_getElem? (i := 415) (by decide +kernel)) rfl, imX7_byteAt, seX7_byteAt, ini_X7, cdX7_byteAt⟩ ⟨rfl, by decide +kernel, by decide +kernel, by decide +kernel⟩
theorem obX8_3 : Cond.methodLink RX8 3 objectInit ∈ ev_TB ∧ Cond.instanceMethod objectInit ∈ ev_TB ∧ Cond.code objectInit ⟨#[0xb1]⟩ 1 none ∈ ev_TB := ⟨ev_in (List.mem_of_getElem? (i := 107) (by decide +kernel)) rfl, imOb, cdOb⟩
theorem fpX8_9 : ev_FP RX8 9 8 0 (.array .int) true := ⟨(RX8, TX8, 10), tyX8, rfl, by decide, ev_in (List.mem_of_getElem? (i := 108) (by decide +kernel)) rfl, in_X8, rfl, tyX8_ok, nmX8, by decide +kernel, rfl, fun h => by first | rfl | cases h⟩
theorem fpX8_15 : ev_FP RX8 15 8 1 (.array .int) true := ⟨(RX8, TX8, 10), tyX8, rfl, by decide, ev_in (List.mem_of_getElem? (i := 109) (by decide +kernel)) rfl, in_X8, rfl, tyX8_ok, nmX8, by decide +kernel, rfl, fun h => by first | rfl | cases h⟩
theorem fpX8_18 : ev_FP RX8 18 8 2 (.array .int) true := ⟨(RX8, TX8, 10), tyX8, rfl, by decide, ev_in (List.mem_of_getElem? (i := 110) (by decide +kernel)) rfl, in_X8, rfl, tyX8_ok, nmX8, by decide +kernel, rfl, fun h => by first | rfl | cases h⟩
theorem fpX8_21 : ev_FP RX8 21 8 3 (.array .int) true := ⟨(RX8, TX8, 10), tyX8, rfl, by decide, ev_in (List.mem_of_getElem? (i := 111) (by decide +kernel)) rfl, in_X8, rfl, tyX8_ok, nmX8, by decide +kernel, rfl, fun h => by first | rfl | cases h⟩
theorem fpX8_24 : ev_FP RX8 24 8 4 (.array .int) true := ⟨(RX8, TX8, 10), tyX8, rfl, by decide, ev_in (List.mem_of_getElem? (i := 112) (by decide +kernel)) rfl, in_X8, rfl, tyX8_ok, nmX8, by decide +kernel, rfl, fun h => by first | rfl | cases h⟩
theorem fpX8_27 : ev_FP RX8 27 8 5 (.array .int) true := ⟨(RX8, TX8, 10), tyX8, rfl, by decide, ev_in (List.mem_of_getElem? (i := 113) (by decide +kernel)) rfl, in_X8, rfl, tyX8_ok, nmX8, by decide +kernel, rfl, fun h => by first | rfl | cases h⟩
theorem fpX8_30 : ev_FP RX8 30 8 6 (.array .int) true := ⟨(RX8, TX8, 10), tyX8, rfl, by decide, ev_in (List.mem_of_getElem? (i := 114) (by decide +kernel)) rfl, in_X8, rfl, tyX8_ok, nmX8, by decide +kernel, rfl, fun h => by first | rfl | cases h⟩
theorem flX8_33 : ev_FL RX8 33 8 9 := ⟨(RX8, TX8, 10), rfl, by decide, ev_in (List.mem_of_getElem? (i := 117) (by decide +kernel)) rfl, in_X8, rfl⟩
theorem flX8_9 : ev_FL RX8 9 8 0 := ⟨(RX8, TX8, 10), rfl, by decide, ev_in (List.mem_of_getElem? (i := 108) (by decide +kernel)) rfl, in_X8, rfl⟩
theorem flX8_15 : ev_FL RX8 15 8 1 := ⟨(RX8, TX8, 10), rfl, by decide, ev_in (List.mem_of_getElem? (i := 109) (by decide +kernel)) rfl, in_X8, rfl⟩
theorem flX8_18 : ev_FL RX8 18 8 2 := ⟨(RX8, TX8, 10), rfl, by decide, ev_in (List.mem_of_getElem? (i := 110) (by decide +kernel)) rfl, in_X8, rfl⟩
theorem flX8_21 : ev_FL RX8 21 8 3 := ⟨(RX8, TX8, 10), rfl, by decide, ev_in (List.mem_of_getElem? (i := 111) (by decide +kernel)) rfl, in_X8, rfl⟩
theorem flX8_24 : ev_FL RX8 24 8 4 := ⟨(RX8, TX8, 10), rfl, by decide, ev_in (List.mem_of_getElem? (i := 112) (by decide +kernel)) rfl, in_X8, rfl⟩
theorem fpX8_33 : ev_FP RX8 33 8 9 .int false := ⟨(RX8, TX8, 10), tyX8, rfl, by decide, ev_in (List.mem_of_getElem? (i := 117) (by decide +kernel)) rfl, in_X8, rfl, tyX8_ok, nmX8, by decide +kernel, rfl, fun h => by first | rfl | cases h⟩
theorem coX8_37 : Cond.constant RX8 37 (-1000000) ∈ ev_TB := ev_in (List.mem_of_getElem? (i := 782) (by decide +kernel)) rfl
theorem cdX8_weigh : ev_code mX8_weigh ∈ ev_TB := ev_in (List.mem_of_getElem? (i := 798) (by decide +kernel)) rfl
theorem imX8_weigh : Cond.instanceMethod yX8_weigh ∈ ev_TB := ev_in (List.mem_of_getElem? (i := 797) (by decide +kernel)) rfl
theorem seX8_weigh : Cond.selects RX8 yX8_weigh yX8_weigh ∈ ev_TB := ev_in (List.mem_of_getElem? (i := 13) (by decide +kernel)) rfl
theorem kX8_partedBy_56 : ev_K mX8_partedBy 56 mX8_weigh (some RX8) 2 := ev_kV dX8_partedBy_56 ⟨ev_in (List.mem_of_getElem? (i := 795) (by decide +kernel)) rfl, imX8_weigh, seX8_weigh, ini_X8, cdX8_weigh⟩ ⟨rfl, by decide +kernel, by decide +kernel, by decide +kernel⟩
theorem flX8_42 : ev_FL RX8 42 8 7 := ⟨(RX8, TX8, 10), rfl, by decide, ev_in (List.mem_of_getElem? (i := 115) (by decide +kernel)) rfl, in_X8, rfl⟩
theorem flX8_46 : ev_FL RX8 46 8 8 := ⟨(RX8, TX8, 10), rfl, by decide, ev_in (List.mem_of_getElem? (i := 116) (by decide +kernel)) rfl, in_X8, rfl⟩
theorem cdX8_addUp : ev_code mX8_addUp ∈ ev_TB := ev_in (List.mem_of_getElem? (i := 802) (by decide +kernel)) rfl
theorem imX8_addUp : Cond.instanceMethod yX8_addUp ∈ ev_TB := ev_in (List.mem_of_getElem? (i := 801) (by decide +kernel)) rfl
theorem seX8_addUp : Cond.selects RX8 yX8_addUp yX8_addUp ∈ ev_TB := ev_in (List.mem_of_getElem? (i := 14) (by decide +kernel)) rfl
theorem kX8_weigh_2 : ev_K mX8_weigh 2 mX8_addUp (some RX8) 2 := ev_kV dX8_weigh_2 ⟨ev_in (List.mem_of_getElem? (i := 799) (by decide +kernel)) rfl, imX8_addUp, seX8_addUp, ini_X8, cdX8_addUp⟩ ⟨rfl, by decide +kernel, by decide +kernel, by decide +kernel⟩
theorem fpX8_42 : ev_FP RX8 42 8 7 .long false := ⟨(RX8, TX8, 10), tyX8, rfl, by decide, ev_in (List.mem_of_getElem? (i := 115) (by decide +kernel)) rfl, in_X8, rfl, tyX8_ok, nmX8, by decide +kernel, rfl, fun h => by first | rfl | cases h⟩
theorem fpX8_46 : ev_FP RX8 46 8 8 .long false := ⟨(RX8, TX8, 10), tyX8, rfl, by decide, ev_in (List.mem_of_getElem? (i := 116) (by decide +kernel)) rfl, in_X8, rfl, tyX8_ok, nmX8, by decide +kernel, rfl, fun h => by first | rfl | cases h⟩
theorem flX8_30 : ev_FL RX8 30 8 6 := ⟨(RX8, TX8, 10), rfl, by decide, ev_in (List.mem_of_getElem? (i := 114) (by decide +kernel)) rfl, in_X8, rfl⟩
theorem flX8_27 : ev_FL RX8 27 8 5 := ⟨(RX8, TX8, 10), rfl, by decide, ev_in (List.mem_of_getElem? (i := 113) (by decide +kernel)) rfl, in_X8, rfl⟩
theorem cdX8_addFraction : ev_code mX8_addFraction ∈ ev_TB := ev_in (List.mem_of_getElem? (i := 806) (by decide +kernel)) rfl
theorem imX8_addFraction : Cond.instanceMethod yX8_addFraction ∈ ev_TB := ev_in (List.mem_of_getElem? (i := 805) (by decide +kernel)) rfl
theorem seX8_addFraction : Cond.selects RX8 yX8_addFraction yX8_addFraction ∈ ev_TB := ev_in (List.mem_of_getElem? (i := 15) (by decide +kernel)) rfl
theorem kX8_weigh_58 : ev_K mX8_weigh 58 mX8_addFraction (some RX8) 3 := ev_kV dX8_weigh_58 ⟨ev_in (List.mem_of_getElem? (i := 803) (by decide +kernel)) rfl, imX8_addFraction, seX8_addFraction, ini_X8, cdX8_addFraction⟩ ⟨rfl, by decide +kernel, by decide +kernel, by decide +kernel⟩
theorem cdX8_commonDivisor : ev_code mX8_commonDivisor ∈ ev_TB := ev_in (List.mem_of_getElem? (i := 809) (by decide +kernel)) rfl
theorem smX8_commonDivisor : Cond.static yX8_commonDivisor ∈ ev_TB := ev_in (List.mem_of_getElem? (i := 808) (by decide +kernel)) rfl
theorem kX8_addFraction_5 : ev_K mX8_addFraction 5 mX8_commonDivisor none 2 := ev_kS dX8_addFraction_5 ⟨ev_in (List.mem_of_getElem? (i := 807) (by decide +kernel)) rfl, smX8_commonDivisor, ini_X8, cdX8_commonDivisor⟩ ⟨by decide +kernel, by decide +kernel, by decide +kernel⟩
theorem maX8_60 : Cond.methodLink RX8 60 Lib.Math.min.name ∈ ev_TB ∧ Cond.static Lib.Math.min.name ∈ ev_TB ∧ Cond.initialized "java/lang/Math" ∈ ev_TB ∧ Cond.code Lib.Math.min.name Lib.Math.min.code 2 (some .int) ∈ ev_TB := ⟨ev_in (List.mem_of_getElem? (i := 818) (by decide +kernel)) rfl, sMath_min⟩
theorem sMath_max : Cond.static Lib.Math.max.name ∈ ev_TB ∧ Cond.initialized "java/lang/Math" ∈ ev_TB ∧ Cond.code Lib.Math.max.name Lib.Math.max.code 2 (some .int) ∈ ev_TB := ⟨ev_in (List.mem_of_getElem? (i := 760) (by decide +kernel)) rfl, iniMath, ev_in (List.mem_of_getElem? (i := 761) (by decide +kernel)) rfl⟩
theorem maX8_66 : Cond.methodLink RX8 66 Lib.Math.max.name ∈ ev_TB ∧ Cond.static Lib.Math.max.name ∈ ev_TB ∧ Cond.initialized "java/lang/Math" ∈ ev_TB ∧ Cond.code Lib.Math.max.name Lib.Math.max.code 2 (some .int) ∈ ev_TB := ⟨ev_in (List.mem_of_getElem? (i := 819) (by decide +kernel)) rfl, sMath_max⟩
theorem sMath_absL : Cond.static Lib.MathLoose.abs_long.x ∈ ev_TB ∧ Cond.initialized "java/lang/Math" ∈ ev_TB ∧ Cond.code Lib.MathLoose.abs_long.x Lib.MathLoose.abs_long.code 2 (some .long) ∈ ev_TB := ⟨ev_in (List.mem_of_getElem? (i := 829) (by decide +kernel)) rfl, iniMath, ev_in (List.mem_of_getElem? (i := 830) (by decide +kernel)) rfl⟩
theorem maX8_69 : Cond.methodLink RX8 69 Lib.MathLoose.abs_long.x ∈ ev_TB ∧ Cond.static Lib.MathLoose.abs_long.x ∈ ev_TB ∧ Cond.initialized "java/lang/Math" ∈ ev_TB ∧ Cond.code Lib.MathLoose.abs_long.x Lib.MathLoose.abs_long.code 2 (some .long) ∈ ev_TB := ⟨ev_in (List.mem_of_getElem? (i := 828) (by decide +kernel)) rfl, sMath_absL⟩
theorem coX8_73 : Cond.constantLong RX8 73 (3) ∈ ev_TB := ev_in (List.mem_of_getElem? (i := 831) (by decide +kernel)) rfl
theorem obX9_3 : Cond.methodLink RX9 3 objectInit ∈ ev_TB ∧ Cond.instanceMethod objectInit ∈ ev_TB ∧ Cond.code objectInit ⟨#[0xb1]⟩ 1 none ∈ ev_TB := ⟨ev_in (List.mem_of_getElem? (i := 214) (by decide +kernel)) rfl, imOb, cdOb⟩
theorem flX9_9 : ev_FL RX9 9 9 0 := ⟨(RX9, TX9, 7), rfl, by decide, ev_in (List.mem_of_getElem? (i := 215) (by decide +kernel)) rfl, in_X9, rfl⟩
theorem fpX9_9 : ev_FP RX9 9 9 0 .int false := ⟨(RX9, TX9, 7), tyX9, rfl, by decide, ev_in (List.mem_of_getElem? (i := 215) (by decide +kernel)) rfl, in_X9, rfl, tyX9_ok, nmX9, by decide +kernel, rfl, fun h => by first | rfl | cases h⟩
theorem flX9_15 : ev_FL RX9 15 9 1 := ⟨(RX9, TX9, 7), rfl, by decide, ev_in (List.mem_of_getElem? (i := 219) (by decide +kernel)) rfl, in_X9, rfl⟩
theorem fpX9_15 : ev_FP RX9 15 9 1 .int false := ⟨(RX9, TX9, 7), tyX9, rfl, by decide, ev_in (List.mem_of_getElem? (i := 219) (by decide +kernel)) rfl, in_X9, rfl, tyX9_ok, nmX9, by decide +kernel, rfl, fun h => by first | rfl | cases h⟩
theorem flX9_18 : ev_FL RX9 18 9 2 := ⟨(RX9, TX9, 7), rfl, by decide, ev_in (List.mem_of_getElem? (i := 223) (by decide +kernel)) rfl, in_X9, rfl⟩
theorem fpX9_18 : ev_FP RX9 18 9 2 .int false := ⟨(RX9, TX9, 7), tyX9, rfl, by decide, ev_in (List.mem_of_getElem? (i := 223) (by decide +kernel)) rfl, in_X9, rfl, tyX9_ok, nmX9, by decide +kernel, rfl, fun h => by first | rfl | cases h⟩
theorem flX9_21 : ev_FL RX9 21 9 3 := ⟨(RX9, TX9, 7), rfl, by decide, ev_in (List.mem_of_getElem? (i := 226) (by decide +kernel)) rfl, in_X9, rfl⟩
theorem fpX9_21 : ev_FP RX9 21 9 3 .int false := ⟨(RX9, TX9, 7), tyX9, rfl, by decide, ev_in (List.mem_of_getElem? (i := 226) (by decide +kernel)) rfl, in_X9, rfl, tyX9_ok, nmX9, by decide +kernel, rfl, fun h => by first | rfl | cases h⟩
theorem flX9_24 : ev_FL RX9 24 9 4 := ⟨(RX9, TX9, 7), rfl, by decide, ev_in (List.mem_of_getElem? (i := 229) (by decide +kernel)) rfl, in_X9, rfl⟩
theorem fpX9_24 : ev_FP RX9 24 9 4 .int false := ⟨(RX9, TX9, 7), tyX9, rfl, by decide, ev_in (List.mem_of_getElem? (i := 229) (by decide +kernel)) rfl, in_X9, rfl, tyX9_ok, nmX9, by decide +kernel, rfl, fun h => by first | rfl | cases h⟩
theorem flX9_27 : ev_FL RX9 27 9 5 := ⟨(RX9, TX9, 7), rfl, by decide, ev_in (List.mem_of_getElem? (i := 234) (by decide +kernel)) rfl, in_X9, rfl⟩
theorem fpX9_27 : ev_FP RX9 27 9 5 .int false := ⟨(RX9, TX9, 7), tyX9, rfl, by decide, ev_in (List.mem_of_getElem? (i := 234) (by decide +kernel)) rfl, in_X9, rfl, tyX9_ok, nmX9, by decide +kernel, rfl, fun h => by first | rfl | cases h⟩
theorem flX9_30 : ev_FL RX9 30 9 6 := ⟨(RX9, TX9, 7), rfl, by decide, ev_in (List.mem_of_getElem? (i := 240) (by decide +kernel)) rfl, in_X9, rfl⟩
theorem fpX9_30 : ev_FP RX9 30 9 6 .int false := ⟨(RX9, TX9, 7), tyX9, rfl, by decide, ev_in (List.mem_of_getElem? (i := 240) (by decide +kernel)) rfl, in_X9, rfl, tyX9_ok, nmX9, by decide +kernel, rfl, fun h => by first | rfl | cases h⟩
theorem kX9_spine_5 : ev_K mX9_spine 5 mX9_spineBy (some RX9) 2 := ev_kV dX9_spine_5 ⟨ev_in (List.mem_of_getElem? (i := 666) (by decide +kernel)) rfl, imX9_spineBy, seX9_spineBy, ini_X9, cdX9_spineBy⟩ ⟨rfl, by decide +kernel, by decide +kernel, by decide +kernel⟩
theorem kX9_spineBy_2 : ev_K mX9_spineBy 2 mX9_stiffBy (some RX9) 2 := ev_kV dX9_spineBy_2 ⟨ev_in (List.mem_of_getElem? (i := 670) (by decide +kernel)) rfl, imX9_stiffBy, seX9_stiffBy, ini_X9, cdX9_stiffBy⟩ ⟨rfl, by decide +kernel, by decide +kernel, by decide +kernel⟩
theorem kX9_spineBy_13 : ev_K mX9_spineBy 13 mX11_spineOf none 3 := ev_kSN (host := "AlikeArrows") dX9_spineBy_13 (List.mem_filter.mpr ⟨List.mem_of_getElem? (i := 671) (by decide +kernel), rfl⟩) ⟨smX11_spineOf, ini_X11, cdX11_spineOf⟩ ⟨by decide +kernel, by decide +kernel, by decide +kernel⟩
theorem maX9_44 : Cond.methodLink RX9 44 Lib.Math.min.name ∈ ev_TB ∧ Cond.static Lib.Math.min.name ∈ ev_TB ∧ Cond.initialized "java/lang/Math" ∈ ev_TB ∧ Cond.code Lib.Math.min.name Lib.Math.min.code 2 (some .int) ∈ ev_TB := ⟨ev_in (List.mem_of_getElem? (i := 599) (by decide +kernel)) rfl, sMath_min⟩
theorem obX10_3 : Cond.methodLink RX10 3 objectInit ∈ ev_TB ∧ Cond.instanceMethod objectInit ∈ ev_TB ∧ Cond.code objectInit ⟨#[0xb1]⟩ 1 none ∈ ev_TB := ⟨ev_in (List.mem_of_getElem? (i := 97) (by decide +kernel)) rfl, imOb, cdOb⟩
theorem fpX10_9 : ev_FP RX10 9 10 0 (.array .int) true := ⟨(RX10, TX10, 1), tyX10, rfl, by decide, ev_in (List.mem_of_getElem? (i := 98) (by decide +kernel)) rfl, in_X10, rfl, tyX10_ok, nmX10, by decide +kernel, rfl, fun h => by first | rfl | cases h⟩
theorem coX10_15 : Cond.constant RX10 15 (-1000000) ∈ ev_TB := ev_in (List.mem_of_getElem? (i := 577) (by decide +kernel)) rfl
theorem fwX10_16 : Cond.fieldLink RX10 16 "AlikeArrows$Tunes" "LEASTS" "[I" ∈ ev_TB := ev_in (List.mem_of_getElem? (i := 578) (by decide +kernel)) rfl
theorem fwX10_19 : Cond.fieldLink RX10 19 "AlikeArrows$Tunes" "MOSTS" "[I" ∈ ev_TB := ev_in (List.mem_of_getElem? (i := 580) (by decide +kernel)) rfl
theorem kX10_change_23 : ev_K mX10_change 23 mX11_within none 3 := ev_kSN (host := "AlikeArrows") dX10_change_23 (List.mem_filter.mpr ⟨List.mem_of_getElem? (i := 582) (by decide +kernel), rfl⟩) ⟨smX11_within, ini_X11, cdX11_within⟩ ⟨by decide +kernel, by decide +kernel, by decide +kernel⟩
theorem flX10_9 : ev_FL RX10 9 10 0 := ⟨(RX10, TX10, 1), rfl, by decide, ev_in (List.mem_of_getElem? (i := 98) (by decide +kernel)) rfl, in_X10, rfl⟩
theorem sMath_abs : Cond.static Lib.Math.abs.name ∈ ev_TB ∧ Cond.initialized "java/lang/Math" ∈ ev_TB ∧ Cond.code Lib.Math.abs.name Lib.Math.abs.code 1 (some .int) ∈ ev_TB := ⟨ev_in (List.mem_of_getElem? (i := 647) (by decide +kernel)) rfl, iniMath, ev_in (List.mem_of_getElem? (i := 648) (by decide +kernel)) rfl⟩
theorem maX10_26 : Cond.methodLink RX10 26 Lib.Math.abs.name ∈ ev_TB ∧ Cond.static Lib.Math.abs.name ∈ ev_TB ∧ Cond.initialized "java/lang/Math" ∈ ev_TB ∧ Cond.code Lib.Math.abs.name Lib.Math.abs.code 1 (some .int) ∈ ev_TB := ⟨ev_in (List.mem_of_getElem? (i := 646) (by decide +kernel)) rfl, sMath_abs⟩
theorem kX10_flightOf_2 : ev_K mX10_flightOf 2 mX10_isClean (some RX10) 2 := ev_kV dX10_flightOf_2 ⟨ev_in (List.mem_of_getElem? (i := 680) (by decide +kernel)) rfl, imX10_isClean, seX10_isClean, ini_X10, cdX10_isClean⟩ ⟨rfl, by decide +kernel, by decide +kernel, by decide +kernel⟩
theorem cdX10_flightOf : ev_code mX10_flightOf ∈ ev_TB := ev_in (List.mem_of_getElem? (i := 679) (by decide +kernel)) rfl
theorem imX10_flightOf : Cond.instanceMethod yX10_flightOf ∈ ev_TB := ev_in (List.mem_of_getElem? (i := 677) (by decide +kernel)) rfl
theorem seX10_flightOf : Cond.selects RX10 yX10_flightOf yX10_flightOf ∈ ev_TB := ev_in (List.mem_of_getElem? (i := 678) (by decide +kernel)) rfl
theorem kX10_bareOf_15 : ev_K mX10_bareOf 15 mX10_flightOf (some RX10) 2 := ev_kV dX10_bareOf_15 ⟨ev_in (List.mem_of_getElem? (i := 676) (by decide +kernel)) rfl, imX10_flightOf, seX10_flightOf, ini_X10, cdX10_flightOf⟩ ⟨rfl, by decide +kernel, by decide +kernel, by decide +kernel⟩
theorem cdX10_bareOf : ev_code mX10_bareOf ∈ ev_TB := ev_in (List.mem_of_getElem? (i := 675) (by decide +kernel)) rfl
theorem imX10_bareOf : Cond.instanceMethod yX10_bareOf ∈ ev_TB := ev_in (List.mem_of_getElem? (i := 673) (by decide +kernel)) rfl
theorem seX10_bareOf : Cond.selects RX10 yX10_bareOf yX10_bareOf ∈ ev_TB := ev_in (List.mem_of_getElem? (i := 674) (by decide +kernel)) rfl
theorem kX10_feathered_2 : ev_K mX10_feathered 2 mX10_bareOf (some RX10) 2 := ev_kV dX10_feathered_2 ⟨ev_in (List.mem_of_getElem? (i := 689) (by decide +kernel)) rfl, imX10_bareOf, seX10_bareOf, ini_X10, cdX10_bareOf⟩ ⟨rfl, by decide +kernel, by decide +kernel, by decide +kernel⟩
theorem cdX10_feathered : ev_code mX10_feathered ∈ ev_TB := ev_in (List.mem_of_getElem? (i := 688) (by decide +kernel)) rfl
theorem imX10_feathered : Cond.instanceMethod yX10_feathered ∈ ev_TB := ev_in (List.mem_of_getElem? (i := 686) (by decide +kernel)) rfl
theorem seX10_feathered : Cond.selects RX10 yX10_feathered yX10_feathered ∈ ev_TB := ev_in (List.mem_of_getElem? (i := 687) (by decide +kernel)) rfl
theorem kX10_goesOf_3 : ev_K mX10_goesOf 3 mX10_feathered (some RX10) 3 := ev_kV dX10_goesOf_3 ⟨ev_in (List.mem_of_getElem? (i := 685) (by decide +kernel)) rfl, imX10_feathered, seX10_feathered, ini_X10, cdX10_feathered⟩ ⟨rfl, by decide +kernel, by decide +kernel, by decide +kernel⟩
theorem cdX10_wind : ev_code mX10_wind ∈ ev_TB := ev_in (List.mem_of_getElem? (i := 693) (by decide +kernel)) rfl
theorem imX10_wind : Cond.instanceMethod yX10_wind ∈ ev_TB := ev_in (List.mem_of_getElem? (i := 691) (by decide +kernel)) rfl
theorem seX10_wind : Cond.selects RX10 yX10_wind yX10_wind ∈ ev_TB := ev_in (List.mem_of_getElem? (i := 692) (by decide +kernel)) rfl
theorem kX10_goesOf_7 : ev_K mX10_goesOf 7 mX10_wind (some RX10) 1 := ev_kV dX10_goesOf_7 ⟨ev_in (List.mem_of_getElem? (i := 690) (by decide +kernel)) rfl, imX10_wind, seX10_wind, ini_X10, cdX10_wind⟩ ⟨rfl, by decide +kernel, by decide +kernel, by decide +kernel⟩
theorem kX10_goesOf_15 : ev_K mX10_goesOf 15 mX9_mass (some RX9) 1 := ev_kV dX10_goesOf_15 ⟨ev_in (List.mem_of_getElem? (i := 694) (by decide +kernel)) rfl, imX9_mass, seX9_mass, ini_X9, cdX9_mass⟩ ⟨rfl, by decide +kernel, by decide +kernel, by decide +kernel⟩
theorem kX10_goesOf_18 : ev_K mX10_goesOf 18 mX11_divided none 2 := ev_kSN (host := "AlikeArrows") dX10_goesOf_18 (List.mem_filter.mpr ⟨List.mem_of_getElem? (i := 695) (by decide +kernel), rfl⟩) ⟨smX11_divided, ini_X11, cdX11_divided⟩ ⟨by decide +kernel, by decide +kernel, by decide +kernel⟩
theorem obX11_1 : Cond.methodLink RX11 1 objectInit ∈ ev_TB ∧ Cond.instanceMethod objectInit ∈ ev_TB ∧ Cond.code objectInit ⟨#[0xb1]⟩ 1 none ∈ ev_TB := ⟨ev_in (List.mem_of_getElem? (i := 68) (by decide +kernel)) rfl, imOb, cdOb⟩
theorem nwX11_7 : ev_NW RX11 7 7 [.null, .null, .int 0, .int 0] 4 := ⟨(RX7, TX7, 4), tyX7, rfl, rfl, ev_in (List.mem_of_getElem? (i := 71) (by decide +kernel)) rfl, ev_in (List.mem_of_getElem? (i := 72) (by decide +kernel)) rfl, ini_X7, in_X7, tyX7_ok, fun j hj => by
  match j, hj with
  | 0, _ => exact ⟨rfl, fun _ => rfl⟩
  | 1, _ => exact ⟨rfl, fun _ => rfl⟩
  | 2, _ => exact ⟨rfl, fun _ => rfl⟩
  | 3, _ => exact ⟨rfl, fun _ => rfl⟩
  | j + 4, hj => exact absurd hj (by show ¬ j + 4 < 4; omega)⟩
theorem cdX7_init : ev_code mX7_init ∈ ev_TB := ev_in (List.mem_of_getElem? (i := 75) (by decide +kernel)) rfl
theorem imX7_init : Cond.instanceMethod yX7_init ∈ ev_TB := ev_in (List.mem_of_getElem? (i := 74) (by decide +kernel)) rfl
theorem kX11_init_9 : ev_K mX11_init 9 mX7_init (some RX7) 1 := ev_kIN (host := "AlikeArrows") dX11_init_9 rfl (List.mem_filter.mpr ⟨List.mem_of_getElem? (i := 73) (by decide +kernel), rfl⟩) ⟨imX7_init, ini_X7, cdX7_init⟩ rfl ⟨by decide +kernel, by decide +kernel, by decide +kernel⟩
theorem fpX11_10 : ev_FP RX11 10 11 0 (.object RX7) true := ⟨(RX11, TX11, 11), tyX11, rfl, by decide, ev_in (List.mem_of_getElem? (i := 346) (by decide +kernel)) rfl, in_X11, rfl, tyX11_ok, nmX11, by decide +kernel, rfl, fun h => by first | rfl | cases h⟩
theorem nwX11_16 : ev_NW RX11 16 10 [.null] 1 := ⟨(RX10, TX10, 1), tyX10, rfl, rfl, ev_in (List.mem_of_getElem? (i := 92) (by decide +kernel)) rfl, ev_in (List.mem_of_getElem? (i := 93) (by decide +kernel)) rfl, ini_X10, in_X10, tyX10_ok, fun j hj => by
  match j, hj with
  | 0, _ => exact ⟨rfl, fun _ => rfl⟩
  | j + 1, hj => exact absurd hj (by show ¬ j + 1 < 1; omega)⟩
theorem cdX10_init : ev_code mX10_init ∈ ev_TB := ev_in (List.mem_of_getElem? (i := 96) (by decide +kernel)) rfl
theorem imX10_init : Cond.instanceMethod yX10_init ∈ ev_TB := ev_in (List.mem_of_getElem? (i := 95) (by decide +kernel)) rfl
theorem kX11_init_20 : ev_K mX11_init 20 mX10_init (some RX10) 1 := ev_kIN (host := "AlikeArrows") dX11_init_20 rfl (List.mem_filter.mpr ⟨List.mem_of_getElem? (i := 94) (by decide +kernel), rfl⟩) ⟨imX10_init, ini_X10, cdX10_init⟩ rfl ⟨by decide +kernel, by decide +kernel, by decide +kernel⟩
theorem fpX11_19 : ev_FP RX11 19 11 1 (.object RX10) true := ⟨(RX11, TX11, 11), tyX11, rfl, by decide, ev_in (List.mem_of_getElem? (i := 347) (by decide +kernel)) rfl, in_X11, rfl, tyX11_ok, nmX11, by decide +kernel, rfl, fun h => by first | rfl | cases h⟩
theorem nwX11_23 : ev_NW RX11 23 8 [.null, .null, .null, .null, .null, .null, .null, .long 0, .long 0, .int 0] 10 := ⟨(RX8, TX8, 10), tyX8, rfl, rfl, ev_in (List.mem_of_getElem? (i := 102) (by decide +kernel)) rfl, ev_in (List.mem_of_getElem? (i := 103) (by decide +kernel)) rfl, ini_X8, in_X8, tyX8_ok, fun j hj => by
  match j, hj with
  | 0, _ => exact ⟨rfl, fun _ => rfl⟩
  | 1, _ => exact ⟨rfl, fun _ => rfl⟩
  | 2, _ => exact ⟨rfl, fun _ => rfl⟩
  | 3, _ => exact ⟨rfl, fun _ => rfl⟩
  | 4, _ => exact ⟨rfl, fun _ => rfl⟩
  | 5, _ => exact ⟨rfl, fun _ => rfl⟩
  | 6, _ => exact ⟨rfl, fun _ => rfl⟩
  | 7, _ => exact ⟨rfl, fun _ => rfl⟩
  | 8, _ => exact ⟨rfl, fun _ => rfl⟩
  | 9, _ => exact ⟨rfl, fun _ => rfl⟩
  | j + 10, hj => exact absurd hj (by show ¬ j + 10 < 10; omega)⟩
theorem kX11_init_31 : ev_K mX11_init 31 mX8_init (some RX8) 1 := ev_kIN (host := "AlikeArrows") dX11_init_31 rfl (List.mem_filter.mpr ⟨List.mem_of_getElem? (i := 104) (by decide +kernel), rfl⟩) ⟨imX8_init, ini_X8, cdX8_init⟩ rfl ⟨by decide +kernel, by decide +kernel, by decide +kernel⟩
theorem fpX11_26 : ev_FP RX11 26 11 2 (.object RX8) true := ⟨(RX11, TX11, 11), tyX11, rfl, by decide, ev_in (List.mem_of_getElem? (i := 348) (by decide +kernel)) rfl, in_X11, rfl, tyX11_ok, nmX11, by decide +kernel, rfl, fun h => by first | rfl | cases h⟩
theorem nwX11_30 : ev_NW RX11 30 2 [.null, .null, .null, .int 0, .int 0, .int 0] 6 := ⟨(RX2, TX2, 6), tyX2, rfl, rfl, ev_in (List.mem_of_getElem? (i := 140) (by decide +kernel)) rfl, ev_in (List.mem_of_getElem? (i := 141) (by decide +kernel)) rfl, ini_X2, in_X2, tyX2_ok, fun j hj => by
  match j, hj with
  | 0, _ => exact ⟨rfl, fun _ => rfl⟩
  | 1, _ => exact ⟨rfl, fun _ => rfl⟩
  | 2, _ => exact ⟨rfl, fun _ => rfl⟩
  | 3, _ => exact ⟨rfl, fun _ => rfl⟩
  | 4, _ => exact ⟨rfl, fun _ => rfl⟩
  | 5, _ => exact ⟨rfl, fun _ => rfl⟩
  | j + 6, hj => exact absurd hj (by show ¬ j + 6 < 6; omega)⟩
theorem cdX2_init : ev_code mX2_init ∈ ev_TB := ev_in (List.mem_of_getElem? (i := 144) (by decide +kernel)) rfl
theorem imX2_init : Cond.instanceMethod yX2_init ∈ ev_TB := ev_in (List.mem_of_getElem? (i := 143) (by decide +kernel)) rfl
theorem kX11_init_42 : ev_K mX11_init 42 mX2_init (some RX2) 1 := ev_kIN (host := "AlikeArrows") dX11_init_42 rfl (List.mem_filter.mpr ⟨List.mem_of_getElem? (i := 142) (by decide +kernel), rfl⟩) ⟨imX2_init, ini_X2, cdX2_init⟩ rfl ⟨by decide +kernel, by decide +kernel, by decide +kernel⟩
theorem fpX11_33 : ev_FP RX11 33 11 3 (.object RX2) true := ⟨(RX11, TX11, 11), tyX11, rfl, by decide, ev_in (List.mem_of_getElem? (i := 349) (by decide +kernel)) rfl, in_X11, rfl, tyX11_ok, nmX11, by decide +kernel, rfl, fun h => by first | rfl | cases h⟩
theorem nwX11_37 : ev_NW RX11 37 6 [.int 0, .int 0, .int 0, .int 0, .int 0] 5 := ⟨(RX6, TX6, 5), tyX6, rfl, rfl, ev_in (List.mem_of_getElem? (i := 167) (by decide +kernel)) rfl, ev_in (List.mem_of_getElem? (i := 168) (by decide +kernel)) rfl, ini_X6, in_X6, tyX6_ok, fun j hj => by
  match j, hj with
  | 0, _ => exact ⟨rfl, fun _ => rfl⟩
  | 1, _ => exact ⟨rfl, fun _ => rfl⟩
  | 2, _ => exact ⟨rfl, fun _ => rfl⟩
  | 3, _ => exact ⟨rfl, fun _ => rfl⟩
  | 4, _ => exact ⟨rfl, fun _ => rfl⟩
  | j + 5, hj => exact absurd hj (by show ¬ j + 5 < 5; omega)⟩
theorem cdX6_init : ev_code mX6_init ∈ ev_TB := ev_in (List.mem_of_getElem? (i := 171) (by decide +kernel)) rfl
theorem imX6_init : Cond.instanceMethod yX6_init ∈ ev_TB := ev_in (List.mem_of_getElem? (i := 170) (by decide +kernel)) rfl
theorem kX11_init_53 : ev_K mX11_init 53 mX6_init (some RX6) 1 := ev_kIN (host := "AlikeArrows") dX11_init_53 rfl (List.mem_filter.mpr ⟨List.mem_of_getElem? (i := 169) (by decide +kernel), rfl⟩) ⟨imX6_init, ini_X6, cdX6_init⟩ rfl ⟨by decide +kernel, by decide +kernel, by decide +kernel⟩
theorem fpX11_40 : ev_FP RX11 40 11 4 (.object RX6) true := ⟨(RX11, TX11, 11), tyX11, rfl, by decide, ev_in (List.mem_of_getElem? (i := 350) (by decide +kernel)) rfl, in_X11, rfl, tyX11_ok, nmX11, by decide +kernel, rfl, fun h => by first | rfl | cases h⟩
theorem nwX11_44 : ev_NW RX11 44 5 [.long 0] 1 := ⟨(RX5, TX5, 1), tyX5, rfl, rfl, ev_in (List.mem_of_getElem? (i := 189) (by decide +kernel)) rfl, ev_in (List.mem_of_getElem? (i := 190) (by decide +kernel)) rfl, ini_X5, in_X5, tyX5_ok, fun j hj => by
  match j, hj with
  | 0, _ => exact ⟨rfl, fun _ => rfl⟩
  | j + 1, hj => exact absurd hj (by show ¬ j + 1 < 1; omega)⟩
theorem cdX5_init : ev_code mX5_init ∈ ev_TB := ev_in (List.mem_of_getElem? (i := 193) (by decide +kernel)) rfl
theorem imX5_init : Cond.instanceMethod yX5_init ∈ ev_TB := ev_in (List.mem_of_getElem? (i := 192) (by decide +kernel)) rfl
theorem kX11_init_64 : ev_K mX11_init 64 mX5_init (some RX5) 1 := ev_kIN (host := "AlikeArrows") dX11_init_64 rfl (List.mem_filter.mpr ⟨List.mem_of_getElem? (i := 191) (by decide +kernel), rfl⟩) ⟨imX5_init, ini_X5, cdX5_init⟩ rfl ⟨by decide +kernel, by decide +kernel, by decide +kernel⟩
theorem fpX11_47 : ev_FP RX11 47 11 5 (.object RX5) true := ⟨(RX11, TX11, 11), tyX11, rfl, by decide, ev_in (List.mem_of_getElem? (i := 351) (by decide +kernel)) rfl, in_X11, rfl, tyX11_ok, nmX11, by decide +kernel, rfl, fun h => by first | rfl | cases h⟩
theorem ini_X4 : Cond.initialized RX4 ∈ ev_TB := ev_in (List.mem_of_getElem? (i := 51) (by decide +kernel)) rfl
theorem nwX11_51 : ev_NW RX11 51 4 [.null, .null, .int 0, .int 0] 4 := ⟨(RX4, TX4, 4), tyX4, rfl, rfl, ev_in (List.mem_of_getElem? (i := 200) (by decide +kernel)) rfl, ev_in (List.mem_of_getElem? (i := 201) (by decide +kernel)) rfl, ini_X4, in_X4, tyX4_ok, fun j hj => by
  match j, hj with
  | 0, _ => exact ⟨rfl, fun _ => rfl⟩
  | 1, _ => exact ⟨rfl, fun _ => rfl⟩
  | 2, _ => exact ⟨rfl, fun _ => rfl⟩
  | 3, _ => exact ⟨rfl, fun _ => rfl⟩
  | j + 4, hj => exact absurd hj (by show ¬ j + 4 < 4; omega)⟩
theorem cdX4_init : ev_code mX4_init ∈ ev_TB := ev_in (List.mem_of_getElem? (i := 204) (by decide +kernel)) rfl
theorem imX4_init : Cond.instanceMethod yX4_init ∈ ev_TB := ev_in (List.mem_of_getElem? (i := 203) (by decide +kernel)) rfl
theorem kX11_init_75 : ev_K mX11_init 75 mX4_init (some RX4) 1 := ev_kI dX11_init_75 rfl ⟨ev_in (List.mem_of_getElem? (i := 202) (by decide +kernel)) rfl, imX4_init, ini_X4, cdX4_init⟩ rfl ⟨by decide +kernel, by decide +kernel, by decide +kernel⟩
theorem fpX11_54 : ev_FP RX11 54 11 6 (.object RX4) true := ⟨(RX11, TX11, 11), tyX11, rfl, by decide, ev_in (List.mem_of_getElem? (i := 352) (by decide +kernel)) rfl, in_X11, rfl, tyX11_ok, nmX11, by decide +kernel, rfl, fun h => by first | rfl | cases h⟩
theorem kX11_init_86 : ev_K mX11_init 86 mX4_init (some RX4) 1 := ev_kI dX11_init_86 rfl ⟨ev_in (List.mem_of_getElem? (i := 202) (by decide +kernel)) rfl, imX4_init, ini_X4, cdX4_init⟩ rfl ⟨by decide +kernel, by decide +kernel, by decide +kernel⟩
theorem fpX11_58 : ev_FP RX11 58 11 7 (.object RX4) true := ⟨(RX11, TX11, 11), tyX11, rfl, by decide, ev_in (List.mem_of_getElem? (i := 353) (by decide +kernel)) rfl, in_X11, rfl, tyX11_ok, nmX11, by decide +kernel, rfl, fun h => by first | rfl | cases h⟩
theorem nwX11_61 : ev_NW RX11 61 3 [.null, .null, .null, .int 0, .int 0, .int 0] 6 := ⟨(RX3, TX3, 6), tyX3, rfl, rfl, ev_in (List.mem_of_getElem? (i := 274) (by decide +kernel)) rfl, ev_in (List.mem_of_getElem? (i := 275) (by decide +kernel)) rfl, ini_X3, in_X3, tyX3_ok, fun j hj => by
  match j, hj with
  | 0, _ => exact ⟨rfl, fun _ => rfl⟩
  | 1, _ => exact ⟨rfl, fun _ => rfl⟩
  | 2, _ => exact ⟨rfl, fun _ => rfl⟩
  | 3, _ => exact ⟨rfl, fun _ => rfl⟩
  | 4, _ => exact ⟨rfl, fun _ => rfl⟩
  | 5, _ => exact ⟨rfl, fun _ => rfl⟩
  | j + 6, hj => exact absurd hj (by show ¬ j + 6 < 6; omega)⟩
theorem cdX3_init : ev_code mX3_init ∈ ev_TB := ev_in (List.mem_of_getElem? (i := 278) (by decide +kernel)) rfl
theorem imX3_init : Cond.instanceMethod yX3_init ∈ ev_TB := ev_in (List.mem_of_getElem? (i := 277) (by decide +kernel)) rfl
theorem kX11_init_97 : ev_K mX11_init 97 mX3_init (some RX3) 1 := ev_kI dX11_init_97 rfl ⟨ev_in (List.mem_of_getElem? (i := 276) (by decide +kernel)) rfl, imX3_init, ini_X3, cdX3_init⟩ rfl ⟨by decide +kernel, by decide +kernel, by decide +kernel⟩
theorem fpX11_64 : ev_FP RX11 64 11 8 (.object RX3) false := ⟨(RX11, TX11, 11), tyX11, rfl, by decide, ev_in (List.mem_of_getElem? (i := 354) (by decide +kernel)) rfl, in_X11, rfl, tyX11_ok, nmX11, by decide +kernel, rfl, fun h => by first | rfl | cases h⟩
theorem kX11_init_108 : ev_K mX11_init 108 mX3_init (some RX3) 1 := ev_kI dX11_init_108 rfl ⟨ev_in (List.mem_of_getElem? (i := 276) (by decide +kernel)) rfl, imX3_init, ini_X3, cdX3_init⟩ rfl ⟨by decide +kernel, by decide +kernel, by decide +kernel⟩
theorem fpX11_68 : ev_FP RX11 68 11 9 (.object RX3) false := ⟨(RX11, TX11, 11), tyX11, rfl, by decide, ev_in (List.mem_of_getElem? (i := 355) (by decide +kernel)) rfl, in_X11, rfl, tyX11_ok, nmX11, by decide +kernel, rfl, fun h => by first | rfl | cases h⟩
theorem fpX11_71 : ev_FP RX11 71 11 10 .int false := ⟨(RX11, TX11, 11), tyX11, rfl, by decide, ev_in (List.mem_of_getElem? (i := 356) (by decide +kernel)) rfl, in_X11, rfl, tyX11_ok, nmX11, by decide +kernel, rfl, fun h => by first | rfl | cases h⟩
theorem kX11_type_4 : ev_K mX11_type 4 mX11_within none 3 := ev_kS dX11_type_4 ⟨ev_in (List.mem_of_getElem? (i := 384) (by decide +kernel)) rfl, smX11_within, ini_X11, cdX11_within⟩ ⟨by decide +kernel, by decide +kernel, by decide +kernel⟩
theorem flX11_10 : ev_FL RX11 10 11 0 := ⟨(RX11, TX11, 11), rfl, by decide, ev_in (List.mem_of_getElem? (i := 346) (by decide +kernel)) rfl, in_X11, rfl⟩
theorem flX11_79 : ev_FL RX11 79 7 3 := ⟨(RX7, TX7, 4), rfl, by decide, ev_in (List.mem_of_getElem? (i := 81) (by decide +kernel)) rfl, in_X7, rfl⟩
theorem cdX7_add : ev_code mX7_add ∈ ev_TB := ev_in (List.mem_of_getElem? (i := 390) (by decide +kernel)) rfl
theorem imX7_add : Cond.instanceMethod yX7_add ∈ ev_TB := ev_in (List.mem_of_getElem? (i := 388) (by decide +kernel)) rfl
theorem seX7_add : Cond.selects RX7 yX7_add yX7_add ∈ ev_TB := ev_in (List.mem_of_getElem? (i := 389) (by decide +kernel)) rfl
theorem kX11_type_56 : ev_K mX11_type 56 mX7_add (some RX7) 2 := ev_kV dX11_type_56 ⟨ev_in (List.mem_of_getElem? (i := 387) (by decide +kernel)) rfl, imX7_add, seX7_add, ini_X7, cdX7_add⟩ ⟨rfl, by decide +kernel, by decide +kernel, by decide +kernel⟩
theorem cdX7_empty : ev_code mX7_empty ∈ ev_TB := ev_in (List.mem_of_getElem? (i := 398) (by decide +kernel)) rfl
theorem imX7_empty : Cond.instanceMethod yX7_empty ∈ ev_TB := ev_in (List.mem_of_getElem? (i := 396) (by decide +kernel)) rfl
theorem seX7_empty : Cond.selects RX7 yX7_empty yX7_empty ∈ ev_TB := ev_in (List.mem_of_getElem? (i := 397) (by decide +kernel)) rfl
theorem kX11_clear_4 : ev_K mX11_clear 4 mX7_empty (some RX7) 1 := ev_kV dX11_clear_4 ⟨ev_in (List.mem_of_getElem? (i := 395) (by decide +kernel)) rfl, imX7_empty, seX7_empty, ini_X7, cdX7_empty⟩ ⟨rfl, by decide +kernel, by decide +kernel, by decide +kernel⟩
theorem flX11_68 : ev_FL RX11 68 11 9 := ⟨(RX11, TX11, 11), rfl, by decide, ev_in (List.mem_of_getElem? (i := 355) (by decide +kernel)) rfl, in_X11, rfl⟩
theorem cdX7_readAll : ev_code mX7_readAll ∈ ev_TB := ev_in (List.mem_of_getElem? (i := 406) (by decide +kernel)) rfl
theorem imX7_readAll : Cond.instanceMethod yX7_readAll ∈ ev_TB := ev_in (List.mem_of_getElem? (i := 404) (by decide +kernel)) rfl
theorem seX7_readAll : Cond.selects RX7 yX7_readAll yX7_readAll ∈ ev_TB := ev_in (List.mem_of_getElem? (i := 405) (by decide +kernel)) rfl
theorem kX11_arrows_8 : ev_K mX11_arrows 8 mX7_readAll (some RX7) 2 := ev_kV dX11_arrows_8 ⟨ev_in (List.mem_of_getElem? (i := 403) (by decide +kernel)) rfl, imX7_readAll, seX7_readAll, ini_X7, cdX7_readAll⟩ ⟨rfl, by decide +kernel, by decide +kernel, by decide +kernel⟩
theorem flX11_64 : ev_FL RX11 64 11 8 := ⟨(RX11, TX11, 11), rfl, by decide, ev_in (List.mem_of_getElem? (i := 354) (by decide +kernel)) rfl, in_X11, rfl⟩
theorem kX11_arrows_40 : ev_K mX11_arrows 40 mX7_empty (some RX7) 1 := ev_kV dX11_arrows_40 ⟨ev_in (List.mem_of_getElem? (i := 395) (by decide +kernel)) rfl, imX7_empty, seX7_empty, ini_X7, cdX7_empty⟩ ⟨rfl, by decide +kernel, by decide +kernel, by decide +kernel⟩
theorem flX11_26 : ev_FL RX11 26 11 2 := ⟨(RX11, TX11, 11), rfl, by decide, ev_in (List.mem_of_getElem? (i := 348) (by decide +kernel)) rfl, in_X11, rfl⟩
theorem cdX8_empty : ev_code mX8_empty ∈ ev_TB := ev_in (List.mem_of_getElem? (i := 535) (by decide +kernel)) rfl
theorem imX8_empty : Cond.instanceMethod yX8_empty ∈ ev_TB := ev_in (List.mem_of_getElem? (i := 533) (by decide +kernel)) rfl
theorem seX8_empty : Cond.selects RX8 yX8_empty yX8_empty ∈ ev_TB := ev_in (List.mem_of_getElem? (i := 534) (by decide +kernel)) rfl
theorem kX11_arrows_48 : ev_K mX11_arrows 48 mX8_empty (some RX8) 1 := ev_kV dX11_arrows_48 ⟨ev_in (List.mem_of_getElem? (i := 532) (by decide +kernel)) rfl, imX8_empty, seX8_empty, ini_X8, cdX8_empty⟩ ⟨rfl, by decide +kernel, by decide +kernel, by decide +kernel⟩
theorem flX11_54 : ev_FL RX11 54 11 6 := ⟨(RX11, TX11, 11), rfl, by decide, ev_in (List.mem_of_getElem? (i := 352) (by decide +kernel)) rfl, in_X11, rfl⟩
theorem fpX11_95 : ev_FP RX11 95 4 3 .boolean false := ⟨(RX4, TX4, 4), tyX4, rfl, by decide, ev_in (List.mem_of_getElem? (i := 264) (by decide +kernel)) rfl, in_X4, rfl, tyX4_ok, nmX4, by decide +kernel, rfl, fun h => by first | rfl | cases h⟩
theorem flX11_58 : ev_FL RX11 58 11 7 := ⟨(RX11, TX11, 11), rfl, by decide, ev_in (List.mem_of_getElem? (i := 353) (by decide +kernel)) rfl, in_X11, rfl⟩
theorem cdX3_stickAt : ev_code mX3_stickAt ∈ ev_TB := ev_in (List.mem_of_getElem? (i := 544) (by decide +kernel)) rfl
theorem imX3_stickAt : Cond.instanceMethod yX3_stickAt ∈ ev_TB := ev_in (List.mem_of_getElem? (i := 542) (by decide +kernel)) rfl
theorem seX3_stickAt : Cond.selects RX3 yX3_stickAt yX3_stickAt ∈ ev_TB := ev_in (List.mem_of_getElem? (i := 543) (by decide +kernel)) rfl
theorem kX11_stick_5 : ev_K mX11_stick 5 mX3_stickAt (some RX3) 2 := ev_kV dX11_stick_5 ⟨ev_in (List.mem_of_getElem? (i := 541) (by decide +kernel)) rfl, imX3_stickAt, seX3_stickAt, ini_X3, cdX3_stickAt⟩ ⟨rfl, by decide +kernel, by decide +kernel, by decide +kernel⟩
theorem flX11_103 : ev_FL RX11 103 9 0 := ⟨(RX9, TX9, 7), rfl, by decide, ev_in (List.mem_of_getElem? (i := 217) (by decide +kernel)) rfl, in_X9, rfl⟩
theorem flX11_108 : ev_FL RX11 108 9 1 := ⟨(RX9, TX9, 7), rfl, by decide, ev_in (List.mem_of_getElem? (i := 221) (by decide +kernel)) rfl, in_X9, rfl⟩
theorem flX11_111 : ev_FL RX11 111 9 2 := ⟨(RX9, TX9, 7), rfl, by decide, ev_in (List.mem_of_getElem? (i := 224) (by decide +kernel)) rfl, in_X9, rfl⟩
theorem flX11_114 : ev_FL RX11 114 9 3 := ⟨(RX9, TX9, 7), rfl, by decide, ev_in (List.mem_of_getElem? (i := 227) (by decide +kernel)) rfl, in_X9, rfl⟩
theorem flX11_117 : ev_FL RX11 117 9 4 := ⟨(RX9, TX9, 7), rfl, by decide, ev_in (List.mem_of_getElem? (i := 231) (by decide +kernel)) rfl, in_X9, rfl⟩
theorem flX11_120 : ev_FL RX11 120 9 5 := ⟨(RX9, TX9, 7), rfl, by decide, ev_in (List.mem_of_getElem? (i := 237) (by decide +kernel)) rfl, in_X9, rfl⟩
theorem flX11_123 : ev_FL RX11 123 9 6 := ⟨(RX9, TX9, 7), rfl, by decide, ev_in (List.mem_of_getElem? (i := 242) (by decide +kernel)) rfl, in_X9, rfl⟩
theorem cdX3_bowAt : ev_code mX3_bowAt ∈ ev_TB := ev_in (List.mem_of_getElem? (i := 552) (by decide +kernel)) rfl
theorem imX3_bowAt : Cond.instanceMethod yX3_bowAt ∈ ev_TB := ev_in (List.mem_of_getElem? (i := 550) (by decide +kernel)) rfl
theorem seX3_bowAt : Cond.selects RX3 yX3_bowAt yX3_bowAt ∈ ev_TB := ev_in (List.mem_of_getElem? (i := 551) (by decide +kernel)) rfl
theorem kX11_bow_5 : ev_K mX11_bow 5 mX3_bowAt (some RX3) 2 := ev_kV dX11_bow_5 ⟨ev_in (List.mem_of_getElem? (i := 549) (by decide +kernel)) rfl, imX3_bowAt, seX3_bowAt, ini_X3, cdX3_bowAt⟩ ⟨rfl, by decide +kernel, by decide +kernel, by decide +kernel⟩
theorem flX11_130 : ev_FL RX11 130 1 0 := ⟨(RX1, TX1, 2), rfl, by decide, ev_in (List.mem_of_getElem? (i := 292) (by decide +kernel)) rfl, in_X1, rfl⟩
theorem flX11_135 : ev_FL RX11 135 1 1 := ⟨(RX1, TX1, 2), rfl, by decide, ev_in (List.mem_of_getElem? (i := 295) (by decide +kernel)) rfl, in_X1, rfl⟩
theorem kX11_bow_55 : ev_K mX11_bow 55 mX1_need (some RX1) 1 := ev_kV dX11_bow_55 ⟨ev_in (List.mem_of_getElem? (i := 553) (by decide +kernel)) rfl, imX1_need, seX1_need, ini_X1, cdX1_need⟩ ⟨rfl, by decide +kernel, by decide +kernel, by decide +kernel⟩
theorem cdX3_archerAt : ev_code mX3_archerAt ∈ ev_TB := ev_in (List.mem_of_getElem? (i := 567) (by decide +kernel)) rfl
theorem imX3_archerAt : Cond.instanceMethod yX3_archerAt ∈ ev_TB := ev_in (List.mem_of_getElem? (i := 565) (by decide +kernel)) rfl
theorem seX3_archerAt : Cond.selects RX3 yX3_archerAt yX3_archerAt ∈ ev_TB := ev_in (List.mem_of_getElem? (i := 566) (by decide +kernel)) rfl
theorem kX11_archer_5 : ev_K mX11_archer 5 mX3_archerAt (some RX3) 2 := ev_kV dX11_archer_5 ⟨ev_in (List.mem_of_getElem? (i := 564) (by decide +kernel)) rfl, imX3_archerAt, seX3_archerAt, ini_X3, cdX3_archerAt⟩ ⟨rfl, by decide +kernel, by decide +kernel, by decide +kernel⟩
theorem coX11_145 : Cond.constant RX11 145 (-1000000) ∈ ev_TB := ev_in (List.mem_of_getElem? (i := 568) (by decide +kernel)) rfl
theorem flX11_146 : ev_FL RX11 146 0 0 := ⟨(RX0, TX0, 2), rfl, by decide, ev_in (List.mem_of_getElem? (i := 307) (by decide +kernel)) rfl, in_X0, rfl⟩
theorem flX11_151 : ev_FL RX11 151 0 1 := ⟨(RX0, TX0, 2), rfl, by decide, ev_in (List.mem_of_getElem? (i := 309) (by decide +kernel)) rfl, in_X0, rfl⟩
theorem flX11_19 : ev_FL RX11 19 11 1 := ⟨(RX11, TX11, 11), rfl, by decide, ev_in (List.mem_of_getElem? (i := 347) (by decide +kernel)) rfl, in_X11, rfl⟩
theorem cdX10_change : ev_code mX10_change ∈ ev_TB := ev_in (List.mem_of_getElem? (i := 576) (by decide +kernel)) rfl
theorem imX10_change : Cond.instanceMethod yX10_change ∈ ev_TB := ev_in (List.mem_of_getElem? (i := 574) (by decide +kernel)) rfl
theorem seX10_change : Cond.selects RX10 yX10_change yX10_change ∈ ev_TB := ev_in (List.mem_of_getElem? (i := 575) (by decide +kernel)) rfl
theorem kX11_tune_6 : ev_K mX11_tune 6 mX10_change (some RX10) 3 := ev_kV dX11_tune_6 ⟨ev_in (List.mem_of_getElem? (i := 573) (by decide +kernel)) rfl, imX10_change, seX10_change, ini_X10, cdX10_change⟩ ⟨rfl, by decide +kernel, by decide +kernel, by decide +kernel⟩
theorem kX11_cut_5 : ev_K mX11_cut 5 mX3_stickAt (some RX3) 2 := ev_kV dX11_cut_5 ⟨ev_in (List.mem_of_getElem? (i := 541) (by decide +kernel)) rfl, imX3_stickAt, seX3_stickAt, ini_X3, cdX3_stickAt⟩ ⟨rfl, by decide +kernel, by decide +kernel, by decide +kernel⟩
theorem kX11_cut_16 : ev_K mX11_cut 16 mX9_mostCuts (some RX9) 1 := ev_kV dX11_cut_16 ⟨ev_in (List.mem_of_getElem? (i := 587) (by decide +kernel)) rfl, imX9_mostCuts, seX9_mostCuts, ini_X9, cdX9_mostCuts⟩ ⟨rfl, by decide +kernel, by decide +kernel, by decide +kernel⟩
theorem fpX11_103 : ev_FP RX11 103 9 0 .int false := ⟨(RX9, TX9, 7), tyX9, rfl, by decide, ev_in (List.mem_of_getElem? (i := 217) (by decide +kernel)) rfl, in_X9, rfl, tyX9_ok, nmX9, by decide +kernel, rfl, fun h => by first | rfl | cases h⟩
theorem kX11_scrape_5 : ev_K mX11_scrape 5 mX3_stickAt (some RX3) 2 := ev_kV dX11_scrape_5 ⟨ev_in (List.mem_of_getElem? (i := 541) (by decide +kernel)) rfl, imX3_stickAt, seX3_stickAt, ini_X3, cdX3_stickAt⟩ ⟨rfl, by decide +kernel, by decide +kernel, by decide +kernel⟩
theorem kX11_scrape_16 : ev_K mX11_scrape 16 mX9_mostScrapes (some RX9) 1 := ev_kV dX11_scrape_16 ⟨ev_in (List.mem_of_getElem? (i := 595) (by decide +kernel)) rfl, imX9_mostScrapes, seX9_mostScrapes, ini_X9, cdX9_mostScrapes⟩ ⟨rfl, by decide +kernel, by decide +kernel, by decide +kernel⟩
theorem fpX11_111 : ev_FP RX11 111 9 2 .int false := ⟨(RX9, TX9, 7), tyX9, rfl, by decide, ev_in (List.mem_of_getElem? (i := 224) (by decide +kernel)) rfl, in_X9, rfl, tyX9_ok, nmX9, by decide +kernel, rfl, fun h => by first | rfl | cases h⟩
theorem fpX11_114 : ev_FP RX11 114 9 3 .int false := ⟨(RX9, TX9, 7), tyX9, rfl, by decide, ev_in (List.mem_of_getElem? (i := 227) (by decide +kernel)) rfl, in_X9, rfl, tyX9_ok, nmX9, by decide +kernel, rfl, fun h => by first | rfl | cases h⟩
theorem fpX11_108 : ev_FP RX11 108 9 1 .int false := ⟨(RX9, TX9, 7), tyX9, rfl, by decide, ev_in (List.mem_of_getElem? (i := 221) (by decide +kernel)) rfl, in_X9, rfl, tyX9_ok, nmX9, by decide +kernel, rfl, fun h => by first | rfl | cases h⟩
theorem kX11_load_5 : ev_K mX11_load 5 mX3_stickAt (some RX3) 2 := ev_kV dX11_load_5 ⟨ev_in (List.mem_of_getElem? (i := 541) (by decide +kernel)) rfl, imX3_stickAt, seX3_stickAt, ini_X3, cdX3_stickAt⟩ ⟨rfl, by decide +kernel, by decide +kernel, by decide +kernel⟩
theorem kX11_load_16 : ev_K mX11_load 16 mX9_mostLoads (some RX9) 1 := ev_kV dX11_load_16 ⟨ev_in (List.mem_of_getElem? (i := 604) (by decide +kernel)) rfl, imX9_mostLoads, seX9_mostLoads, ini_X9, cdX9_mostLoads⟩ ⟨rfl, by decide +kernel, by decide +kernel, by decide +kernel⟩
theorem fpX11_117 : ev_FP RX11 117 9 4 .int false := ⟨(RX9, TX9, 7), tyX9, rfl, by decide, ev_in (List.mem_of_getElem? (i := 231) (by decide +kernel)) rfl, in_X9, rfl, tyX9_ok, nmX9, by decide +kernel, rfl, fun h => by first | rfl | cases h⟩
theorem kX11_turn_5 : ev_K mX11_turn 5 mX3_stickAt (some RX3) 2 := ev_kV dX11_turn_5 ⟨ev_in (List.mem_of_getElem? (i := 541) (by decide +kernel)) rfl, imX3_stickAt, seX3_stickAt, ini_X3, cdX3_stickAt⟩ ⟨rfl, by decide +kernel, by decide +kernel, by decide +kernel⟩
theorem fpX11_123 : ev_FP RX11 123 9 6 .int false := ⟨(RX9, TX9, 7), tyX9, rfl, by decide, ev_in (List.mem_of_getElem? (i := 242) (by decide +kernel)) rfl, in_X9, rfl, tyX9_ok, nmX9, by decide +kernel, rfl, fun h => by first | rfl | cases h⟩
theorem kX11_least_5 : ev_K mX11_least 5 mX3_stickAt (some RX3) 2 := ev_kV dX11_least_5 ⟨ev_in (List.mem_of_getElem? (i := 541) (by decide +kernel)) rfl, imX3_stickAt, seX3_stickAt, ini_X3, cdX3_stickAt⟩ ⟨rfl, by decide +kernel, by decide +kernel, by decide +kernel⟩
theorem kX11_least_15 : ev_K mX11_least 15 mX3_bowAt (some RX3) 2 := ev_kV dX11_least_15 ⟨ev_in (List.mem_of_getElem? (i := 549) (by decide +kernel)) rfl, imX3_bowAt, seX3_bowAt, ini_X3, cdX3_bowAt⟩ ⟨rfl, by decide +kernel, by decide +kernel, by decide +kernel⟩
theorem kX11_least_34 : ev_K mX11_least 34 mX11_within none 3 := ev_kS dX11_least_34 ⟨ev_in (List.mem_of_getElem? (i := 384) (by decide +kernel)) rfl, smX11_within, ini_X11, cdX11_within⟩ ⟨by decide +kernel, by decide +kernel, by decide +kernel⟩
theorem flX11_40 : ev_FL RX11 40 11 4 := ⟨(RX11, TX11, 11), rfl, by decide, ev_in (List.mem_of_getElem? (i := 350) (by decide +kernel)) rfl, in_X11, rfl⟩
theorem kX11_least_73 : ev_K mX11_least 73 mX1_need (some RX1) 1 := ev_kV dX11_least_73 ⟨ev_in (List.mem_of_getElem? (i := 553) (by decide +kernel)) rfl, imX1_need, seX1_need, ini_X1, cdX1_need⟩ ⟨rfl, by decide +kernel, by decide +kernel, by decide +kernel⟩
theorem cdX6_find : ev_code mX6_find ∈ ev_TB := ev_in (List.mem_of_getElem? (i := 619) (by decide +kernel)) rfl
theorem imX6_find : Cond.instanceMethod yX6_find ∈ ev_TB := ev_in (List.mem_of_getElem? (i := 617) (by decide +kernel)) rfl
theorem seX6_find : Cond.selects RX6 yX6_find yX6_find ∈ ev_TB := ev_in (List.mem_of_getElem? (i := 618) (by decide +kernel)) rfl
theorem kX11_least_83 : ev_K mX11_least 83 mX6_find (some RX6) 6 := ev_kV dX11_least_83 ⟨ev_in (List.mem_of_getElem? (i := 616) (by decide +kernel)) rfl, imX6_find, seX6_find, ini_X6, cdX6_find⟩ ⟨rfl, by decide +kernel, by decide +kernel, by decide +kernel⟩
theorem cdX6_tell : ev_code mX6_tell ∈ ev_TB := ev_in (List.mem_of_getElem? (i := 657) (by decide +kernel)) rfl
theorem imX6_tell : Cond.instanceMethod yX6_tell ∈ ev_TB := ev_in (List.mem_of_getElem? (i := 655) (by decide +kernel)) rfl
theorem seX6_tell : Cond.selects RX6 yX6_tell yX6_tell ∈ ev_TB := ev_in (List.mem_of_getElem? (i := 656) (by decide +kernel)) rfl
theorem kX11_least_92 : ev_K mX11_least 92 mX6_tell (some RX6) 2 := ev_kV dX11_least_92 ⟨ev_in (List.mem_of_getElem? (i := 654) (by decide +kernel)) rfl, imX6_tell, seX6_tell, ini_X6, cdX6_tell⟩ ⟨rfl, by decide +kernel, by decide +kernel, by decide +kernel⟩
theorem kX11_flight_5 : ev_K mX11_flight 5 mX3_stickAt (some RX3) 2 := ev_kV dX11_flight_5 ⟨ev_in (List.mem_of_getElem? (i := 541) (by decide +kernel)) rfl, imX3_stickAt, seX3_stickAt, ini_X3, cdX3_stickAt⟩ ⟨rfl, by decide +kernel, by decide +kernel, by decide +kernel⟩
theorem kX11_flight_15 : ev_K mX11_flight 15 mX3_bowAt (some RX3) 2 := ev_kV dX11_flight_15 ⟨ev_in (List.mem_of_getElem? (i := 549) (by decide +kernel)) rfl, imX3_bowAt, seX3_bowAt, ini_X3, cdX3_bowAt⟩ ⟨rfl, by decide +kernel, by decide +kernel, by decide +kernel⟩
theorem kX11_flight_35 : ev_K mX11_flight 35 mX9_spine (some RX9) 1 := ev_kV dX11_flight_35 ⟨ev_in (List.mem_of_getElem? (i := 662) (by decide +kernel)) rfl, imX9_spine, seX9_spine, ini_X9, cdX9_spine⟩ ⟨rfl, by decide +kernel, by decide +kernel, by decide +kernel⟩
theorem kX11_flight_40 : ev_K mX11_flight 40 mX1_need (some RX1) 1 := ev_kV dX11_flight_40 ⟨ev_in (List.mem_of_getElem? (i := 553) (by decide +kernel)) rfl, imX1_need, seX1_need, ini_X1, cdX1_need⟩ ⟨rfl, by decide +kernel, by decide +kernel, by decide +kernel⟩
theorem kX11_flight_86 : ev_K mX11_flight 86 mX9_spine (some RX9) 1 := ev_kV dX11_flight_86 ⟨ev_in (List.mem_of_getElem? (i := 662) (by decide +kernel)) rfl, imX9_spine, seX9_spine, ini_X9, cdX9_spine⟩ ⟨rfl, by decide +kernel, by decide +kernel, by decide +kernel⟩
theorem kX11_flight_99 : ev_K mX11_flight 99 mX10_bareOf (some RX10) 2 := ev_kV dX11_flight_99 ⟨ev_in (List.mem_of_getElem? (i := 672) (by decide +kernel)) rfl, imX10_bareOf, seX10_bareOf, ini_X10, cdX10_bareOf⟩ ⟨rfl, by decide +kernel, by decide +kernel, by decide +kernel⟩
theorem kX11_flight_116 : ev_K mX11_flight 116 mX10_goesOf (some RX10) 4 := ev_kV dX11_flight_116 ⟨ev_in (List.mem_of_getElem? (i := 681) (by decide +kernel)) rfl, imX10_goesOf, seX10_goesOf, ini_X10, cdX10_goesOf⟩ ⟨rfl, by decide +kernel, by decide +kernel, by decide +kernel⟩
theorem kX11_flight_129 : ev_K mX11_flight 129 mX1_dropOf (some RX1) 3 := ev_kV dX11_flight_129 ⟨ev_in (List.mem_of_getElem? (i := 696) (by decide +kernel)) rfl, imX1_dropOf, seX1_dropOf, ini_X1, cdX1_dropOf⟩ ⟨rfl, by decide +kernel, by decide +kernel, by decide +kernel⟩
theorem kX11_flight_139 : ev_K mX11_flight 139 mX10_flightOf (some RX10) 2 := ev_kV dX11_flight_139 ⟨ev_in (List.mem_of_getElem? (i := 702) (by decide +kernel)) rfl, imX10_flightOf, seX10_flightOf, ini_X10, cdX10_flightOf⟩ ⟨rfl, by decide +kernel, by decide +kernel, by decide +kernel⟩
theorem kX11_band_5 : ev_K mX11_band 5 mX3_bowAt (some RX3) 2 := ev_kV dX11_band_5 ⟨ev_in (List.mem_of_getElem? (i := 549) (by decide +kernel)) rfl, imX3_bowAt, seX3_bowAt, ini_X3, cdX3_bowAt⟩ ⟨rfl, by decide +kernel, by decide +kernel, by decide +kernel⟩
theorem kX11_band_21 : ev_K mX11_band 21 mX11_within none 3 := ev_kS dX11_band_21 ⟨ev_in (List.mem_of_getElem? (i := 384) (by decide +kernel)) rfl, smX11_within, ini_X11, cdX11_within⟩ ⟨by decide +kernel, by decide +kernel, by decide +kernel⟩
theorem kX11_band_34 : ev_K mX11_band 34 mX11_within none 3 := ev_kS dX11_band_34 ⟨ev_in (List.mem_of_getElem? (i := 384) (by decide +kernel)) rfl, smX11_within, ini_X11, cdX11_within⟩ ⟨by decide +kernel, by decide +kernel, by decide +kernel⟩
theorem kX11_band_44 : ev_K mX11_band 44 mX11_within none 3 := ev_kS dX11_band_44 ⟨ev_in (List.mem_of_getElem? (i := 384) (by decide +kernel)) rfl, smX11_within, ini_X11, cdX11_within⟩ ⟨by decide +kernel, by decide +kernel, by decide +kernel⟩
theorem kX11_band_75 : ev_K mX11_band 75 mX11_spineOf none 3 := ev_kS dX11_band_75 ⟨ev_in (List.mem_of_getElem? (i := 707) (by decide +kernel)) rfl, smX11_spineOf, ini_X11, cdX11_spineOf⟩ ⟨by decide +kernel, by decide +kernel, by decide +kernel⟩
theorem kX11_band_80 : ev_K mX11_band 80 mX1_need (some RX1) 1 := ev_kV dX11_band_80 ⟨ev_in (List.mem_of_getElem? (i := 553) (by decide +kernel)) rfl, imX1_need, seX1_need, ini_X1, cdX1_need⟩ ⟨rfl, by decide +kernel, by decide +kernel, by decide +kernel⟩
theorem kX11_band_84 : ev_K mX11_band 84 mX10_isClean (some RX10) 2 := ev_kV dX11_band_84 ⟨ev_in (List.mem_of_getElem? (i := 708) (by decide +kernel)) rfl, imX10_isClean, seX10_isClean, ini_X10, cdX10_isClean⟩ ⟨rfl, by decide +kernel, by decide +kernel, by decide +kernel⟩
theorem kX11_says_7 : ev_K mX11_says 7 mX11_within none 3 := ev_kS dX11_says_7 ⟨ev_in (List.mem_of_getElem? (i := 384) (by decide +kernel)) rfl, smX11_within, ini_X11, cdX11_within⟩ ⟨by decide +kernel, by decide +kernel, by decide +kernel⟩
theorem kX11_says_17 : ev_K mX11_says 17 mX11_within none 3 := ev_kS dX11_says_17 ⟨ev_in (List.mem_of_getElem? (i := 384) (by decide +kernel)) rfl, smX11_within, ini_X11, cdX11_within⟩ ⟨by decide +kernel, by decide +kernel, by decide +kernel⟩
theorem kX11_says_26 : ev_K mX11_says 26 mX11_within none 3 := ev_kS dX11_says_26 ⟨ev_in (List.mem_of_getElem? (i := 384) (by decide +kernel)) rfl, smX11_within, ini_X11, cdX11_within⟩ ⟨by decide +kernel, by decide +kernel, by decide +kernel⟩
theorem kX11_says_57 : ev_K mX11_says 57 mX10_feathered (some RX10) 3 := ev_kV dX11_says_57 ⟨ev_in (List.mem_of_getElem? (i := 713) (by decide +kernel)) rfl, imX10_feathered, seX10_feathered, ini_X10, cdX10_feathered⟩ ⟨rfl, by decide +kernel, by decide +kernel, by decide +kernel⟩
theorem kX11_says_66 : ev_K mX11_says 66 mX10_bareOf (some RX10) 2 := ev_kV dX11_says_66 ⟨ev_in (List.mem_of_getElem? (i := 672) (by decide +kernel)) rfl, imX10_bareOf, seX10_bareOf, ini_X10, cdX10_bareOf⟩ ⟨rfl, by decide +kernel, by decide +kernel, by decide +kernel⟩
theorem kX11_alike_5 : ev_K mX11_alike 5 mX3_bowAt (some RX3) 2 := ev_kV dX11_alike_5 ⟨ev_in (List.mem_of_getElem? (i := 549) (by decide +kernel)) rfl, imX3_bowAt, seX3_bowAt, ini_X3, cdX3_bowAt⟩ ⟨rfl, by decide +kernel, by decide +kernel, by decide +kernel⟩
theorem kX11_alike_20 : ev_K mX11_alike 20 mX11_within none 3 := ev_kS dX11_alike_20 ⟨ev_in (List.mem_of_getElem? (i := 384) (by decide +kernel)) rfl, smX11_within, ini_X11, cdX11_within⟩ ⟨by decide +kernel, by decide +kernel, by decide +kernel⟩
theorem kX11_alike_31 : ev_K mX11_alike 31 mX11_within none 3 := ev_kS dX11_alike_31 ⟨ev_in (List.mem_of_getElem? (i := 384) (by decide +kernel)) rfl, smX11_within, ini_X11, cdX11_within⟩ ⟨by decide +kernel, by decide +kernel, by decide +kernel⟩
theorem kX11_alike_41 : ev_K mX11_alike 41 mX11_within none 3 := ev_kS dX11_alike_41 ⟨ev_in (List.mem_of_getElem? (i := 384) (by decide +kernel)) rfl, smX11_within, ini_X11, cdX11_within⟩ ⟨by decide +kernel, by decide +kernel, by decide +kernel⟩
theorem flX11_33 : ev_FL RX11 33 11 3 := ⟨(RX11, TX11, 11), rfl, by decide, ev_in (List.mem_of_getElem? (i := 349) (by decide +kernel)) rfl, in_X11, rfl⟩
theorem cdX2_gather : ev_code mX2_gather ∈ ev_TB := ev_in (List.mem_of_getElem? (i := 721) (by decide +kernel)) rfl
theorem imX2_gather : Cond.instanceMethod yX2_gather ∈ ev_TB := ev_in (List.mem_of_getElem? (i := 719) (by decide +kernel)) rfl
theorem seX2_gather : Cond.selects RX2 yX2_gather yX2_gather ∈ ev_TB := ev_in (List.mem_of_getElem? (i := 720) (by decide +kernel)) rfl
theorem kX11_alike_64 : ev_K mX11_alike 64 mX2_gather (some RX2) 5 := ev_kV dX11_alike_64 ⟨ev_in (List.mem_of_getElem? (i := 718) (by decide +kernel)) rfl, imX2_gather, seX2_gather, ini_X2, cdX2_gather⟩ ⟨rfl, by decide +kernel, by decide +kernel, by decide +kernel⟩
theorem cdX2_find : ev_code mX2_find ∈ ev_TB := ev_in (List.mem_of_getElem? (i := 729) (by decide +kernel)) rfl
theorem imX2_find : Cond.instanceMethod yX2_find ∈ ev_TB := ev_in (List.mem_of_getElem? (i := 727) (by decide +kernel)) rfl
theorem seX2_find : Cond.selects RX2 yX2_find yX2_find ∈ ev_TB := ev_in (List.mem_of_getElem? (i := 728) (by decide +kernel)) rfl
theorem kX11_alike_73 : ev_K mX11_alike 73 mX2_find (some RX2) 3 := ev_kV dX11_alike_73 ⟨ev_in (List.mem_of_getElem? (i := 726) (by decide +kernel)) rfl, imX2_find, seX2_find, ini_X2, cdX2_find⟩ ⟨rfl, by decide +kernel, by decide +kernel, by decide +kernel⟩
theorem flX11_210 : ev_FL RX11 210 2 4 := ⟨(RX2, TX2, 6), rfl, by decide, ev_in (List.mem_of_getElem? (i := 151) (by decide +kernel)) rfl, in_X2, rfl⟩
theorem flX11_213 : ev_FL RX11 213 2 5 := ⟨(RX2, TX2, 6), rfl, by decide, ev_in (List.mem_of_getElem? (i := 153) (by decide +kernel)) rfl, in_X2, rfl⟩
theorem kX11_turned_5 : ev_K mX11_turned 5 mX3_bowAt (some RX3) 2 := ev_kV dX11_turned_5 ⟨ev_in (List.mem_of_getElem? (i := 549) (by decide +kernel)) rfl, imX3_bowAt, seX3_bowAt, ini_X3, cdX3_bowAt⟩ ⟨rfl, by decide +kernel, by decide +kernel, by decide +kernel⟩
theorem kX11_turned_20 : ev_K mX11_turned 20 mX11_within none 3 := ev_kS dX11_turned_20 ⟨ev_in (List.mem_of_getElem? (i := 384) (by decide +kernel)) rfl, smX11_within, ini_X11, cdX11_within⟩ ⟨by decide +kernel, by decide +kernel, by decide +kernel⟩
theorem kX11_turned_31 : ev_K mX11_turned 31 mX11_within none 3 := ev_kS dX11_turned_31 ⟨ev_in (List.mem_of_getElem? (i := 384) (by decide +kernel)) rfl, smX11_within, ini_X11, cdX11_within⟩ ⟨by decide +kernel, by decide +kernel, by decide +kernel⟩
theorem kX11_turned_54 : ev_K mX11_turned 54 mX2_gather (some RX2) 5 := ev_kV dX11_turned_54 ⟨ev_in (List.mem_of_getElem? (i := 718) (by decide +kernel)) rfl, imX2_gather, seX2_gather, ini_X2, cdX2_gather⟩ ⟨rfl, by decide +kernel, by decide +kernel, by decide +kernel⟩
theorem kX11_turned_63 : ev_K mX11_turned 63 mX2_find (some RX2) 3 := ev_kV dX11_turned_63 ⟨ev_in (List.mem_of_getElem? (i := 726) (by decide +kernel)) rfl, imX2_find, seX2_find, ini_X2, cdX2_find⟩ ⟨rfl, by decide +kernel, by decide +kernel, by decide +kernel⟩
theorem kX11_wreck_5 : ev_K mX11_wreck 5 mX3_stickAt (some RX3) 2 := ev_kV dX11_wreck_5 ⟨ev_in (List.mem_of_getElem? (i := 541) (by decide +kernel)) rfl, imX3_stickAt, seX3_stickAt, ini_X3, cdX3_stickAt⟩ ⟨rfl, by decide +kernel, by decide +kernel, by decide +kernel⟩
theorem kX11_wreck_19 : ev_K mX11_wreck 19 mX11_within none 3 := ev_kS dX11_wreck_19 ⟨ev_in (List.mem_of_getElem? (i := 384) (by decide +kernel)) rfl, smX11_within, ini_X11, cdX11_within⟩ ⟨by decide +kernel, by decide +kernel, by decide +kernel⟩
theorem kX11_wreck_28 : ev_K mX11_wreck 28 mX11_within none 3 := ev_kS dX11_wreck_28 ⟨ev_in (List.mem_of_getElem? (i := 384) (by decide +kernel)) rfl, smX11_within, ini_X11, cdX11_within⟩ ⟨by decide +kernel, by decide +kernel, by decide +kernel⟩
theorem kX11_wreck_57 : ev_K mX11_wreck 57 mX9_spine (some RX9) 1 := ev_kV dX11_wreck_57 ⟨ev_in (List.mem_of_getElem? (i := 662) (by decide +kernel)) rfl, imX9_spine, seX9_spine, ini_X9, cdX9_spine⟩ ⟨rfl, by decide +kernel, by decide +kernel, by decide +kernel⟩
theorem kX11_wreck_63 : ev_K mX11_wreck 63 mX11_needOf none 2 := ev_kS dX11_wreck_63 ⟨ev_in (List.mem_of_getElem? (i := 749) (by decide +kernel)) rfl, smX11_needOf, ini_X11, cdX11_needOf⟩ ⟨by decide +kernel, by decide +kernel, by decide +kernel⟩
theorem kX11_wreck_67 : ev_K mX11_wreck 67 mX10_isClean (some RX10) 2 := ev_kV dX11_wreck_67 ⟨ev_in (List.mem_of_getElem? (i := 708) (by decide +kernel)) rfl, imX10_isClean, seX10_isClean, ini_X10, cdX10_isClean⟩ ⟨rfl, by decide +kernel, by decide +kernel, by decide +kernel⟩
theorem kX11_feather_5 : ev_K mX11_feather 5 mX3_stickAt (some RX3) 2 := ev_kV dX11_feather_5 ⟨ev_in (List.mem_of_getElem? (i := 541) (by decide +kernel)) rfl, imX3_stickAt, seX3_stickAt, ini_X3, cdX3_stickAt⟩ ⟨rfl, by decide +kernel, by decide +kernel, by decide +kernel⟩
theorem kX11_feather_15 : ev_K mX11_feather 15 mX3_bowAt (some RX3) 2 := ev_kV dX11_feather_15 ⟨ev_in (List.mem_of_getElem? (i := 549) (by decide +kernel)) rfl, imX3_bowAt, seX3_bowAt, ini_X3, cdX3_bowAt⟩ ⟨rfl, by decide +kernel, by decide +kernel, by decide +kernel⟩
theorem kX11_feather_34 : ev_K mX11_feather 34 mX11_within none 3 := ev_kS dX11_feather_34 ⟨ev_in (List.mem_of_getElem? (i := 384) (by decide +kernel)) rfl, smX11_within, ini_X11, cdX11_within⟩ ⟨by decide +kernel, by decide +kernel, by decide +kernel⟩
theorem kX11_feather_44 : ev_K mX11_feather 44 mX9_spine (some RX9) 1 := ev_kV dX11_feather_44 ⟨ev_in (List.mem_of_getElem? (i := 662) (by decide +kernel)) rfl, imX9_spine, seX9_spine, ini_X9, cdX9_spine⟩ ⟨rfl, by decide +kernel, by decide +kernel, by decide +kernel⟩
theorem kX11_feather_49 : ev_K mX11_feather 49 mX1_need (some RX1) 1 := ev_kV dX11_feather_49 ⟨ev_in (List.mem_of_getElem? (i := 553) (by decide +kernel)) rfl, imX1_need, seX1_need, ini_X1, cdX1_need⟩ ⟨rfl, by decide +kernel, by decide +kernel, by decide +kernel⟩
theorem kX11_feather_81 : ev_K mX11_feather 81 mX10_goesOf (some RX10) 4 := ev_kV dX11_feather_81 ⟨ev_in (List.mem_of_getElem? (i := 681) (by decide +kernel)) rfl, imX10_goesOf, seX10_goesOf, ini_X10, cdX10_goesOf⟩ ⟨rfl, by decide +kernel, by decide +kernel, by decide +kernel⟩
theorem maX11_219 : Cond.methodLink RX11 219 Lib.Math.abs.name ∈ ev_TB ∧ Cond.static Lib.Math.abs.name ∈ ev_TB ∧ Cond.initialized "java/lang/Math" ∈ ev_TB ∧ Cond.code Lib.Math.abs.name Lib.Math.abs.code 1 (some .int) ∈ ev_TB := ⟨ev_in (List.mem_of_getElem? (i := 754) (by decide +kernel)) rfl, sMath_abs⟩
theorem kX11_feather_93 : ev_K mX11_feather 93 mX1_dropOf (some RX1) 3 := ev_kV dX11_feather_93 ⟨ev_in (List.mem_of_getElem? (i := 696) (by decide +kernel)) rfl, imX1_dropOf, seX1_dropOf, ini_X1, cdX1_dropOf⟩ ⟨rfl, by decide +kernel, by decide +kernel, by decide +kernel⟩
theorem kX11_warm_5 : ev_K mX11_warm 5 mX3_bowAt (some RX3) 2 := ev_kV dX11_warm_5 ⟨ev_in (List.mem_of_getElem? (i := 549) (by decide +kernel)) rfl, imX3_bowAt, seX3_bowAt, ini_X3, cdX3_bowAt⟩ ⟨rfl, by decide +kernel, by decide +kernel, by decide +kernel⟩
theorem kX11_warm_19 : ev_K mX11_warm 19 mX11_within none 3 := ev_kS dX11_warm_19 ⟨ev_in (List.mem_of_getElem? (i := 384) (by decide +kernel)) rfl, smX11_within, ini_X11, cdX11_within⟩ ⟨by decide +kernel, by decide +kernel, by decide +kernel⟩
theorem kX11_warm_28 : ev_K mX11_warm 28 mX11_within none 3 := ev_kS dX11_warm_28 ⟨ev_in (List.mem_of_getElem? (i := 384) (by decide +kernel)) rfl, smX11_within, ini_X11, cdX11_within⟩ ⟨by decide +kernel, by decide +kernel, by decide +kernel⟩
theorem maX11_224 : Cond.methodLink RX11 224 Lib.Math.max.name ∈ ev_TB ∧ Cond.static Lib.Math.max.name ∈ ev_TB ∧ Cond.initialized "java/lang/Math" ∈ ev_TB ∧ Cond.code Lib.Math.max.name Lib.Math.max.code 2 (some .int) ∈ ev_TB := ⟨ev_in (List.mem_of_getElem? (i := 759) (by decide +kernel)) rfl, sMath_max⟩
theorem kX11_warm_52 : ev_K mX11_warm 52 mX11_needOf none 2 := ev_kS dX11_warm_52 ⟨ev_in (List.mem_of_getElem? (i := 749) (by decide +kernel)) rfl, smX11_needOf, ini_X11, cdX11_needOf⟩ ⟨by decide +kernel, by decide +kernel, by decide +kernel⟩
theorem flX11_227 : ev_FL RX11 227 3 3 := ⟨(RX3, TX3, 6), rfl, by decide, ev_in (List.mem_of_getElem? (i := 326) (by decide +kernel)) rfl, in_X3, rfl⟩
theorem flX11_230 : ev_FL RX11 230 3 0 := ⟨(RX3, TX3, 6), rfl, by decide, ev_in (List.mem_of_getElem? (i := 319) (by decide +kernel)) rfl, in_X3, rfl⟩
theorem kX11_warm_85 : ev_K mX11_warm 85 mX9_spine (some RX9) 1 := ev_kV dX11_warm_85 ⟨ev_in (List.mem_of_getElem? (i := 662) (by decide +kernel)) rfl, imX9_spine, seX9_spine, ini_X9, cdX9_spine⟩ ⟨rfl, by decide +kernel, by decide +kernel, by decide +kernel⟩
theorem kX11_warm_98 : ev_K mX11_warm 98 mX1_need (some RX1) 1 := ev_kV dX11_warm_98 ⟨ev_in (List.mem_of_getElem? (i := 553) (by decide +kernel)) rfl, imX1_need, seX1_need, ini_X1, cdX1_need⟩ ⟨rfl, by decide +kernel, by decide +kernel, by decide +kernel⟩
theorem kX11_warm_102 : ev_K mX11_warm 102 mX10_isClean (some RX10) 2 := ev_kV dX11_warm_102 ⟨ev_in (List.mem_of_getElem? (i := 708) (by decide +kernel)) rfl, imX10_isClean, seX10_isClean, ini_X10, cdX10_isClean⟩ ⟨rfl, by decide +kernel, by decide +kernel, by decide +kernel⟩
theorem kX11_warm_116 : ev_K mX11_warm 116 mX10_isClean (some RX10) 2 := ev_kV dX11_warm_116 ⟨ev_in (List.mem_of_getElem? (i := 708) (by decide +kernel)) rfl, imX10_isClean, seX10_isClean, ini_X10, cdX10_isClean⟩ ⟨rfl, by decide +kernel, by decide +kernel, by decide +kernel⟩
theorem kX11_shoot_5 : ev_K mX11_shoot 5 mX3_stickAt (some RX3) 2 := ev_kV dX11_shoot_5 ⟨ev_in (List.mem_of_getElem? (i := 541) (by decide +kernel)) rfl, imX3_stickAt, seX3_stickAt, ini_X3, cdX3_stickAt⟩ ⟨rfl, by decide +kernel, by decide +kernel, by decide +kernel⟩
theorem kX11_shoot_15 : ev_K mX11_shoot 15 mX3_bowAt (some RX3) 2 := ev_kV dX11_shoot_15 ⟨ev_in (List.mem_of_getElem? (i := 549) (by decide +kernel)) rfl, imX3_bowAt, seX3_bowAt, ini_X3, cdX3_bowAt⟩ ⟨rfl, by decide +kernel, by decide +kernel, by decide +kernel⟩
theorem kX11_shoot_25 : ev_K mX11_shoot 25 mX3_archerAt (some RX3) 2 := ev_kV dX11_shoot_25 ⟨ev_in (List.mem_of_getElem? (i := 564) (by decide +kernel)) rfl, imX3_archerAt, seX3_archerAt, ini_X3, cdX3_archerAt⟩ ⟨rfl, by decide +kernel, by decide +kernel, by decide +kernel⟩
theorem flX11_234 : ev_FL RX11 234 8 9 := ⟨(RX8, TX8, 10), rfl, by decide, ev_in (List.mem_of_getElem? (i := 118) (by decide +kernel)) rfl, in_X8, rfl⟩
theorem flX11_71 : ev_FL RX11 71 11 10 := ⟨(RX11, TX11, 11), rfl, by decide, ev_in (List.mem_of_getElem? (i := 356) (by decide +kernel)) rfl, in_X11, rfl⟩
theorem coX11_235 : Cond.constant RX11 235 (1103515245) ∈ ev_TB := ev_in (List.mem_of_getElem? (i := 766) (by decide +kernel)) rfl
theorem cdX11_leftOver : ev_code mX11_leftOver ∈ ev_TB := ev_in (List.mem_of_getElem? (i := 769) (by decide +kernel)) rfl
theorem smX11_leftOver : Cond.static yX11_leftOver ∈ ev_TB := ev_in (List.mem_of_getElem? (i := 768) (by decide +kernel)) rfl
theorem kX11_shoot_91 : ev_K mX11_shoot 91 mX11_leftOver none 2 := ev_kS dX11_shoot_91 ⟨ev_in (List.mem_of_getElem? (i := 767) (by decide +kernel)) rfl, smX11_leftOver, ini_X11, cdX11_leftOver⟩ ⟨by decide +kernel, by decide +kernel, by decide +kernel⟩
theorem kX11_shoot_104 : ev_K mX11_shoot 104 mX9_spine (some RX9) 1 := ev_kV dX11_shoot_104 ⟨ev_in (List.mem_of_getElem? (i := 662) (by decide +kernel)) rfl, imX9_spine, seX9_spine, ini_X9, cdX9_spine⟩ ⟨rfl, by decide +kernel, by decide +kernel, by decide +kernel⟩
theorem kX11_shoot_109 : ev_K mX11_shoot 109 mX1_need (some RX1) 1 := ev_kV dX11_shoot_109 ⟨ev_in (List.mem_of_getElem? (i := 553) (by decide +kernel)) rfl, imX1_need, seX1_need, ini_X1, cdX1_need⟩ ⟨rfl, by decide +kernel, by decide +kernel, by decide +kernel⟩
theorem kX11_shoot_118 : ev_K mX11_shoot 118 mX10_goesOf (some RX10) 4 := ev_kV dX11_shoot_118 ⟨ev_in (List.mem_of_getElem? (i := 681) (by decide +kernel)) rfl, imX10_goesOf, seX10_goesOf, ini_X10, cdX10_goesOf⟩ ⟨rfl, by decide +kernel, by decide +kernel, by decide +kernel⟩
theorem kX11_shoot_160 : ev_K mX11_shoot 160 mX1_dropOf (some RX1) 3 := ev_kV dX11_shoot_160 ⟨ev_in (List.mem_of_getElem? (i := 696) (by decide +kernel)) rfl, imX1_dropOf, seX1_dropOf, ini_X1, cdX1_dropOf⟩ ⟨rfl, by decide +kernel, by decide +kernel, by decide +kernel⟩
theorem cdX8_add : ev_code mX8_add ∈ ev_TB := ev_in (List.mem_of_getElem? (i := 773) (by decide +kernel)) rfl
theorem imX8_add : Cond.instanceMethod yX8_add ∈ ev_TB := ev_in (List.mem_of_getElem? (i := 771) (by decide +kernel)) rfl
theorem seX8_add : Cond.selects RX8 yX8_add yX8_add ∈ ev_TB := ev_in (List.mem_of_getElem? (i := 772) (by decide +kernel)) rfl
theorem kX11_shoot_163 : ev_K mX11_shoot 163 mX8_add (some RX8) 6 := ev_kV dX11_shoot_163 ⟨ev_in (List.mem_of_getElem? (i := 770) (by decide +kernel)) rfl, imX8_add, seX8_add, ini_X8, cdX8_add⟩ ⟨rfl, by decide +kernel, by decide +kernel, by decide +kernel⟩
theorem cdX8_tell : ev_code mX8_tell ∈ ev_TB := ev_in (List.mem_of_getElem? (i := 781) (by decide +kernel)) rfl
theorem imX8_tell : Cond.instanceMethod yX8_tell ∈ ev_TB := ev_in (List.mem_of_getElem? (i := 779) (by decide +kernel)) rfl
theorem seX8_tell : Cond.selects RX8 yX8_tell yX8_tell ∈ ev_TB := ev_in (List.mem_of_getElem? (i := 780) (by decide +kernel)) rfl
theorem kX11_shot_6 : ev_K mX11_shot 6 mX8_tell (some RX8) 3 := ev_kV dX11_shot_6 ⟨ev_in (List.mem_of_getElem? (i := 778) (by decide +kernel)) rfl, imX8_tell, seX8_tell, ini_X8, cdX8_tell⟩ ⟨rfl, by decide +kernel, by decide +kernel, by decide +kernel⟩
theorem kX11_wipe_4 : ev_K mX11_wipe 4 mX8_empty (some RX8) 1 := ev_kV dX11_wipe_4 ⟨ev_in (List.mem_of_getElem? (i := 532) (by decide +kernel)) rfl, imX8_empty, seX8_empty, ini_X8, cdX8_empty⟩ ⟨rfl, by decide +kernel, by decide +kernel, by decide +kernel⟩
theorem cdX8_partedBy : ev_code mX8_partedBy ∈ ev_TB := ev_in (List.mem_of_getElem? (i := 794) (by decide +kernel)) rfl
theorem imX8_partedBy : Cond.instanceMethod yX8_partedBy ∈ ev_TB := ev_in (List.mem_of_getElem? (i := 792) (by decide +kernel)) rfl
theorem seX8_partedBy : Cond.selects RX8 yX8_partedBy yX8_partedBy ∈ ev_TB := ev_in (List.mem_of_getElem? (i := 793) (by decide +kernel)) rfl
theorem kX11_parted_4 : ev_K mX11_parted 4 mX8_partedBy (some RX8) 1 := ev_kV dX11_parted_4 ⟨ev_in (List.mem_of_getElem? (i := 791) (by decide +kernel)) rfl, imX8_partedBy, seX8_partedBy, ini_X8, cdX8_partedBy⟩ ⟨rfl, by decide +kernel, by decide +kernel, by decide +kernel⟩
theorem kX11_spread_5 : ev_K mX11_spread 5 mX3_stickAt (some RX3) 2 := ev_kV dX11_spread_5 ⟨ev_in (List.mem_of_getElem? (i := 541) (by decide +kernel)) rfl, imX3_stickAt, seX3_stickAt, ini_X3, cdX3_stickAt⟩ ⟨rfl, by decide +kernel, by decide +kernel, by decide +kernel⟩
theorem cdX8_spreadOf : ev_code mX8_spreadOf ∈ ev_TB := ev_in (List.mem_of_getElem? (i := 817) (by decide +kernel)) rfl
theorem imX8_spreadOf : Cond.instanceMethod yX8_spreadOf ∈ ev_TB := ev_in (List.mem_of_getElem? (i := 815) (by decide +kernel)) rfl
theorem seX8_spreadOf : Cond.selects RX8 yX8_spreadOf yX8_spreadOf ∈ ev_TB := ev_in (List.mem_of_getElem? (i := 816) (by decide +kernel)) rfl
theorem kX11_spread_18 : ev_K mX11_spread 18 mX8_spreadOf (some RX8) 2 := ev_kV dX11_spread_18 ⟨ev_in (List.mem_of_getElem? (i := 814) (by decide +kernel)) rfl, imX8_spreadOf, seX8_spreadOf, ini_X8, cdX8_spreadOf⟩ ⟨rfl, by decide +kernel, by decide +kernel, by decide +kernel⟩
theorem kX11_out_5 : ev_K mX11_out 5 mX3_stickAt (some RX3) 2 := ev_kV dX11_out_5 ⟨ev_in (List.mem_of_getElem? (i := 541) (by decide +kernel)) rfl, imX3_stickAt, seX3_stickAt, ini_X3, cdX3_stickAt⟩ ⟨rfl, by decide +kernel, by decide +kernel, by decide +kernel⟩
theorem kX11_out_15 : ev_K mX11_out 15 mX11_within none 3 := ev_kS dX11_out_15 ⟨ev_in (List.mem_of_getElem? (i := 384) (by decide +kernel)) rfl, smX11_within, ini_X11, cdX11_within⟩ ⟨by decide +kernel, by decide +kernel, by decide +kernel⟩
theorem cdX8_mayLeave : ev_code mX8_mayLeave ∈ ev_TB := ev_in (List.mem_of_getElem? (i := 827) (by decide +kernel)) rfl
theorem imX8_mayLeave : Cond.instanceMethod yX8_mayLeave ∈ ev_TB := ev_in (List.mem_of_getElem? (i := 825) (by decide +kernel)) rfl
theorem seX8_mayLeave : Cond.selects RX8 yX8_mayLeave yX8_mayLeave ∈ ev_TB := ev_in (List.mem_of_getElem? (i := 826) (by decide +kernel)) rfl
theorem kX11_out_29 : ev_K mX11_out 29 mX8_mayLeave (some RX8) 3 := ev_kV dX11_out_29 ⟨ev_in (List.mem_of_getElem? (i := 824) (by decide +kernel)) rfl, imX8_mayLeave, seX8_mayLeave, ini_X8, cdX8_mayLeave⟩ ⟨rfl, by decide +kernel, by decide +kernel, by decide +kernel⟩
theorem kX11_rate_5 : ev_K mX11_rate 5 mX3_stickAt (some RX3) 2 := ev_kV dX11_rate_5 ⟨ev_in (List.mem_of_getElem? (i := 541) (by decide +kernel)) rfl, imX3_stickAt, seX3_stickAt, ini_X3, cdX3_stickAt⟩ ⟨rfl, by decide +kernel, by decide +kernel, by decide +kernel⟩
theorem kX11_rate_14 : ev_K mX11_rate 14 mX3_bowAt (some RX3) 2 := ev_kV dX11_rate_14 ⟨ev_in (List.mem_of_getElem? (i := 549) (by decide +kernel)) rfl, imX3_bowAt, seX3_bowAt, ini_X3, cdX3_bowAt⟩ ⟨rfl, by decide +kernel, by decide +kernel, by decide +kernel⟩
theorem flX11_47 : ev_FL RX11 47 11 5 := ⟨(RX11, TX11, 11), rfl, by decide, ev_in (List.mem_of_getElem? (i := 351) (by decide +kernel)) rfl, in_X11, rfl⟩
theorem kX11_rate_43 : ev_K mX11_rate 43 mX10_wind (some RX10) 1 := ev_kV dX11_rate_43 ⟨ev_in (List.mem_of_getElem? (i := 840) (by decide +kernel)) rfl, imX10_wind, seX10_wind, ini_X10, cdX10_wind⟩ ⟨rfl, by decide +kernel, by decide +kernel, by decide +kernel⟩
theorem cdX5_rateAs : ev_code mX5_rateAs ∈ ev_TB := ev_in (List.mem_of_getElem? (i := 844) (by decide +kernel)) rfl
theorem imX5_rateAs : Cond.instanceMethod yX5_rateAs ∈ ev_TB := ev_in (List.mem_of_getElem? (i := 842) (by decide +kernel)) rfl
theorem seX5_rateAs : Cond.selects RX5 yX5_rateAs yX5_rateAs ∈ ev_TB := ev_in (List.mem_of_getElem? (i := 843) (by decide +kernel)) rfl
theorem kX11_rate_46 : ev_K mX11_rate 46 mX5_rateAs (some RX5) 5 := ev_kV dX11_rate_46 ⟨ev_in (List.mem_of_getElem? (i := 841) (by decide +kernel)) rfl, imX5_rateAs, seX5_rateAs, ini_X5, cdX5_rateAs⟩ ⟨rfl, by decide +kernel, by decide +kernel, by decide +kernel⟩
theorem cdX11_imageAt : ev_code mX11_imageAt ∈ ev_TB := ev_in (List.mem_of_getElem? (i := 884) (by decide +kernel)) rfl
theorem imX11_imageAt : Cond.instanceMethod yX11_imageAt ∈ ev_TB := ev_in (List.mem_of_getElem? (i := 883) (by decide +kernel)) rfl
theorem seX11_imageAt : Cond.selects RX11 yX11_imageAt yX11_imageAt ∈ ev_TB := ev_in (List.mem_of_getElem? (i := 22) (by decide +kernel)) rfl
theorem kX11_keep_2 : ev_K mX11_keep 2 mX11_imageAt (some RX11) 2 := ev_kV dX11_keep_2 ⟨ev_in (List.mem_of_getElem? (i := 881) (by decide +kernel)) rfl, imX11_imageAt, seX11_imageAt, ini_X11, cdX11_imageAt⟩ ⟨rfl, by decide +kernel, by decide +kernel, by decide +kernel⟩
theorem cdX4_take : ev_code mX4_take ∈ ev_TB := ev_in (List.mem_of_getElem? (i := 888) (by decide +kernel)) rfl
theorem imX4_take : Cond.instanceMethod yX4_take ∈ ev_TB := ev_in (List.mem_of_getElem? (i := 886) (by decide +kernel)) rfl
theorem seX4_take : Cond.selects RX4 yX4_take yX4_take ∈ ev_TB := ev_in (List.mem_of_getElem? (i := 887) (by decide +kernel)) rfl
theorem kX11_keep_25 : ev_K mX11_keep 25 mX4_take (some RX4) 4 := ev_kV dX11_keep_25 ⟨ev_in (List.mem_of_getElem? (i := 885) (by decide +kernel)) rfl, imX4_take, seX4_take, ini_X4, cdX4_take⟩ ⟨rfl, by decide +kernel, by decide +kernel, by decide +kernel⟩
theorem kX11_back_2 : ev_K mX11_back 2 mX11_imageAt (some RX11) 2 := ev_kV dX11_back_2 ⟨ev_in (List.mem_of_getElem? (i := 881) (by decide +kernel)) rfl, imX11_imageAt, seX11_imageAt, ini_X11, cdX11_imageAt⟩ ⟨rfl, by decide +kernel, by decide +kernel, by decide +kernel⟩
theorem flX11_95 : ev_FL RX11 95 4 3 := ⟨(RX4, TX4, 4), rfl, by decide, ev_in (List.mem_of_getElem? (i := 264) (by decide +kernel)) rfl, in_X4, rfl⟩
theorem cdX4_give : ev_code mX4_give ∈ ev_TB := ev_in (List.mem_of_getElem? (i := 904) (by decide +kernel)) rfl
theorem imX4_give : Cond.instanceMethod yX4_give ∈ ev_TB := ev_in (List.mem_of_getElem? (i := 902) (by decide +kernel)) rfl
theorem seX4_give : Cond.selects RX4 yX4_give yX4_give ∈ ev_TB := ev_in (List.mem_of_getElem? (i := 903) (by decide +kernel)) rfl
theorem kX11_back_31 : ev_K mX11_back 31 mX4_give (some RX4) 3 := ev_kV dX11_back_31 ⟨ev_in (List.mem_of_getElem? (i := 901) (by decide +kernel)) rfl, imX4_give, seX4_give, ini_X4, cdX4_give⟩ ⟨rfl, by decide +kernel, by decide +kernel, by decide +kernel⟩
theorem flX11_272 : ev_FL RX11 272 4 2 := ⟨(RX4, TX4, 4), rfl, by decide, ev_in (List.mem_of_getElem? (i := 262) (by decide +kernel)) rfl, in_X4, rfl⟩
theorem flX11_275 : ev_FL RX11 275 3 4 := ⟨(RX3, TX3, 6), rfl, by decide, ev_in (List.mem_of_getElem? (i := 329) (by decide +kernel)) rfl, in_X3, rfl⟩
theorem flX11_278 : ev_FL RX11 278 3 5 := ⟨(RX3, TX3, 6), rfl, by decide, ev_in (List.mem_of_getElem? (i := 332) (by decide +kernel)) rfl, in_X3, rfl⟩
theorem flX11_281 : ev_FL RX11 281 5 0 := ⟨(RX5, TX5, 1), rfl, by decide, ev_in (List.mem_of_getElem? (i := 196) (by decide +kernel)) rfl, in_X5, rfl⟩
theorem kX11_spineOf_5 : ev_K mX11_spineOf 5 mX11_divided none 2 := ev_kS dX11_spineOf_5 ⟨ev_in (List.mem_of_getElem? (i := 635) (by decide +kernel)) rfl, smX11_divided, ini_X11, cdX11_divided⟩ ⟨by decide +kernel, by decide +kernel, by decide +kernel⟩
theorem obX12_1 : Cond.methodLink RX12 1 objectInit ∈ ev_TB ∧ Cond.instanceMethod objectInit ∈ ev_TB ∧ Cond.code objectInit ⟨#[0xb1]⟩ 1 none ∈ ev_TB := ⟨ev_in (List.mem_of_getElem? (i := 918) (by decide +kernel)) rfl, imOb, cdOb⟩
theorem fpX12_7 : ev_FP RX12 7 12 2 (.array .int) true := ⟨(RX12, TX12, 36), tyX12, rfl, by decide, ev_in (List.mem_of_getElem? (i := 921) (by decide +kernel)) rfl, in_X12, rfl, tyX12_ok, nmX12, by decide +kernel, rfl, fun h => by first | rfl | cases h⟩
theorem fpX12_13 : ev_FP RX12 13 12 9 (.array .int) true := ⟨(RX12, TX12, 36), tyX12, rfl, by decide, ev_in (List.mem_of_getElem? (i := 928) (by decide +kernel)) rfl, in_X12, rfl, tyX12_ok, nmX12, by decide +kernel, rfl, fun h => by first | rfl | cases h⟩
theorem fpX12_16 : ev_FP RX12 16 12 10 (.array .int) true := ⟨(RX12, TX12, 36), tyX12, rfl, by decide, ev_in (List.mem_of_getElem? (i := 929) (by decide +kernel)) rfl, in_X12, rfl, tyX12_ok, nmX12, by decide +kernel, rfl, fun h => by first | rfl | cases h⟩
theorem fpX12_19 : ev_FP RX12 19 12 11 (.array .boolean) true := ⟨(RX12, TX12, 36), tyX12, rfl, by decide, ev_in (List.mem_of_getElem? (i := 930) (by decide +kernel)) rfl, in_X12, rfl, tyX12_ok, nmX12, by decide +kernel, rfl, fun h => by first | rfl | cases h⟩
theorem fpX12_23 : ev_FP RX12 23 12 15 (.array .int) true := ⟨(RX12, TX12, 36), tyX12, rfl, by decide, ev_in (List.mem_of_getElem? (i := 934) (by decide +kernel)) rfl, in_X12, rfl, tyX12_ok, nmX12, by decide +kernel, rfl, fun h => by first | rfl | cases h⟩
theorem fpX12_26 : ev_FP RX12 26 12 16 (.array .int) true := ⟨(RX12, TX12, 36), tyX12, rfl, by decide, ev_in (List.mem_of_getElem? (i := 935) (by decide +kernel)) rfl, in_X12, rfl, tyX12_ok, nmX12, by decide +kernel, rfl, fun h => by first | rfl | cases h⟩
theorem fpX12_29 : ev_FP RX12 29 12 17 (.array .int) true := ⟨(RX12, TX12, 36), tyX12, rfl, by decide, ev_in (List.mem_of_getElem? (i := 936) (by decide +kernel)) rfl, in_X12, rfl, tyX12_ok, nmX12, by decide +kernel, rfl, fun h => by first | rfl | cases h⟩
theorem fpX12_32 : ev_FP RX12 32 12 18 (.array .int) true := ⟨(RX12, TX12, 36), tyX12, rfl, by decide, ev_in (List.mem_of_getElem? (i := 937) (by decide +kernel)) rfl, in_X12, rfl, tyX12_ok, nmX12, by decide +kernel, rfl, fun h => by first | rfl | cases h⟩
theorem fpX12_35 : ev_FP RX12 35 12 19 (.array .int) true := ⟨(RX12, TX12, 36), tyX12, rfl, by decide, ev_in (List.mem_of_getElem? (i := 938) (by decide +kernel)) rfl, in_X12, rfl, tyX12_ok, nmX12, by decide +kernel, rfl, fun h => by first | rfl | cases h⟩
theorem fpX12_38 : ev_FP RX12 38 12 23 (.array .int) true := ⟨(RX12, TX12, 36), tyX12, rfl, by decide, ev_in (List.mem_of_getElem? (i := 942) (by decide +kernel)) rfl, in_X12, rfl, tyX12_ok, nmX12, by decide +kernel, rfl, fun h => by first | rfl | cases h⟩
theorem fpX12_41 : ev_FP RX12 41 12 24 (.array .int) true := ⟨(RX12, TX12, 36), tyX12, rfl, by decide, ev_in (List.mem_of_getElem? (i := 943) (by decide +kernel)) rfl, in_X12, rfl, tyX12_ok, nmX12, by decide +kernel, rfl, fun h => by first | rfl | cases h⟩
theorem fpX12_44 : ev_FP RX12 44 12 31 (.array .int) true := ⟨(RX12, TX12, 36), tyX12, rfl, by decide, ev_in (List.mem_of_getElem? (i := 950) (by decide +kernel)) rfl, in_X12, rfl, tyX12_ok, nmX12, by decide +kernel, rfl, fun h => by first | rfl | cases h⟩
theorem fpX12_47 : ev_FP RX12 47 12 32 (.array .int) true := ⟨(RX12, TX12, 36), tyX12, rfl, by decide, ev_in (List.mem_of_getElem? (i := 951) (by decide +kernel)) rfl, in_X12, rfl, tyX12_ok, nmX12, by decide +kernel, rfl, fun h => by first | rfl | cases h⟩
theorem fpX12_50 : ev_FP RX12 50 12 33 (.array .int) true := ⟨(RX12, TX12, 36), tyX12, rfl, by decide, ev_in (List.mem_of_getElem? (i := 952) (by decide +kernel)) rfl, in_X12, rfl, tyX12_ok, nmX12, by decide +kernel, rfl, fun h => by first | rfl | cases h⟩
theorem flX12_38 : ev_FL RX12 38 12 23 := ⟨(RX12, TX12, 36), rfl, by decide, ev_in (List.mem_of_getElem? (i := 942) (by decide +kernel)) rfl, in_X12, rfl⟩
theorem flX12_13 : ev_FL RX12 13 12 9 := ⟨(RX12, TX12, 36), rfl, by decide, ev_in (List.mem_of_getElem? (i := 928) (by decide +kernel)) rfl, in_X12, rfl⟩
theorem fpX12_53 : ev_FP RX12 53 12 0 .int false := ⟨(RX12, TX12, 36), tyX12, rfl, by decide, ev_in (List.mem_of_getElem? (i := 919) (by decide +kernel)) rfl, in_X12, rfl, tyX12_ok, nmX12, by decide +kernel, rfl, fun h => by first | rfl | cases h⟩
theorem cdX12_in : ev_code mX12_in ∈ ev_TB := ev_in (List.mem_of_getElem? (i := 1035) (by decide +kernel)) rfl
theorem ini_X12 : Cond.initialized RX12 ∈ ev_TB := ev_in (List.mem_of_getElem? (i := 56) (by decide +kernel)) rfl
theorem smX12_in : Cond.static yX12_in ∈ ev_TB := ev_in (List.mem_of_getElem? (i := 1034) (by decide +kernel)) rfl
theorem kX12_type_9 : ev_K mX12_type 9 mX12_in none 3 := ev_kS dX12_type_9 ⟨ev_in (List.mem_of_getElem? (i := 1033) (by decide +kernel)) rfl, smX12_in, ini_X12, cdX12_in⟩ ⟨by decide +kernel, by decide +kernel, by decide +kernel⟩
theorem flX12_61 : ev_FL RX12 61 12 3 := ⟨(RX12, TX12, 36), rfl, by decide, ev_in (List.mem_of_getElem? (i := 922) (by decide +kernel)) rfl, in_X12, rfl⟩
theorem flX12_7 : ev_FL RX12 7 12 2 := ⟨(RX12, TX12, 36), rfl, by decide, ev_in (List.mem_of_getElem? (i := 921) (by decide +kernel)) rfl, in_X12, rfl⟩
theorem coX12_64 : Cond.constantLong RX12 64 (255) ∈ ev_TB := ev_in (List.mem_of_getElem? (i := 1036) (by decide +kernel)) rfl
theorem fpX12_61 : ev_FP RX12 61 12 3 .int false := ⟨(RX12, TX12, 36), tyX12, rfl, by decide, ev_in (List.mem_of_getElem? (i := 922) (by decide +kernel)) rfl, in_X12, rfl, tyX12_ok, nmX12, by decide +kernel, rfl, fun h => by first | rfl | cases h⟩
theorem coX12_66 : Cond.constantLong RX12 66 (256) ∈ ev_TB := ev_in (List.mem_of_getElem? (i := 1056) (by decide +kernel)) rfl
theorem cdX12_add : ev_code mX12_add ∈ ev_TB := ev_in (List.mem_of_getElem? (i := 1055) (by decide +kernel)) rfl
theorem smX12_add : Cond.static yX12_add ∈ ev_TB := ev_in (List.mem_of_getElem? (i := 1054) (by decide +kernel)) rfl
theorem kX12_named_2 : ev_K mX12_named 2 mX12_add none 2 := ev_kS dX12_named_2 ⟨ev_in (List.mem_of_getElem? (i := 1053) (by decide +kernel)) rfl, smX12_add, ini_X12, cdX12_add⟩ ⟨by decide +kernel, by decide +kernel, by decide +kernel⟩
theorem kX12_named_6 : ev_K mX12_named 6 mX12_add none 2 := ev_kS dX12_named_6 ⟨ev_in (List.mem_of_getElem? (i := 1053) (by decide +kernel)) rfl, smX12_add, ini_X12, cdX12_add⟩ ⟨by decide +kernel, by decide +kernel, by decide +kernel⟩
theorem kX12_named_10 : ev_K mX12_named 10 mX12_add none 2 := ev_kS dX12_named_10 ⟨ev_in (List.mem_of_getElem? (i := 1053) (by decide +kernel)) rfl, smX12_add, ini_X12, cdX12_add⟩ ⟨by decide +kernel, by decide +kernel, by decide +kernel⟩
theorem kX12_named_14 : ev_K mX12_named 14 mX12_add none 2 := ev_kS dX12_named_14 ⟨ev_in (List.mem_of_getElem? (i := 1053) (by decide +kernel)) rfl, smX12_add, ini_X12, cdX12_add⟩ ⟨by decide +kernel, by decide +kernel, by decide +kernel⟩
theorem kX12_named_19 : ev_K mX12_named 19 mX12_add none 2 := ev_kS dX12_named_19 ⟨ev_in (List.mem_of_getElem? (i := 1053) (by decide +kernel)) rfl, smX12_add, ini_X12, cdX12_add⟩ ⟨by decide +kernel, by decide +kernel, by decide +kernel⟩
theorem kX12_named_24 : ev_K mX12_named 24 mX12_add none 2 := ev_kS dX12_named_24 ⟨ev_in (List.mem_of_getElem? (i := 1053) (by decide +kernel)) rfl, smX12_add, ini_X12, cdX12_add⟩ ⟨by decide +kernel, by decide +kernel, by decide +kernel⟩
theorem cdX12_named : ev_code mX12_named ∈ ev_TB := ev_in (List.mem_of_getElem? (i := 1062) (by decide +kernel)) rfl
theorem smX12_named : Cond.static yX12_named ∈ ev_TB := ev_in (List.mem_of_getElem? (i := 1061) (by decide +kernel)) rfl
theorem kX12_wordOf_12 : ev_K mX12_wordOf 12 mX12_named none 6 := ev_kS dX12_wordOf_12 ⟨ev_in (List.mem_of_getElem? (i := 1060) (by decide +kernel)) rfl, smX12_named, ini_X12, cdX12_named⟩ ⟨by decide +kernel, by decide +kernel, by decide +kernel⟩
theorem kX12_wordOf_33 : ev_K mX12_wordOf 33 mX12_named none 6 := ev_kS dX12_wordOf_33 ⟨ev_in (List.mem_of_getElem? (i := 1060) (by decide +kernel)) rfl, smX12_named, ini_X12, cdX12_named⟩ ⟨by decide +kernel, by decide +kernel, by decide +kernel⟩
theorem kX12_wordOf_57 : ev_K mX12_wordOf 57 mX12_named none 6 := ev_kS dX12_wordOf_57 ⟨ev_in (List.mem_of_getElem? (i := 1060) (by decide +kernel)) rfl, smX12_named, ini_X12, cdX12_named⟩ ⟨by decide +kernel, by decide +kernel, by decide +kernel⟩
theorem kX12_wordOf_92 : ev_K mX12_wordOf 92 mX12_named none 6 := ev_kS dX12_wordOf_92 ⟨ev_in (List.mem_of_getElem? (i := 1060) (by decide +kernel)) rfl, smX12_named, ini_X12, cdX12_named⟩ ⟨by decide +kernel, by decide +kernel, by decide +kernel⟩
theorem kX12_wordOf_115 : ev_K mX12_wordOf 115 mX12_named none 6 := ev_kS dX12_wordOf_115 ⟨ev_in (List.mem_of_getElem? (i := 1060) (by decide +kernel)) rfl, smX12_named, ini_X12, cdX12_named⟩ ⟨by decide +kernel, by decide +kernel, by decide +kernel⟩
theorem flX12_76 : ev_FL RX12 76 12 4 := ⟨(RX12, TX12, 36), rfl, by decide, ev_in (List.mem_of_getElem? (i := 923) (by decide +kernel)) rfl, in_X12, rfl⟩
theorem cdX12_byteAt : ev_code mX12_byteAt ∈ ev_TB := ev_in (List.mem_of_getElem? (i := 1052) (by decide +kernel)) rfl
theorem imX12_byteAt : Cond.instanceMethod yX12_byteAt ∈ ev_TB := ev_in (List.mem_of_getElem? (i := 1051) (by decide +kernel)) rfl
theorem seX12_byteAt : Cond.selects RX12 yX12_byteAt yX12_byteAt ∈ ev_TB := ev_in (List.mem_of_getElem? (i := 24) (by decide +kernel)) rfl
theorem kX12_advances_5 : ev_K mX12_advances 5 mX12_byteAt (some RX12) 2 := ev_kV dX12_advances_5 ⟨ev_in (List.mem_of_getElem? (i := 1049) (by decide +kernel)) rfl, imX12_byteAt, seX12_byteAt, ini_X12, cdX12_byteAt⟩ ⟨rfl, by decide +kernel, by decide +kernel, by decide +kernel⟩
theorem fpX12_76 : ev_FP RX12 76 12 4 .int false := ⟨(RX12, TX12, 36), tyX12, rfl, by decide, ev_in (List.mem_of_getElem? (i := 923) (by decide +kernel)) rfl, in_X12, rfl, tyX12_ok, nmX12, by decide +kernel, rfl, fun h => by first | rfl | cases h⟩
theorem fpX12_83 : ev_FP RX12 83 12 6 .int false := ⟨(RX12, TX12, 36), tyX12, rfl, by decide, ev_in (List.mem_of_getElem? (i := 925) (by decide +kernel)) rfl, in_X12, rfl, tyX12_ok, nmX12, by decide +kernel, rfl, fun h => by first | rfl | cases h⟩
theorem kX12_advances_39 : ev_K mX12_advances 39 mX12_byteAt (some RX12) 2 := ev_kV dX12_advances_39 ⟨ev_in (List.mem_of_getElem? (i := 1049) (by decide +kernel)) rfl, imX12_byteAt, seX12_byteAt, ini_X12, cdX12_byteAt⟩ ⟨rfl, by decide +kernel, by decide +kernel, by decide +kernel⟩
theorem fpX12_86 : ev_FP RX12 86 12 5 .int false := ⟨(RX12, TX12, 36), tyX12, rfl, by decide, ev_in (List.mem_of_getElem? (i := 924) (by decide +kernel)) rfl, in_X12, rfl, tyX12_ok, nmX12, by decide +kernel, rfl, fun h => by first | rfl | cases h⟩
theorem kX12_advances_60 : ev_K mX12_advances 60 mX12_in none 3 := ev_kS dX12_advances_60 ⟨ev_in (List.mem_of_getElem? (i := 1033) (by decide +kernel)) rfl, smX12_in, ini_X12, cdX12_in⟩ ⟨by decide +kernel, by decide +kernel, by decide +kernel⟩
theorem kX12_advances_73 : ev_K mX12_advances 73 mX12_byteAt (some RX12) 2 := ev_kV dX12_advances_73 ⟨ev_in (List.mem_of_getElem? (i := 1049) (by decide +kernel)) rfl, imX12_byteAt, seX12_byteAt, ini_X12, cdX12_byteAt⟩ ⟨rfl, by decide +kernel, by decide +kernel, by decide +kernel⟩
theorem kX12_advances_80 : ev_K mX12_advances 80 mX12_in none 3 := ev_kS dX12_advances_80 ⟨ev_in (List.mem_of_getElem? (i := 1033) (by decide +kernel)) rfl, smX12_in, ini_X12, cdX12_in⟩ ⟨by decide +kernel, by decide +kernel, by decide +kernel⟩
theorem flX12_83 : ev_FL RX12 83 12 6 := ⟨(RX12, TX12, 36), rfl, by decide, ev_in (List.mem_of_getElem? (i := 925) (by decide +kernel)) rfl, in_X12, rfl⟩
theorem kX12_advances_106 : ev_K mX12_advances 106 mX12_byteAt (some RX12) 2 := ev_kV dX12_advances_106 ⟨ev_in (List.mem_of_getElem? (i := 1049) (by decide +kernel)) rfl, imX12_byteAt, seX12_byteAt, ini_X12, cdX12_byteAt⟩ ⟨rfl, by decide +kernel, by decide +kernel, by decide +kernel⟩
theorem kX12_advances_109 : ev_K mX12_advances 109 mX12_add none 2 := ev_kS dX12_advances_109 ⟨ev_in (List.mem_of_getElem? (i := 1053) (by decide +kernel)) rfl, smX12_add, ini_X12, cdX12_add⟩ ⟨by decide +kernel, by decide +kernel, by decide +kernel⟩
theorem cdX12_wordOf : ev_code mX12_wordOf ∈ ev_TB := ev_in (List.mem_of_getElem? (i := 1059) (by decide +kernel)) rfl
theorem smX12_wordOf : Cond.static yX12_wordOf ∈ ev_TB := ev_in (List.mem_of_getElem? (i := 1058) (by decide +kernel)) rfl
theorem kX12_advances_132 : ev_K mX12_advances 132 mX12_wordOf none 1 := ev_kS dX12_advances_132 ⟨ev_in (List.mem_of_getElem? (i := 1057) (by decide +kernel)) rfl, smX12_wordOf, ini_X12, cdX12_wordOf⟩ ⟨by decide +kernel, by decide +kernel, by decide +kernel⟩
theorem fpX12_93 : ev_FP RX12 93 12 7 .int false := ⟨(RX12, TX12, 36), tyX12, rfl, by decide, ev_in (List.mem_of_getElem? (i := 926) (by decide +kernel)) rfl, in_X12, rfl, tyX12_ok, nmX12, by decide +kernel, rfl, fun h => by first | rfl | cases h⟩
theorem flX12_93 : ev_FL RX12 93 12 7 := ⟨(RX12, TX12, 36), rfl, by decide, ev_in (List.mem_of_getElem? (i := 926) (by decide +kernel)) rfl, in_X12, rfl⟩
theorem kX12_advances_164 : ev_K mX12_advances 164 mX12_in none 3 := ev_kS dX12_advances_164 ⟨ev_in (List.mem_of_getElem? (i := 1033) (by decide +kernel)) rfl, smX12_in, ini_X12, cdX12_in⟩ ⟨by decide +kernel, by decide +kernel, by decide +kernel⟩
theorem kX12_advances_180 : ev_K mX12_advances 180 mX12_byteAt (some RX12) 2 := ev_kV dX12_advances_180 ⟨ev_in (List.mem_of_getElem? (i := 1049) (by decide +kernel)) rfl, imX12_byteAt, seX12_byteAt, ini_X12, cdX12_byteAt⟩ ⟨rfl, by decide +kernel, by decide +kernel, by decide +kernel⟩
theorem kX12_advances_187 : ev_K mX12_advances 187 mX12_in none 3 := ev_kS dX12_advances_187 ⟨ev_in (List.mem_of_getElem? (i := 1033) (by decide +kernel)) rfl, smX12_in, ini_X12, cdX12_in⟩ ⟨by decide +kernel, by decide +kernel, by decide +kernel⟩
theorem kX12_advances_223 : ev_K mX12_advances 223 mX12_byteAt (some RX12) 2 := ev_kV dX12_advances_223 ⟨ev_in (List.mem_of_getElem? (i := 1049) (by decide +kernel)) rfl, imX12_byteAt, seX12_byteAt, ini_X12, cdX12_byteAt⟩ ⟨rfl, by decide +kernel, by decide +kernel, by decide +kernel⟩
theorem flX12_96 : ev_FL RX12 96 12 8 := ⟨(RX12, TX12, 36), rfl, by decide, ev_in (List.mem_of_getElem? (i := 927) (by decide +kernel)) rfl, in_X12, rfl⟩
theorem cdX12_isWell : ev_code mX12_isWell ∈ ev_TB := ev_in (List.mem_of_getElem? (i := 1066) (by decide +kernel)) rfl
theorem imX12_isWell : Cond.instanceMethod yX12_isWell ∈ ev_TB := ev_in (List.mem_of_getElem? (i := 1065) (by decide +kernel)) rfl
theorem seX12_isWell : Cond.selects RX12 yX12_isWell yX12_isWell ∈ ev_TB := ev_in (List.mem_of_getElem? (i := 25) (by decide +kernel)) rfl
theorem kX12_takes_1 : ev_K mX12_takes 1 mX12_isWell (some RX12) 1 := ev_kV dX12_takes_1 ⟨ev_in (List.mem_of_getElem? (i := 1063) (by decide +kernel)) rfl, imX12_isWell, seX12_isWell, ini_X12, cdX12_isWell⟩ ⟨rfl, by decide +kernel, by decide +kernel, by decide +kernel⟩
theorem fpX12_96 : ev_FP RX12 96 12 8 .int false := ⟨(RX12, TX12, 36), tyX12, rfl, by decide, ev_in (List.mem_of_getElem? (i := 927) (by decide +kernel)) rfl, in_X12, rfl, tyX12_ok, nmX12, by decide +kernel, rfl, fun h => by first | rfl | cases h⟩
theorem cdX12_advances : ev_code mX12_advances ∈ ev_TB := ev_in (List.mem_of_getElem? (i := 1048) (by decide +kernel)) rfl
theorem imX12_advances : Cond.instanceMethod yX12_advances ∈ ev_TB := ev_in (List.mem_of_getElem? (i := 1047) (by decide +kernel)) rfl
theorem seX12_advances : Cond.selects RX12 yX12_advances yX12_advances ∈ ev_TB := ev_in (List.mem_of_getElem? (i := 23) (by decide +kernel)) rfl
theorem kX12_takes_29 : ev_K mX12_takes 29 mX12_advances (some RX12) 1 := ev_kV dX12_takes_29 ⟨ev_in (List.mem_of_getElem? (i := 1045) (by decide +kernel)) rfl, imX12_advances, seX12_advances, ini_X12, cdX12_advances⟩ ⟨rfl, by decide +kernel, by decide +kernel, by decide +kernel⟩
theorem flX12_86 : ev_FL RX12 86 12 5 := ⟨(RX12, TX12, 36), rfl, by decide, ev_in (List.mem_of_getElem? (i := 924) (by decide +kernel)) rfl, in_X12, rfl⟩
theorem kX12_number_15 : ev_K mX12_number 15 mX12_in none 3 := ev_kS dX12_number_15 ⟨ev_in (List.mem_of_getElem? (i := 1033) (by decide +kernel)) rfl, smX12_in, ini_X12, cdX12_in⟩ ⟨by decide +kernel, by decide +kernel, by decide +kernel⟩
theorem cdX12_takes : ev_code mX12_takes ∈ ev_TB := ev_in (List.mem_of_getElem? (i := 1070) (by decide +kernel)) rfl
theorem imX12_takes : Cond.instanceMethod yX12_takes ∈ ev_TB := ev_in (List.mem_of_getElem? (i := 1069) (by decide +kernel)) rfl
theorem seX12_takes : Cond.selects RX12 yX12_takes yX12_takes ∈ ev_TB := ev_in (List.mem_of_getElem? (i := 26) (by decide +kernel)) rfl
theorem kX12_number_26 : ev_K mX12_number 26 mX12_takes (some RX12) 2 := ev_kV dX12_number_26 ⟨ev_in (List.mem_of_getElem? (i := 1067) (by decide +kernel)) rfl, imX12_takes, seX12_takes, ini_X12, cdX12_takes⟩ ⟨rfl, by decide +kernel, by decide +kernel, by decide +kernel⟩
theorem flX12_110 : ev_FL RX12 110 12 20 := ⟨(RX12, TX12, 36), rfl, by decide, ev_in (List.mem_of_getElem? (i := 939) (by decide +kernel)) rfl, in_X12, rfl⟩
theorem flX12_29 : ev_FL RX12 29 12 17 := ⟨(RX12, TX12, 36), rfl, by decide, ev_in (List.mem_of_getElem? (i := 936) (by decide +kernel)) rfl, in_X12, rfl⟩
theorem cdX12_number : ev_code mX12_number ∈ ev_TB := ev_in (List.mem_of_getElem? (i := 1078) (by decide +kernel)) rfl
theorem imX12_number : Cond.instanceMethod yX12_number ∈ ev_TB := ev_in (List.mem_of_getElem? (i := 1077) (by decide +kernel)) rfl
theorem seX12_number : Cond.selects RX12 yX12_number yX12_number ∈ ev_TB := ev_in (List.mem_of_getElem? (i := 28) (by decide +kernel)) rfl
theorem kX12_readsItem_25 : ev_K mX12_readsItem 25 mX12_number (some RX12) 3 := ev_kV dX12_readsItem_25 ⟨ev_in (List.mem_of_getElem? (i := 1075) (by decide +kernel)) rfl, imX12_number, seX12_number, ini_X12, cdX12_number⟩ ⟨rfl, by decide +kernel, by decide +kernel, by decide +kernel⟩
theorem kX12_readsItem_43 : ev_K mX12_readsItem 43 mX12_number (some RX12) 3 := ev_kV dX12_readsItem_43 ⟨ev_in (List.mem_of_getElem? (i := 1075) (by decide +kernel)) rfl, imX12_number, seX12_number, ini_X12, cdX12_number⟩ ⟨rfl, by decide +kernel, by decide +kernel, by decide +kernel⟩
theorem kX12_readsItem_59 : ev_K mX12_readsItem 59 mX12_number (some RX12) 3 := ev_kV dX12_readsItem_59 ⟨ev_in (List.mem_of_getElem? (i := 1075) (by decide +kernel)) rfl, imX12_number, seX12_number, ini_X12, cdX12_number⟩ ⟨rfl, by decide +kernel, by decide +kernel, by decide +kernel⟩
theorem kX12_readsItem_77 : ev_K mX12_readsItem 77 mX12_number (some RX12) 3 := ev_kV dX12_readsItem_77 ⟨ev_in (List.mem_of_getElem? (i := 1075) (by decide +kernel)) rfl, imX12_number, seX12_number, ini_X12, cdX12_number⟩ ⟨rfl, by decide +kernel, by decide +kernel, by decide +kernel⟩
theorem kX12_readsItem_93 : ev_K mX12_readsItem 93 mX12_number (some RX12) 3 := ev_kV dX12_readsItem_93 ⟨ev_in (List.mem_of_getElem? (i := 1075) (by decide +kernel)) rfl, imX12_number, seX12_number, ini_X12, cdX12_number⟩ ⟨rfl, by decide +kernel, by decide +kernel, by decide +kernel⟩
theorem kX12_readsItem_108 : ev_K mX12_readsItem 108 mX12_number (some RX12) 3 := ev_kV dX12_readsItem_108 ⟨ev_in (List.mem_of_getElem? (i := 1075) (by decide +kernel)) rfl, imX12_number, seX12_number, ini_X12, cdX12_number⟩ ⟨rfl, by decide +kernel, by decide +kernel, by decide +kernel⟩
theorem fpX12_110 : ev_FP RX12 110 12 20 .int false := ⟨(RX12, TX12, 36), tyX12, rfl, by decide, ev_in (List.mem_of_getElem? (i := 939) (by decide +kernel)) rfl, in_X12, rfl, tyX12_ok, nmX12, by decide +kernel, rfl, fun h => by first | rfl | cases h⟩
theorem flX12_32 : ev_FL RX12 32 12 18 := ⟨(RX12, TX12, 36), rfl, by decide, ev_in (List.mem_of_getElem? (i := 937) (by decide +kernel)) rfl, in_X12, rfl⟩
theorem flX12_117 : ev_FL RX12 117 12 21 := ⟨(RX12, TX12, 36), rfl, by decide, ev_in (List.mem_of_getElem? (i := 940) (by decide +kernel)) rfl, in_X12, rfl⟩
theorem kX12_readsItem_155 : ev_K mX12_readsItem 155 mX12_number (some RX12) 3 := ev_kV dX12_readsItem_155 ⟨ev_in (List.mem_of_getElem? (i := 1075) (by decide +kernel)) rfl, imX12_number, seX12_number, ini_X12, cdX12_number⟩ ⟨rfl, by decide +kernel, by decide +kernel, by decide +kernel⟩
theorem kX12_readsItem_175 : ev_K mX12_readsItem 175 mX12_number (some RX12) 3 := ev_kV dX12_readsItem_175 ⟨ev_in (List.mem_of_getElem? (i := 1075) (by decide +kernel)) rfl, imX12_number, seX12_number, ini_X12, cdX12_number⟩ ⟨rfl, by decide +kernel, by decide +kernel, by decide +kernel⟩
theorem fpX12_117 : ev_FP RX12 117 12 21 .int false := ⟨(RX12, TX12, 36), tyX12, rfl, by decide, ev_in (List.mem_of_getElem? (i := 940) (by decide +kernel)) rfl, in_X12, rfl, tyX12_ok, nmX12, by decide +kernel, rfl, fun h => by first | rfl | cases h⟩
theorem kX12_readsItem_207 : ev_K mX12_readsItem 207 mX12_in none 3 := ev_kS dX12_readsItem_207 ⟨ev_in (List.mem_of_getElem? (i := 1033) (by decide +kernel)) rfl, smX12_in, ini_X12, cdX12_in⟩ ⟨by decide +kernel, by decide +kernel, by decide +kernel⟩
theorem kX12_readsItem_218 : ev_K mX12_readsItem 218 mX12_takes (some RX12) 2 := ev_kV dX12_readsItem_218 ⟨ev_in (List.mem_of_getElem? (i := 1067) (by decide +kernel)) rfl, imX12_takes, seX12_takes, ini_X12, cdX12_takes⟩ ⟨rfl, by decide +kernel, by decide +kernel, by decide +kernel⟩
theorem kX12_readsItem_226 : ev_K mX12_readsItem 226 mX12_number (some RX12) 3 := ev_kV dX12_readsItem_226 ⟨ev_in (List.mem_of_getElem? (i := 1075) (by decide +kernel)) rfl, imX12_number, seX12_number, ini_X12, cdX12_number⟩ ⟨rfl, by decide +kernel, by decide +kernel, by decide +kernel⟩
theorem flX12_35 : ev_FL RX12 35 12 19 := ⟨(RX12, TX12, 36), rfl, by decide, ev_in (List.mem_of_getElem? (i := 938) (by decide +kernel)) rfl, in_X12, rfl⟩
theorem flX12_120 : ev_FL RX12 120 12 22 := ⟨(RX12, TX12, 36), rfl, by decide, ev_in (List.mem_of_getElem? (i := 941) (by decide +kernel)) rfl, in_X12, rfl⟩
theorem kX12_readsItem_268 : ev_K mX12_readsItem 268 mX12_number (some RX12) 3 := ev_kV dX12_readsItem_268 ⟨ev_in (List.mem_of_getElem? (i := 1075) (by decide +kernel)) rfl, imX12_number, seX12_number, ini_X12, cdX12_number⟩ ⟨rfl, by decide +kernel, by decide +kernel, by decide +kernel⟩
theorem fpX12_120 : ev_FP RX12 120 12 22 .int false := ⟨(RX12, TX12, 36), tyX12, rfl, by decide, ev_in (List.mem_of_getElem? (i := 941) (by decide +kernel)) rfl, in_X12, rfl, tyX12_ok, nmX12, by decide +kernel, rfl, fun h => by first | rfl | cases h⟩
theorem kX12_arrows_33 : ev_K mX12_arrows 33 mX12_advances (some RX12) 1 := ev_kV dX12_arrows_33 ⟨ev_in (List.mem_of_getElem? (i := 1045) (by decide +kernel)) rfl, imX12_advances, seX12_advances, ini_X12, cdX12_advances⟩ ⟨rfl, by decide +kernel, by decide +kernel, by decide +kernel⟩
theorem kX12_arrows_37 : ev_K mX12_arrows 37 mX12_isWell (some RX12) 1 := ev_kV dX12_arrows_37 ⟨ev_in (List.mem_of_getElem? (i := 1063) (by decide +kernel)) rfl, imX12_isWell, seX12_isWell, ini_X12, cdX12_isWell⟩ ⟨rfl, by decide +kernel, by decide +kernel, by decide +kernel⟩
theorem kX12_arrows_118 : ev_K mX12_arrows 118 mX12_takes (some RX12) 2 := ev_kV dX12_arrows_118 ⟨ev_in (List.mem_of_getElem? (i := 1067) (by decide +kernel)) rfl, imX12_takes, seX12_takes, ini_X12, cdX12_takes⟩ ⟨rfl, by decide +kernel, by decide +kernel, by decide +kernel⟩
theorem kX12_arrows_123 : ev_K mX12_arrows 123 mX12_isWell (some RX12) 1 := ev_kV dX12_arrows_123 ⟨ev_in (List.mem_of_getElem? (i := 1063) (by decide +kernel)) rfl, imX12_isWell, seX12_isWell, ini_X12, cdX12_isWell⟩ ⟨rfl, by decide +kernel, by decide +kernel, by decide +kernel⟩
theorem cdX12_readsItem : ev_code mX12_readsItem ∈ ev_TB := ev_in (List.mem_of_getElem? (i := 1074) (by decide +kernel)) rfl
theorem imX12_readsItem : Cond.instanceMethod yX12_readsItem ∈ ev_TB := ev_in (List.mem_of_getElem? (i := 1073) (by decide +kernel)) rfl
theorem seX12_readsItem : Cond.selects RX12 yX12_readsItem yX12_readsItem ∈ ev_TB := ev_in (List.mem_of_getElem? (i := 27) (by decide +kernel)) rfl
theorem kX12_arrows_131 : ev_K mX12_arrows 131 mX12_readsItem (some RX12) 2 := ev_kV dX12_arrows_131 ⟨ev_in (List.mem_of_getElem? (i := 1071) (by decide +kernel)) rfl, imX12_readsItem, seX12_readsItem, ini_X12, cdX12_readsItem⟩ ⟨rfl, by decide +kernel, by decide +kernel, by decide +kernel⟩
theorem kX12_arrows_148 : ev_K mX12_arrows 148 mX12_takes (some RX12) 2 := ev_kV dX12_arrows_148 ⟨ev_in (List.mem_of_getElem? (i := 1067) (by decide +kernel)) rfl, imX12_takes, seX12_takes, ini_X12, cdX12_takes⟩ ⟨rfl, by decide +kernel, by decide +kernel, by decide +kernel⟩
theorem kX12_arrows_159 : ev_K mX12_arrows 159 mX12_isWell (some RX12) 1 := ev_kV dX12_arrows_159 ⟨ev_in (List.mem_of_getElem? (i := 1063) (by decide +kernel)) rfl, imX12_isWell, seX12_isWell, ini_X12, cdX12_isWell⟩ ⟨rfl, by decide +kernel, by decide +kernel, by decide +kernel⟩
theorem flX12_23 : ev_FL RX12 23 12 15 := ⟨(RX12, TX12, 36), rfl, by decide, ev_in (List.mem_of_getElem? (i := 934) (by decide +kernel)) rfl, in_X12, rfl⟩
theorem flX12_26 : ev_FL RX12 26 12 16 := ⟨(RX12, TX12, 36), rfl, by decide, ev_in (List.mem_of_getElem? (i := 935) (by decide +kernel)) rfl, in_X12, rfl⟩
theorem fpX12_127 : ev_FP RX12 127 12 12 .int false := ⟨(RX12, TX12, 36), tyX12, rfl, by decide, ev_in (List.mem_of_getElem? (i := 931) (by decide +kernel)) rfl, in_X12, rfl, tyX12_ok, nmX12, by decide +kernel, rfl, fun h => by first | rfl | cases h⟩
theorem fpX12_130 : ev_FP RX12 130 12 13 .int false := ⟨(RX12, TX12, 36), tyX12, rfl, by decide, ev_in (List.mem_of_getElem? (i := 932) (by decide +kernel)) rfl, in_X12, rfl, tyX12_ok, nmX12, by decide +kernel, rfl, fun h => by first | rfl | cases h⟩
theorem fpX12_133 : ev_FP RX12 133 12 14 .int false := ⟨(RX12, TX12, 36), tyX12, rfl, by decide, ev_in (List.mem_of_getElem? (i := 933) (by decide +kernel)) rfl, in_X12, rfl, tyX12_ok, nmX12, by decide +kernel, rfl, fun h => by first | rfl | cases h⟩
theorem flX12_19 : ev_FL RX12 19 12 11 := ⟨(RX12, TX12, 36), rfl, by decide, ev_in (List.mem_of_getElem? (i := 930) (by decide +kernel)) rfl, in_X12, rfl⟩
theorem flX12_127 : ev_FL RX12 127 12 12 := ⟨(RX12, TX12, 36), rfl, by decide, ev_in (List.mem_of_getElem? (i := 931) (by decide +kernel)) rfl, in_X12, rfl⟩
theorem kX12_isStick_8 : ev_K mX12_isStick 8 mX12_in none 3 := ev_kS dX12_isStick_8 ⟨ev_in (List.mem_of_getElem? (i := 1033) (by decide +kernel)) rfl, smX12_in, ini_X12, cdX12_in⟩ ⟨by decide +kernel, by decide +kernel, by decide +kernel⟩
theorem flX12_130 : ev_FL RX12 130 12 13 := ⟨(RX12, TX12, 36), rfl, by decide, ev_in (List.mem_of_getElem? (i := 932) (by decide +kernel)) rfl, in_X12, rfl⟩
theorem kX12_isBow_8 : ev_K mX12_isBow 8 mX12_in none 3 := ev_kS dX12_isBow_8 ⟨ev_in (List.mem_of_getElem? (i := 1033) (by decide +kernel)) rfl, smX12_in, ini_X12, cdX12_in⟩ ⟨by decide +kernel, by decide +kernel, by decide +kernel⟩
theorem cdX12_isStick : ev_code mX12_isStick ∈ ev_TB := ev_in (List.mem_of_getElem? (i := 1086) (by decide +kernel)) rfl
theorem imX12_isStick : Cond.instanceMethod yX12_isStick ∈ ev_TB := ev_in (List.mem_of_getElem? (i := 1085) (by decide +kernel)) rfl
theorem seX12_isStick : Cond.selects RX12 yX12_isStick yX12_isStick ∈ ev_TB := ev_in (List.mem_of_getElem? (i := 29) (by decide +kernel)) rfl
theorem kX12_stick_7 : ev_K mX12_stick 7 mX12_isStick (some RX12) 2 := ev_kV dX12_stick_7 ⟨ev_in (List.mem_of_getElem? (i := 1083) (by decide +kernel)) rfl, imX12_isStick, seX12_isStick, ini_X12, cdX12_isStick⟩ ⟨rfl, by decide +kernel, by decide +kernel, by decide +kernel⟩
theorem kX12_stick_17 : ev_K mX12_stick 17 mX12_in none 3 := ev_kS dX12_stick_17 ⟨ev_in (List.mem_of_getElem? (i := 1033) (by decide +kernel)) rfl, smX12_in, ini_X12, cdX12_in⟩ ⟨by decide +kernel, by decide +kernel, by decide +kernel⟩
theorem cdX12_isBow : ev_code mX12_isBow ∈ ev_TB := ev_in (List.mem_of_getElem? (i := 1094) (by decide +kernel)) rfl
theorem imX12_isBow : Cond.instanceMethod yX12_isBow ∈ ev_TB := ev_in (List.mem_of_getElem? (i := 1093) (by decide +kernel)) rfl
theorem seX12_isBow : Cond.selects RX12 yX12_isBow yX12_isBow ∈ ev_TB := ev_in (List.mem_of_getElem? (i := 30) (by decide +kernel)) rfl
theorem kX12_bow_7 : ev_K mX12_bow 7 mX12_isBow (some RX12) 2 := ev_kV dX12_bow_7 ⟨ev_in (List.mem_of_getElem? (i := 1091) (by decide +kernel)) rfl, imX12_isBow, seX12_isBow, ini_X12, cdX12_isBow⟩ ⟨rfl, by decide +kernel, by decide +kernel, by decide +kernel⟩
theorem kX12_bow_16 : ev_K mX12_bow 16 mX12_in none 3 := ev_kS dX12_bow_16 ⟨ev_in (List.mem_of_getElem? (i := 1033) (by decide +kernel)) rfl, smX12_in, ini_X12, cdX12_in⟩ ⟨by decide +kernel, by decide +kernel, by decide +kernel⟩
theorem flX12_133 : ev_FL RX12 133 12 14 := ⟨(RX12, TX12, 36), rfl, by decide, ev_in (List.mem_of_getElem? (i := 933) (by decide +kernel)) rfl, in_X12, rfl⟩
theorem kX12_archer_13 : ev_K mX12_archer 13 mX12_in none 3 := ev_kS dX12_archer_13 ⟨ev_in (List.mem_of_getElem? (i := 1033) (by decide +kernel)) rfl, smX12_in, ini_X12, cdX12_in⟩ ⟨by decide +kernel, by decide +kernel, by decide +kernel⟩
theorem kX12_archer_22 : ev_K mX12_archer 22 mX12_in none 3 := ev_kS dX12_archer_22 ⟨ev_in (List.mem_of_getElem? (i := 1033) (by decide +kernel)) rfl, smX12_in, ini_X12, cdX12_in⟩ ⟨by decide +kernel, by decide +kernel, by decide +kernel⟩
theorem coX12_143 : Cond.constant RX12 143 (-1000000) ∈ ev_TB := ev_in (List.mem_of_getElem? (i := 1099) (by decide +kernel)) rfl
theorem kX12_tune_40 : ev_K mX12_tune 40 mX12_in none 3 := ev_kS dX12_tune_40 ⟨ev_in (List.mem_of_getElem? (i := 1033) (by decide +kernel)) rfl, smX12_in, ini_X12, cdX12_in⟩ ⟨by decide +kernel, by decide +kernel, by decide +kernel⟩
theorem kX12_tune_59 : ev_K mX12_tune 59 mX12_in none 3 := ev_kS dX12_tune_59 ⟨ev_in (List.mem_of_getElem? (i := 1033) (by decide +kernel)) rfl, smX12_in, ini_X12, cdX12_in⟩ ⟨by decide +kernel, by decide +kernel, by decide +kernel⟩
theorem kX12_cut_7 : ev_K mX12_cut 7 mX12_isStick (some RX12) 2 := ev_kV dX12_cut_7 ⟨ev_in (List.mem_of_getElem? (i := 1083) (by decide +kernel)) rfl, imX12_isStick, seX12_isStick, ini_X12, cdX12_isStick⟩ ⟨rfl, by decide +kernel, by decide +kernel, by decide +kernel⟩
theorem kX12_scrape_7 : ev_K mX12_scrape 7 mX12_isStick (some RX12) 2 := ev_kV dX12_scrape_7 ⟨ev_in (List.mem_of_getElem? (i := 1083) (by decide +kernel)) rfl, imX12_isStick, seX12_isStick, ini_X12, cdX12_isStick⟩ ⟨rfl, by decide +kernel, by decide +kernel, by decide +kernel⟩
theorem cdX12_mayScrape : ev_code mX12_mayScrape ∈ ev_TB := ev_in (List.mem_of_getElem? (i := 1115) (by decide +kernel)) rfl
theorem imX12_mayScrape : Cond.instanceMethod yX12_mayScrape ∈ ev_TB := ev_in (List.mem_of_getElem? (i := 1114) (by decide +kernel)) rfl
theorem seX12_mayScrape : Cond.selects RX12 yX12_mayScrape yX12_mayScrape ∈ ev_TB := ev_in (List.mem_of_getElem? (i := 31) (by decide +kernel)) rfl
theorem kX12_scrape_27 : ev_K mX12_scrape 27 mX12_mayScrape (some RX12) 4 := ev_kV dX12_scrape_27 ⟨ev_in (List.mem_of_getElem? (i := 1112) (by decide +kernel)) rfl, imX12_mayScrape, seX12_mayScrape, ini_X12, cdX12_mayScrape⟩ ⟨rfl, by decide +kernel, by decide +kernel, by decide +kernel⟩
theorem kX12_load_7 : ev_K mX12_load 7 mX12_isStick (some RX12) 2 := ev_kV dX12_load_7 ⟨ev_in (List.mem_of_getElem? (i := 1083) (by decide +kernel)) rfl, imX12_isStick, seX12_isStick, ini_X12, cdX12_isStick⟩ ⟨rfl, by decide +kernel, by decide +kernel, by decide +kernel⟩
theorem kX12_turn_7 : ev_K mX12_turn 7 mX12_isStick (some RX12) 2 := ev_kV dX12_turn_7 ⟨ev_in (List.mem_of_getElem? (i := 1083) (by decide +kernel)) rfl, imX12_isStick, seX12_isStick, ini_X12, cdX12_isStick⟩ ⟨rfl, by decide +kernel, by decide +kernel, by decide +kernel⟩
theorem kX12_tries_34 : ev_K mX12_tries 34 mX12_mayScrape (some RX12) 4 := ev_kV dX12_tries_34 ⟨ev_in (List.mem_of_getElem? (i := 1112) (by decide +kernel)) rfl, imX12_mayScrape, seX12_mayScrape, ini_X12, cdX12_mayScrape⟩ ⟨rfl, by decide +kernel, by decide +kernel, by decide +kernel⟩
theorem cdX12_lays : ev_code mX12_lays ∈ ev_TB := ev_in (List.mem_of_getElem? (i := 1138) (by decide +kernel)) rfl
theorem imX12_lays : Cond.instanceMethod yX12_lays ∈ ev_TB := ev_in (List.mem_of_getElem? (i := 1137) (by decide +kernel)) rfl
theorem seX12_lays : Cond.selects RX12 yX12_lays yX12_lays ∈ ev_TB := ev_in (List.mem_of_getElem? (i := 33) (by decide +kernel)) rfl
theorem kX12_tries_69 : ev_K mX12_tries 69 mX12_lays (some RX12) 2 := ev_kV dX12_tries_69 ⟨ev_in (List.mem_of_getElem? (i := 1135) (by decide +kernel)) rfl, imX12_lays, seX12_lays, ini_X12, cdX12_lays⟩ ⟨rfl, by decide +kernel, by decide +kernel, by decide +kernel⟩
theorem flX12_41 : ev_FL RX12 41 12 24 := ⟨(RX12, TX12, 36), rfl, by decide, ev_in (List.mem_of_getElem? (i := 943) (by decide +kernel)) rfl, in_X12, rfl⟩
theorem kX12_isAct_3 : ev_K mX12_isAct 3 mX12_in none 3 := ev_kS dX12_isAct_3 ⟨ev_in (List.mem_of_getElem? (i := 1033) (by decide +kernel)) rfl, smX12_in, ini_X12, cdX12_in⟩ ⟨by decide +kernel, by decide +kernel, by decide +kernel⟩
theorem kX12_least_7 : ev_K mX12_least 7 mX12_isStick (some RX12) 2 := ev_kV dX12_least_7 ⟨ev_in (List.mem_of_getElem? (i := 1083) (by decide +kernel)) rfl, imX12_isStick, seX12_isStick, ini_X12, cdX12_isStick⟩ ⟨rfl, by decide +kernel, by decide +kernel, by decide +kernel⟩
theorem kX12_least_15 : ev_K mX12_least 15 mX12_isBow (some RX12) 2 := ev_kV dX12_least_15 ⟨ev_in (List.mem_of_getElem? (i := 1091) (by decide +kernel)) rfl, imX12_isBow, seX12_isBow, ini_X12, cdX12_isBow⟩ ⟨rfl, by decide +kernel, by decide +kernel, by decide +kernel⟩
theorem kX12_least_29 : ev_K mX12_least 29 mX12_in none 3 := ev_kS dX12_least_29 ⟨ev_in (List.mem_of_getElem? (i := 1033) (by decide +kernel)) rfl, smX12_in, ini_X12, cdX12_in⟩ ⟨by decide +kernel, by decide +kernel, by decide +kernel⟩
theorem kX12_least_41 : ev_K mX12_least 41 mX12_in none 3 := ev_kS dX12_least_41 ⟨ev_in (List.mem_of_getElem? (i := 1033) (by decide +kernel)) rfl, smX12_in, ini_X12, cdX12_in⟩ ⟨by decide +kernel, by decide +kernel, by decide +kernel⟩
theorem cdX12_isAct : ev_code mX12_isAct ∈ ev_TB := ev_in (List.mem_of_getElem? (i := 1130) (by decide +kernel)) rfl
theorem smX12_isAct : Cond.static yX12_isAct ∈ ev_TB := ev_in (List.mem_of_getElem? (i := 1129) (by decide +kernel)) rfl
theorem kX12_least_49 : ev_K mX12_least 49 mX12_isAct none 1 := ev_kS dX12_least_49 ⟨ev_in (List.mem_of_getElem? (i := 1128) (by decide +kernel)) rfl, smX12_isAct, ini_X12, cdX12_isAct⟩ ⟨by decide +kernel, by decide +kernel, by decide +kernel⟩
theorem flX12_50 : ev_FL RX12 50 12 33 := ⟨(RX12, TX12, 36), rfl, by decide, ev_in (List.mem_of_getElem? (i := 952) (by decide +kernel)) rfl, in_X12, rfl⟩
theorem cdX12_tries : ev_code mX12_tries ∈ ev_TB := ev_in (List.mem_of_getElem? (i := 1134) (by decide +kernel)) rfl
theorem imX12_tries : Cond.instanceMethod yX12_tries ∈ ev_TB := ev_in (List.mem_of_getElem? (i := 1133) (by decide +kernel)) rfl
theorem seX12_tries : Cond.selects RX12 yX12_tries yX12_tries ∈ ev_TB := ev_in (List.mem_of_getElem? (i := 32) (by decide +kernel)) rfl
theorem kX12_least_161 : ev_K mX12_least 161 mX12_tries (some RX12) 6 := ev_kV dX12_least_161 ⟨ev_in (List.mem_of_getElem? (i := 1131) (by decide +kernel)) rfl, imX12_tries, seX12_tries, ini_X12, cdX12_tries⟩ ⟨rfl, by decide +kernel, by decide +kernel, by decide +kernel⟩
theorem kX12_least_183 : ev_K mX12_least 183 mX12_in none 3 := ev_kS dX12_least_183 ⟨ev_in (List.mem_of_getElem? (i := 1033) (by decide +kernel)) rfl, smX12_in, ini_X12, cdX12_in⟩ ⟨by decide +kernel, by decide +kernel, by decide +kernel⟩
theorem cdX12_flies : ev_code mX12_flies ∈ ev_TB := ev_in (List.mem_of_getElem? (i := 1142) (by decide +kernel)) rfl
theorem imX12_flies : Cond.instanceMethod yX12_flies ∈ ev_TB := ev_in (List.mem_of_getElem? (i := 1141) (by decide +kernel)) rfl
theorem seX12_flies : Cond.selects RX12 yX12_flies yX12_flies ∈ ev_TB := ev_in (List.mem_of_getElem? (i := 34) (by decide +kernel)) rfl
theorem kX12_least_208 : ev_K mX12_least 208 mX12_flies (some RX12) 3 := ev_kV dX12_least_208 ⟨ev_in (List.mem_of_getElem? (i := 1139) (by decide +kernel)) rfl, imX12_flies, seX12_flies, ini_X12, cdX12_flies⟩ ⟨rfl, by decide +kernel, by decide +kernel, by decide +kernel⟩
theorem flX12_162 : ev_FL RX12 162 12 30 := ⟨(RX12, TX12, 36), rfl, by decide, ev_in (List.mem_of_getElem? (i := 949) (by decide +kernel)) rfl, in_X12, rfl⟩
theorem cdX12_size : ev_code mX12_size ∈ ev_TB := ev_in (List.mem_of_getElem? (i := 1149) (by decide +kernel)) rfl
theorem smX12_size : Cond.static yX12_size ∈ ev_TB := ev_in (List.mem_of_getElem? (i := 1148) (by decide +kernel)) rfl
theorem kX12_kindOf_1 : ev_K mX12_kindOf 1 mX12_size none 1 := ev_kS dX12_kindOf_1 ⟨ev_in (List.mem_of_getElem? (i := 1147) (by decide +kernel)) rfl, smX12_size, ini_X12, cdX12_size⟩ ⟨by decide +kernel, by decide +kernel, by decide +kernel⟩
theorem kX12_kindOf_18 : ev_K mX12_kindOf 18 mX12_size none 1 := ev_kS dX12_kindOf_18 ⟨ev_in (List.mem_of_getElem? (i := 1147) (by decide +kernel)) rfl, smX12_size, ini_X12, cdX12_size⟩ ⟨by decide +kernel, by decide +kernel, by decide +kernel⟩
theorem cdX12_kindOf : ev_code mX12_kindOf ∈ ev_TB := ev_in (List.mem_of_getElem? (i := 1146) (by decide +kernel)) rfl
theorem imX12_kindOf : Cond.instanceMethod yX12_kindOf ∈ ev_TB := ev_in (List.mem_of_getElem? (i := 1145) (by decide +kernel)) rfl
theorem seX12_kindOf : Cond.selects RX12 yX12_kindOf yX12_kindOf ∈ ev_TB := ev_in (List.mem_of_getElem? (i := 35) (by decide +kernel)) rfl
theorem kX12_bareOf_2 : ev_K mX12_bareOf 2 mX12_kindOf (some RX12) 2 := ev_kV dX12_bareOf_2 ⟨ev_in (List.mem_of_getElem? (i := 1143) (by decide +kernel)) rfl, imX12_kindOf, seX12_kindOf, ini_X12, cdX12_kindOf⟩ ⟨rfl, by decide +kernel, by decide +kernel, by decide +kernel⟩
theorem fpX12_171 : ev_FP RX12 171 12 25 .int false := ⟨(RX12, TX12, 36), tyX12, rfl, by decide, ev_in (List.mem_of_getElem? (i := 944) (by decide +kernel)) rfl, in_X12, rfl, tyX12_ok, nmX12, by decide +kernel, rfl, fun h => by first | rfl | cases h⟩
theorem flX12_171 : ev_FL RX12 171 12 25 := ⟨(RX12, TX12, 36), rfl, by decide, ev_in (List.mem_of_getElem? (i := 944) (by decide +kernel)) rfl, in_X12, rfl⟩
theorem fpX12_174 : ev_FP RX12 174 12 26 .int false := ⟨(RX12, TX12, 36), tyX12, rfl, by decide, ev_in (List.mem_of_getElem? (i := 945) (by decide +kernel)) rfl, in_X12, rfl, tyX12_ok, nmX12, by decide +kernel, rfl, fun h => by first | rfl | cases h⟩
theorem flX12_174 : ev_FL RX12 174 12 26 := ⟨(RX12, TX12, 36), rfl, by decide, ev_in (List.mem_of_getElem? (i := 945) (by decide +kernel)) rfl, in_X12, rfl⟩
theorem kX12_flies_58 : ev_K mX12_flies 58 mX12_kindOf (some RX12) 2 := ev_kV dX12_flies_58 ⟨ev_in (List.mem_of_getElem? (i := 1143) (by decide +kernel)) rfl, imX12_kindOf, seX12_kindOf, ini_X12, cdX12_kindOf⟩ ⟨rfl, by decide +kernel, by decide +kernel, by decide +kernel⟩
theorem fpX12_162 : ev_FP RX12 162 12 30 .int false := ⟨(RX12, TX12, 36), tyX12, rfl, by decide, ev_in (List.mem_of_getElem? (i := 949) (by decide +kernel)) rfl, in_X12, rfl, tyX12_ok, nmX12, by decide +kernel, rfl, fun h => by first | rfl | cases h⟩
theorem cdX12_bareOf : ev_code mX12_bareOf ∈ ev_TB := ev_in (List.mem_of_getElem? (i := 1153) (by decide +kernel)) rfl
theorem imX12_bareOf : Cond.instanceMethod yX12_bareOf ∈ ev_TB := ev_in (List.mem_of_getElem? (i := 1152) (by decide +kernel)) rfl
theorem seX12_bareOf : Cond.selects RX12 yX12_bareOf yX12_bareOf ∈ ev_TB := ev_in (List.mem_of_getElem? (i := 36) (by decide +kernel)) rfl
theorem kX12_flies_70 : ev_K mX12_flies 70 mX12_bareOf (some RX12) 2 := ev_kV dX12_flies_70 ⟨ev_in (List.mem_of_getElem? (i := 1150) (by decide +kernel)) rfl, imX12_bareOf, seX12_bareOf, ini_X12, cdX12_bareOf⟩ ⟨rfl, by decide +kernel, by decide +kernel, by decide +kernel⟩
theorem fpX12_180 : ev_FP RX12 180 12 27 .int false := ⟨(RX12, TX12, 36), tyX12, rfl, by decide, ev_in (List.mem_of_getElem? (i := 946) (by decide +kernel)) rfl, in_X12, rfl, tyX12_ok, nmX12, by decide +kernel, rfl, fun h => by first | rfl | cases h⟩
theorem flX12_180 : ev_FL RX12 180 12 27 := ⟨(RX12, TX12, 36), rfl, by decide, ev_in (List.mem_of_getElem? (i := 946) (by decide +kernel)) rfl, in_X12, rfl⟩
theorem fpX12_183 : ev_FP RX12 183 12 28 .int false := ⟨(RX12, TX12, 36), tyX12, rfl, by decide, ev_in (List.mem_of_getElem? (i := 947) (by decide +kernel)) rfl, in_X12, rfl, tyX12_ok, nmX12, by decide +kernel, rfl, fun h => by first | rfl | cases h⟩
theorem fpX12_186 : ev_FP RX12 186 12 29 .int false := ⟨(RX12, TX12, 36), tyX12, rfl, by decide, ev_in (List.mem_of_getElem? (i := 948) (by decide +kernel)) rfl, in_X12, rfl, tyX12_ok, nmX12, by decide +kernel, rfl, fun h => by first | rfl | cases h⟩
theorem kX12_fliesWith_2 : ev_K mX12_fliesWith 2 mX12_lays (some RX12) 2 := ev_kV dX12_fliesWith_2 ⟨ev_in (List.mem_of_getElem? (i := 1135) (by decide +kernel)) rfl, imX12_lays, seX12_lays, ini_X12, cdX12_lays⟩ ⟨rfl, by decide +kernel, by decide +kernel, by decide +kernel⟩
theorem kX12_fliesWith_24 : ev_K mX12_fliesWith 24 mX12_flies (some RX12) 3 := ev_kV dX12_fliesWith_24 ⟨ev_in (List.mem_of_getElem? (i := 1139) (by decide +kernel)) rfl, imX12_flies, seX12_flies, ini_X12, cdX12_flies⟩ ⟨rfl, by decide +kernel, by decide +kernel, by decide +kernel⟩
theorem kX12_flight_7 : ev_K mX12_flight 7 mX12_isStick (some RX12) 2 := ev_kV dX12_flight_7 ⟨ev_in (List.mem_of_getElem? (i := 1083) (by decide +kernel)) rfl, imX12_isStick, seX12_isStick, ini_X12, cdX12_isStick⟩ ⟨rfl, by decide +kernel, by decide +kernel, by decide +kernel⟩
theorem kX12_flight_15 : ev_K mX12_flight 15 mX12_isBow (some RX12) 2 := ev_kV dX12_flight_15 ⟨ev_in (List.mem_of_getElem? (i := 1091) (by decide +kernel)) rfl, imX12_isBow, seX12_isBow, ini_X12, cdX12_isBow⟩ ⟨rfl, by decide +kernel, by decide +kernel, by decide +kernel⟩
theorem kX12_flight_24 : ev_K mX12_flight 24 mX12_in none 3 := ev_kS dX12_flight_24 ⟨ev_in (List.mem_of_getElem? (i := 1033) (by decide +kernel)) rfl, smX12_in, ini_X12, cdX12_in⟩ ⟨by decide +kernel, by decide +kernel, by decide +kernel⟩
theorem cdX12_fliesWith : ev_code mX12_fliesWith ∈ ev_TB := ev_in (List.mem_of_getElem? (i := 1161) (by decide +kernel)) rfl
theorem imX12_fliesWith : Cond.instanceMethod yX12_fliesWith ∈ ev_TB := ev_in (List.mem_of_getElem? (i := 1160) (by decide +kernel)) rfl
theorem seX12_fliesWith : Cond.selects RX12 yX12_fliesWith yX12_fliesWith ∈ ev_TB := ev_in (List.mem_of_getElem? (i := 37) (by decide +kernel)) rfl
theorem kX12_flight_36 : ev_K mX12_flight 36 mX12_fliesWith (some RX12) 3 := ev_kV dX12_flight_36 ⟨ev_in (List.mem_of_getElem? (i := 1158) (by decide +kernel)) rfl, imX12_fliesWith, seX12_fliesWith, ini_X12, cdX12_fliesWith⟩ ⟨rfl, by decide +kernel, by decide +kernel, by decide +kernel⟩
theorem flX12_183 : ev_FL RX12 183 12 28 := ⟨(RX12, TX12, 36), rfl, by decide, ev_in (List.mem_of_getElem? (i := 947) (by decide +kernel)) rfl, in_X12, rfl⟩
theorem flX12_186 : ev_FL RX12 186 12 29 := ⟨(RX12, TX12, 36), rfl, by decide, ev_in (List.mem_of_getElem? (i := 948) (by decide +kernel)) rfl, in_X12, rfl⟩
theorem kX12_band_7 : ev_K mX12_band 7 mX12_isBow (some RX12) 2 := ev_kV dX12_band_7 ⟨ev_in (List.mem_of_getElem? (i := 1091) (by decide +kernel)) rfl, imX12_isBow, seX12_isBow, ini_X12, cdX12_isBow⟩ ⟨rfl, by decide +kernel, by decide +kernel, by decide +kernel⟩
theorem kX12_band_19 : ev_K mX12_band 19 mX12_in none 3 := ev_kS dX12_band_19 ⟨ev_in (List.mem_of_getElem? (i := 1033) (by decide +kernel)) rfl, smX12_in, ini_X12, cdX12_in⟩ ⟨by decide +kernel, by decide +kernel, by decide +kernel⟩
theorem kX12_band_30 : ev_K mX12_band 30 mX12_in none 3 := ev_kS dX12_band_30 ⟨ev_in (List.mem_of_getElem? (i := 1033) (by decide +kernel)) rfl, smX12_in, ini_X12, cdX12_in⟩ ⟨by decide +kernel, by decide +kernel, by decide +kernel⟩
theorem kX12_band_40 : ev_K mX12_band 40 mX12_in none 3 := ev_kS dX12_band_40 ⟨ev_in (List.mem_of_getElem? (i := 1033) (by decide +kernel)) rfl, smX12_in, ini_X12, cdX12_in⟩ ⟨by decide +kernel, by decide +kernel, by decide +kernel⟩
theorem kX12_band_106 : ev_K mX12_band 106 mX12_kindOf (some RX12) 2 := ev_kV dX12_band_106 ⟨ev_in (List.mem_of_getElem? (i := 1143) (by decide +kernel)) rfl, imX12_kindOf, seX12_kindOf, ini_X12, cdX12_kindOf⟩ ⟨rfl, by decide +kernel, by decide +kernel, by decide +kernel⟩
theorem kX12_says_12 : ev_K mX12_says 12 mX12_in none 3 := ev_kS dX12_says_12 ⟨ev_in (List.mem_of_getElem? (i := 1033) (by decide +kernel)) rfl, smX12_in, ini_X12, cdX12_in⟩ ⟨by decide +kernel, by decide +kernel, by decide +kernel⟩
theorem kX12_says_22 : ev_K mX12_says 22 mX12_in none 3 := ev_kS dX12_says_22 ⟨ev_in (List.mem_of_getElem? (i := 1033) (by decide +kernel)) rfl, smX12_in, ini_X12, cdX12_in⟩ ⟨by decide +kernel, by decide +kernel, by decide +kernel⟩
theorem kX12_says_31 : ev_K mX12_says 31 mX12_in none 3 := ev_kS dX12_says_31 ⟨ev_in (List.mem_of_getElem? (i := 1033) (by decide +kernel)) rfl, smX12_in, ini_X12, cdX12_in⟩ ⟨by decide +kernel, by decide +kernel, by decide +kernel⟩
theorem kX12_says_62 : ev_K mX12_says 62 mX12_bareOf (some RX12) 2 := ev_kV dX12_says_62 ⟨ev_in (List.mem_of_getElem? (i := 1150) (by decide +kernel)) rfl, imX12_bareOf, seX12_bareOf, ini_X12, cdX12_bareOf⟩ ⟨rfl, by decide +kernel, by decide +kernel, by decide +kernel⟩
theorem kX12_areSame_5 : ev_K mX12_areSame 5 mX12_in none 3 := ev_kS dX12_areSame_5 ⟨ev_in (List.mem_of_getElem? (i := 1033) (by decide +kernel)) rfl, smX12_in, ini_X12, cdX12_in⟩ ⟨by decide +kernel, by decide +kernel, by decide +kernel⟩
theorem kX12_areSame_16 : ev_K mX12_areSame 16 mX12_in none 3 := ev_kS dX12_areSame_16 ⟨ev_in (List.mem_of_getElem? (i := 1033) (by decide +kernel)) rfl, smX12_in, ini_X12, cdX12_in⟩ ⟨by decide +kernel, by decide +kernel, by decide +kernel⟩
theorem kX12_fliesAll_19 : ev_K mX12_fliesAll 19 mX12_lays (some RX12) 2 := ev_kV dX12_fliesAll_19 ⟨ev_in (List.mem_of_getElem? (i := 1135) (by decide +kernel)) rfl, imX12_lays, seX12_lays, ini_X12, cdX12_lays⟩ ⟨rfl, by decide +kernel, by decide +kernel, by decide +kernel⟩
theorem kX12_fliesAll_49 : ev_K mX12_fliesAll 49 mX12_flies (some RX12) 3 := ev_kV dX12_fliesAll_49 ⟨ev_in (List.mem_of_getElem? (i := 1139) (by decide +kernel)) rfl, imX12_flies, seX12_flies, ini_X12, cdX12_flies⟩ ⟨rfl, by decide +kernel, by decide +kernel, by decide +kernel⟩
theorem flX12_44 : ev_FL RX12 44 12 31 := ⟨(RX12, TX12, 36), rfl, by decide, ev_in (List.mem_of_getElem? (i := 950) (by decide +kernel)) rfl, in_X12, rfl⟩
theorem flX12_47 : ev_FL RX12 47 12 32 := ⟨(RX12, TX12, 36), rfl, by decide, ev_in (List.mem_of_getElem? (i := 951) (by decide +kernel)) rfl, in_X12, rfl⟩
theorem kX12_areAlike_93 : ev_K mX12_areAlike 93 mX12_size none 1 := ev_kS dX12_areAlike_93 ⟨ev_in (List.mem_of_getElem? (i := 1147) (by decide +kernel)) rfl, smX12_size, ini_X12, cdX12_size⟩ ⟨by decide +kernel, by decide +kernel, by decide +kernel⟩
theorem kX12_areAlike_115 : ev_K mX12_areAlike 115 mX12_size none 1 := ev_kS dX12_areAlike_115 ⟨ev_in (List.mem_of_getElem? (i := 1147) (by decide +kernel)) rfl, smX12_size, ini_X12, cdX12_size⟩ ⟨by decide +kernel, by decide +kernel, by decide +kernel⟩
theorem kX12_alike_7 : ev_K mX12_alike 7 mX12_isBow (some RX12) 2 := ev_kV dX12_alike_7 ⟨ev_in (List.mem_of_getElem? (i := 1091) (by decide +kernel)) rfl, imX12_isBow, seX12_isBow, ini_X12, cdX12_isBow⟩ ⟨rfl, by decide +kernel, by decide +kernel, by decide +kernel⟩
theorem cdX12_areSame : ev_code mX12_areSame ∈ ev_TB := ev_in (List.mem_of_getElem? (i := 1176) (by decide +kernel)) rfl
theorem smX12_areSame : Cond.static yX12_areSame ∈ ev_TB := ev_in (List.mem_of_getElem? (i := 1175) (by decide +kernel)) rfl
theorem kX12_alike_15 : ev_K mX12_alike 15 mX12_areSame none 2 := ev_kS dX12_alike_15 ⟨ev_in (List.mem_of_getElem? (i := 1174) (by decide +kernel)) rfl, smX12_areSame, ini_X12, cdX12_areSame⟩ ⟨by decide +kernel, by decide +kernel, by decide +kernel⟩
theorem kX12_alike_25 : ev_K mX12_alike 25 mX12_in none 3 := ev_kS dX12_alike_25 ⟨ev_in (List.mem_of_getElem? (i := 1033) (by decide +kernel)) rfl, smX12_in, ini_X12, cdX12_in⟩ ⟨by decide +kernel, by decide +kernel, by decide +kernel⟩
theorem cdX12_fliesAll : ev_code mX12_fliesAll ∈ ev_TB := ev_in (List.mem_of_getElem? (i := 1180) (by decide +kernel)) rfl
theorem imX12_fliesAll : Cond.instanceMethod yX12_fliesAll ∈ ev_TB := ev_in (List.mem_of_getElem? (i := 1179) (by decide +kernel)) rfl
theorem seX12_fliesAll : Cond.selects RX12 yX12_fliesAll yX12_fliesAll ∈ ev_TB := ev_in (List.mem_of_getElem? (i := 38) (by decide +kernel)) rfl
theorem kX12_alike_35 : ev_K mX12_alike 35 mX12_fliesAll (some RX12) 2 := ev_kV dX12_alike_35 ⟨ev_in (List.mem_of_getElem? (i := 1177) (by decide +kernel)) rfl, imX12_fliesAll, seX12_fliesAll, ini_X12, cdX12_fliesAll⟩ ⟨rfl, by decide +kernel, by decide +kernel, by decide +kernel⟩
theorem cdX12_manyOf : ev_code mX12_manyOf ∈ ev_TB := ev_in (List.mem_of_getElem? (i := 1184) (by decide +kernel)) rfl
theorem imX12_manyOf : Cond.instanceMethod yX12_manyOf ∈ ev_TB := ev_in (List.mem_of_getElem? (i := 1183) (by decide +kernel)) rfl
theorem seX12_manyOf : Cond.selects RX12 yX12_manyOf yX12_manyOf ∈ ev_TB := ev_in (List.mem_of_getElem? (i := 39) (by decide +kernel)) rfl
theorem kX12_alike_58 : ev_K mX12_alike 58 mX12_manyOf (some RX12) 2 := ev_kV dX12_alike_58 ⟨ev_in (List.mem_of_getElem? (i := 1181) (by decide +kernel)) rfl, imX12_manyOf, seX12_manyOf, ini_X12, cdX12_manyOf⟩ ⟨rfl, by decide +kernel, by decide +kernel, by decide +kernel⟩
theorem kX12_alike_64 : ev_K mX12_alike 64 mX12_manyOf (some RX12) 2 := ev_kV dX12_alike_64 ⟨ev_in (List.mem_of_getElem? (i := 1181) (by decide +kernel)) rfl, imX12_manyOf, seX12_manyOf, ini_X12, cdX12_manyOf⟩ ⟨rfl, by decide +kernel, by decide +kernel, by decide +kernel⟩
theorem cdX12_areAlike : ev_code mX12_areAlike ∈ ev_TB := ev_in (List.mem_of_getElem? (i := 1188) (by decide +kernel)) rfl
theorem imX12_areAlike : Cond.instanceMethod yX12_areAlike ∈ ev_TB := ev_in (List.mem_of_getElem? (i := 1187) (by decide +kernel)) rfl
theorem seX12_areAlike : Cond.selects RX12 yX12_areAlike yX12_areAlike ∈ ev_TB := ev_in (List.mem_of_getElem? (i := 40) (by decide +kernel)) rfl
theorem kX12_alike_75 : ev_K mX12_alike 75 mX12_areAlike (some RX12) 4 := ev_kV dX12_alike_75 ⟨ev_in (List.mem_of_getElem? (i := 1185) (by decide +kernel)) rfl, imX12_areAlike, seX12_areAlike, ini_X12, cdX12_areAlike⟩ ⟨rfl, by decide +kernel, by decide +kernel, by decide +kernel⟩
theorem kX12_alike_109 : ev_K mX12_alike 109 mX12_manyOf (some RX12) 2 := ev_kV dX12_alike_109 ⟨ev_in (List.mem_of_getElem? (i := 1181) (by decide +kernel)) rfl, imX12_manyOf, seX12_manyOf, ini_X12, cdX12_manyOf⟩ ⟨rfl, by decide +kernel, by decide +kernel, by decide +kernel⟩
theorem kX12_turned_7 : ev_K mX12_turned 7 mX12_isBow (some RX12) 2 := ev_kV dX12_turned_7 ⟨ev_in (List.mem_of_getElem? (i := 1091) (by decide +kernel)) rfl, imX12_isBow, seX12_isBow, ini_X12, cdX12_isBow⟩ ⟨rfl, by decide +kernel, by decide +kernel, by decide +kernel⟩
theorem kX12_turned_15 : ev_K mX12_turned 15 mX12_areSame none 2 := ev_kS dX12_turned_15 ⟨ev_in (List.mem_of_getElem? (i := 1174) (by decide +kernel)) rfl, smX12_areSame, ini_X12, cdX12_areSame⟩ ⟨by decide +kernel, by decide +kernel, by decide +kernel⟩
theorem kX12_turned_25 : ev_K mX12_turned 25 mX12_fliesAll (some RX12) 2 := ev_kV dX12_turned_25 ⟨ev_in (List.mem_of_getElem? (i := 1177) (by decide +kernel)) rfl, imX12_fliesAll, seX12_fliesAll, ini_X12, cdX12_fliesAll⟩ ⟨rfl, by decide +kernel, by decide +kernel, by decide +kernel⟩
theorem kX12_turned_97 : ev_K mX12_turned 97 mX12_in none 3 := ev_kS dX12_turned_97 ⟨ev_in (List.mem_of_getElem? (i := 1033) (by decide +kernel)) rfl, smX12_in, ini_X12, cdX12_in⟩ ⟨by decide +kernel, by decide +kernel, by decide +kernel⟩
theorem kX12_turned_130 : ev_K mX12_turned 130 mX12_in none 3 := ev_kS dX12_turned_130 ⟨ev_in (List.mem_of_getElem? (i := 1033) (by decide +kernel)) rfl, smX12_in, ini_X12, cdX12_in⟩ ⟨by decide +kernel, by decide +kernel, by decide +kernel⟩
theorem kX12_turned_173 : ev_K mX12_turned 173 mX12_in none 3 := ev_kS dX12_turned_173 ⟨ev_in (List.mem_of_getElem? (i := 1033) (by decide +kernel)) rfl, smX12_in, ini_X12, cdX12_in⟩ ⟨by decide +kernel, by decide +kernel, by decide +kernel⟩
theorem kX12_wreck_7 : ev_K mX12_wreck 7 mX12_isStick (some RX12) 2 := ev_kV dX12_wreck_7 ⟨ev_in (List.mem_of_getElem? (i := 1083) (by decide +kernel)) rfl, imX12_isStick, seX12_isStick, ini_X12, cdX12_isStick⟩ ⟨rfl, by decide +kernel, by decide +kernel, by decide +kernel⟩
theorem kX12_wreck_17 : ev_K mX12_wreck 17 mX12_in none 3 := ev_kS dX12_wreck_17 ⟨ev_in (List.mem_of_getElem? (i := 1033) (by decide +kernel)) rfl, smX12_in, ini_X12, cdX12_in⟩ ⟨by decide +kernel, by decide +kernel, by decide +kernel⟩
theorem kX12_wreck_26 : ev_K mX12_wreck 26 mX12_in none 3 := ev_kS dX12_wreck_26 ⟨ev_in (List.mem_of_getElem? (i := 1033) (by decide +kernel)) rfl, smX12_in, ini_X12, cdX12_in⟩ ⟨by decide +kernel, by decide +kernel, by decide +kernel⟩
theorem kX12_wreck_36 : ev_K mX12_wreck 36 mX12_lays (some RX12) 2 := ev_kV dX12_wreck_36 ⟨ev_in (List.mem_of_getElem? (i := 1135) (by decide +kernel)) rfl, imX12_lays, seX12_lays, ini_X12, cdX12_lays⟩ ⟨rfl, by decide +kernel, by decide +kernel, by decide +kernel⟩
theorem kX12_wreck_62 : ev_K mX12_wreck 62 mX12_flies (some RX12) 3 := ev_kV dX12_wreck_62 ⟨ev_in (List.mem_of_getElem? (i := 1139) (by decide +kernel)) rfl, imX12_flies, seX12_flies, ini_X12, cdX12_flies⟩ ⟨rfl, by decide +kernel, by decide +kernel, by decide +kernel⟩
theorem kX12_feather_7 : ev_K mX12_feather 7 mX12_isStick (some RX12) 2 := ev_kV dX12_feather_7 ⟨ev_in (List.mem_of_getElem? (i := 1083) (by decide +kernel)) rfl, imX12_isStick, seX12_isStick, ini_X12, cdX12_isStick⟩ ⟨rfl, by decide +kernel, by decide +kernel, by decide +kernel⟩
theorem kX12_feather_15 : ev_K mX12_feather 15 mX12_isBow (some RX12) 2 := ev_kV dX12_feather_15 ⟨ev_in (List.mem_of_getElem? (i := 1091) (by decide +kernel)) rfl, imX12_isBow, seX12_isBow, ini_X12, cdX12_isBow⟩ ⟨rfl, by decide +kernel, by decide +kernel, by decide +kernel⟩
theorem kX12_feather_25 : ev_K mX12_feather 25 mX12_in none 3 := ev_kS dX12_feather_25 ⟨ev_in (List.mem_of_getElem? (i := 1033) (by decide +kernel)) rfl, smX12_in, ini_X12, cdX12_in⟩ ⟨by decide +kernel, by decide +kernel, by decide +kernel⟩
theorem kX12_feather_51 : ev_K mX12_feather 51 mX12_lays (some RX12) 2 := ev_kV dX12_feather_51 ⟨ev_in (List.mem_of_getElem? (i := 1135) (by decide +kernel)) rfl, imX12_lays, seX12_lays, ini_X12, cdX12_lays⟩ ⟨rfl, by decide +kernel, by decide +kernel, by decide +kernel⟩
theorem kX12_feather_81 : ev_K mX12_feather 81 mX12_flies (some RX12) 3 := ev_kV dX12_feather_81 ⟨ev_in (List.mem_of_getElem? (i := 1139) (by decide +kernel)) rfl, imX12_flies, seX12_flies, ini_X12, cdX12_flies⟩ ⟨rfl, by decide +kernel, by decide +kernel, by decide +kernel⟩
theorem kX12_feather_88 : ev_K mX12_feather 88 mX12_size none 1 := ev_kS dX12_feather_88 ⟨ev_in (List.mem_of_getElem? (i := 1147) (by decide +kernel)) rfl, smX12_size, ini_X12, cdX12_size⟩ ⟨by decide +kernel, by decide +kernel, by decide +kernel⟩
theorem kX12_warm_7 : ev_K mX12_warm 7 mX12_isBow (some RX12) 2 := ev_kV dX12_warm_7 ⟨ev_in (List.mem_of_getElem? (i := 1091) (by decide +kernel)) rfl, imX12_isBow, seX12_isBow, ini_X12, cdX12_isBow⟩ ⟨rfl, by decide +kernel, by decide +kernel, by decide +kernel⟩
theorem kX12_warm_17 : ev_K mX12_warm 17 mX12_in none 3 := ev_kS dX12_warm_17 ⟨ev_in (List.mem_of_getElem? (i := 1033) (by decide +kernel)) rfl, smX12_in, ini_X12, cdX12_in⟩ ⟨by decide +kernel, by decide +kernel, by decide +kernel⟩
theorem kX12_warm_26 : ev_K mX12_warm 26 mX12_in none 3 := ev_kS dX12_warm_26 ⟨ev_in (List.mem_of_getElem? (i := 1033) (by decide +kernel)) rfl, smX12_in, ini_X12, cdX12_in⟩ ⟨by decide +kernel, by decide +kernel, by decide +kernel⟩
theorem kX12_warm_83 : ev_K mX12_warm 83 mX12_fliesWith (some RX12) 3 := ev_kV dX12_warm_83 ⟨ev_in (List.mem_of_getElem? (i := 1158) (by decide +kernel)) rfl, imX12_fliesWith, seX12_fliesWith, ini_X12, cdX12_fliesWith⟩ ⟨rfl, by decide +kernel, by decide +kernel, by decide +kernel⟩
theorem kX12_warm_114 : ev_K mX12_warm 114 mX12_flies (some RX12) 3 := ev_kV dX12_warm_114 ⟨ev_in (List.mem_of_getElem? (i := 1139) (by decide +kernel)) rfl, imX12_flies, seX12_flies, ini_X12, cdX12_flies⟩ ⟨rfl, by decide +kernel, by decide +kernel, by decide +kernel⟩
theorem kX12_shoot_7 : ev_K mX12_shoot 7 mX12_isStick (some RX12) 2 := ev_kV dX12_shoot_7 ⟨ev_in (List.mem_of_getElem? (i := 1083) (by decide +kernel)) rfl, imX12_isStick, seX12_isStick, ini_X12, cdX12_isStick⟩ ⟨rfl, by decide +kernel, by decide +kernel, by decide +kernel⟩
theorem kX12_shoot_15 : ev_K mX12_shoot 15 mX12_isBow (some RX12) 2 := ev_kV dX12_shoot_15 ⟨ev_in (List.mem_of_getElem? (i := 1091) (by decide +kernel)) rfl, imX12_isBow, seX12_isBow, ini_X12, cdX12_isBow⟩ ⟨rfl, by decide +kernel, by decide +kernel, by decide +kernel⟩
theorem kX12_shoot_29 : ev_K mX12_shoot 29 mX12_in none 3 := ev_kS dX12_shoot_29 ⟨ev_in (List.mem_of_getElem? (i := 1033) (by decide +kernel)) rfl, smX12_in, ini_X12, cdX12_in⟩ ⟨by decide +kernel, by decide +kernel, by decide +kernel⟩
theorem kX12_shoot_53 : ev_K mX12_shoot 53 mX12_fliesWith (some RX12) 3 := ev_kV dX12_shoot_53 ⟨ev_in (List.mem_of_getElem? (i := 1158) (by decide +kernel)) rfl, imX12_fliesWith, seX12_fliesWith, ini_X12, cdX12_fliesWith⟩ ⟨rfl, by decide +kernel, by decide +kernel, by decide +kernel⟩
theorem coX12_205 : Cond.constant RX12 205 (1103515245) ∈ ev_TB := ev_in (List.mem_of_getElem? (i := 1209) (by decide +kernel)) rfl
theorem coX12_206 : Cond.constant RX12 206 (65535) ∈ ev_TB := ev_in (List.mem_of_getElem? (i := 1210) (by decide +kernel)) rfl
theorem kX12_shot_16 : ev_K mX12_shot 16 mX12_in none 3 := ev_kS dX12_shot_16 ⟨ev_in (List.mem_of_getElem? (i := 1033) (by decide +kernel)) rfl, smX12_in, ini_X12, cdX12_in⟩ ⟨by decide +kernel, by decide +kernel, by decide +kernel⟩
theorem kX12_shot_25 : ev_K mX12_shot 25 mX12_in none 3 := ev_kS dX12_shot_25 ⟨ev_in (List.mem_of_getElem? (i := 1033) (by decide +kernel)) rfl, smX12_in, ini_X12, cdX12_in⟩ ⟨by decide +kernel, by decide +kernel, by decide +kernel⟩
theorem flX12_207 : ev_FL RX12 207 12 35 := ⟨(RX12, TX12, 36), rfl, by decide, ev_in (List.mem_of_getElem? (i := 954) (by decide +kernel)) rfl, in_X12, rfl⟩
theorem cdX12_gcd : ev_code mX12_gcd ∈ ev_TB := ev_in (List.mem_of_getElem? (i := 1233) (by decide +kernel)) rfl
theorem smX12_gcd : Cond.static yX12_gcd ∈ ev_TB := ev_in (List.mem_of_getElem? (i := 1232) (by decide +kernel)) rfl
theorem kX12_adds_5 : ev_K mX12_adds 5 mX12_gcd none 2 := ev_kS dX12_adds_5 ⟨ev_in (List.mem_of_getElem? (i := 1231) (by decide +kernel)) rfl, smX12_gcd, ini_X12, cdX12_gcd⟩ ⟨by decide +kernel, by decide +kernel, by decide +kernel⟩
theorem flX12_215 : ev_FL RX12 215 12 34 := ⟨(RX12, TX12, 36), rfl, by decide, ev_in (List.mem_of_getElem? (i := 953) (by decide +kernel)) rfl, in_X12, rfl⟩
theorem fpX12_215 : ev_FP RX12 215 12 34 .long false := ⟨(RX12, TX12, 36), tyX12, rfl, by decide, ev_in (List.mem_of_getElem? (i := 953) (by decide +kernel)) rfl, in_X12, rfl, tyX12_ok, nmX12, by decide +kernel, rfl, fun h => by first | rfl | cases h⟩
theorem fpX12_207 : ev_FP RX12 207 12 35 .long false := ⟨(RX12, TX12, 36), tyX12, rfl, by decide, ev_in (List.mem_of_getElem? (i := 954) (by decide +kernel)) rfl, in_X12, rfl, tyX12_ok, nmX12, by decide +kernel, rfl, fun h => by first | rfl | cases h⟩
theorem kX12_adds_54 : ev_K mX12_adds 54 mX12_gcd none 2 := ev_kS dX12_adds_54 ⟨ev_in (List.mem_of_getElem? (i := 1231) (by decide +kernel)) rfl, smX12_gcd, ini_X12, cdX12_gcd⟩ ⟨by decide +kernel, by decide +kernel, by decide +kernel⟩
theorem cdX12_adds : ev_code mX12_adds ∈ ev_TB := ev_in (List.mem_of_getElem? (i := 1230) (by decide +kernel)) rfl
theorem imX12_adds : Cond.instanceMethod yX12_adds ∈ ev_TB := ev_in (List.mem_of_getElem? (i := 1229) (by decide +kernel)) rfl
theorem seX12_adds : Cond.selects RX12 yX12_adds yX12_adds ∈ ev_TB := ev_in (List.mem_of_getElem? (i := 42) (by decide +kernel)) rfl
theorem kX12_parts_123 : ev_K mX12_parts 123 mX12_adds (some RX12) 3 := ev_kV dX12_parts_123 ⟨ev_in (List.mem_of_getElem? (i := 1227) (by decide +kernel)) rfl, imX12_adds, seX12_adds, ini_X12, cdX12_adds⟩ ⟨rfl, by decide +kernel, by decide +kernel, by decide +kernel⟩
theorem cdX12_parts : ev_code mX12_parts ∈ ev_TB := ev_in (List.mem_of_getElem? (i := 1226) (by decide +kernel)) rfl
theorem imX12_parts : Cond.instanceMethod yX12_parts ∈ ev_TB := ev_in (List.mem_of_getElem? (i := 1225) (by decide +kernel)) rfl
theorem seX12_parts : Cond.selects RX12 yX12_parts yX12_parts ∈ ev_TB := ev_in (List.mem_of_getElem? (i := 41) (by decide +kernel)) rfl
theorem kX12_parted_22 : ev_K mX12_parted 22 mX12_parts (some RX12) 2 := ev_kV dX12_parted_22 ⟨ev_in (List.mem_of_getElem? (i := 1223) (by decide +kernel)) rfl, imX12_parts, seX12_parts, ini_X12, cdX12_parts⟩ ⟨rfl, by decide +kernel, by decide +kernel, by decide +kernel⟩
theorem kX12_parted_48 : ev_K mX12_parted 48 mX12_parts (some RX12) 2 := ev_kV dX12_parted_48 ⟨ev_in (List.mem_of_getElem? (i := 1223) (by decide +kernel)) rfl, imX12_parts, seX12_parts, ini_X12, cdX12_parts⟩ ⟨rfl, by decide +kernel, by decide +kernel, by decide +kernel⟩
theorem kX12_parted_68 : ev_K mX12_parted 68 mX12_adds (some RX12) 3 := ev_kV dX12_parted_68 ⟨ev_in (List.mem_of_getElem? (i := 1227) (by decide +kernel)) rfl, imX12_adds, seX12_adds, ini_X12, cdX12_adds⟩ ⟨rfl, by decide +kernel, by decide +kernel, by decide +kernel⟩
theorem kX12_spread_7 : ev_K mX12_spread 7 mX12_isStick (some RX12) 2 := ev_kV dX12_spread_7 ⟨ev_in (List.mem_of_getElem? (i := 1083) (by decide +kernel)) rfl, imX12_isStick, seX12_isStick, ini_X12, cdX12_isStick⟩ ⟨rfl, by decide +kernel, by decide +kernel, by decide +kernel⟩
theorem kX12_out_7 : ev_K mX12_out 7 mX12_isStick (some RX12) 2 := ev_kV dX12_out_7 ⟨ev_in (List.mem_of_getElem? (i := 1083) (by decide +kernel)) rfl, imX12_isStick, seX12_isStick, ini_X12, cdX12_isStick⟩ ⟨rfl, by decide +kernel, by decide +kernel, by decide +kernel⟩
theorem kX12_out_17 : ev_K mX12_out 17 mX12_in none 3 := ev_kS dX12_out_17 ⟨ev_in (List.mem_of_getElem? (i := 1033) (by decide +kernel)) rfl, smX12_in, ini_X12, cdX12_in⟩ ⟨by decide +kernel, by decide +kernel, by decide +kernel⟩
theorem kX12_out_187 : ev_K mX12_out 187 mX12_size none 1 := ev_kS dX12_out_187 ⟨ev_in (List.mem_of_getElem? (i := 1147) (by decide +kernel)) rfl, smX12_size, ini_X12, cdX12_size⟩ ⟨by decide +kernel, by decide +kernel, by decide +kernel⟩
theorem kX12_rate_8 : ev_K mX12_rate 8 mX12_in none 3 := ev_kS dX12_rate_8 ⟨ev_in (List.mem_of_getElem? (i := 1033) (by decide +kernel)) rfl, smX12_in, ini_X12, cdX12_in⟩ ⟨by decide +kernel, by decide +kernel, by decide +kernel⟩
theorem kX12_rate_16 : ev_K mX12_rate 16 mX12_isStick (some RX12) 2 := ev_kV dX12_rate_16 ⟨ev_in (List.mem_of_getElem? (i := 1083) (by decide +kernel)) rfl, imX12_isStick, seX12_isStick, ini_X12, cdX12_isStick⟩ ⟨rfl, by decide +kernel, by decide +kernel, by decide +kernel⟩
theorem kX12_rate_35 : ev_K mX12_rate 35 mX12_fliesWith (some RX12) 3 := ev_kV dX12_rate_35 ⟨ev_in (List.mem_of_getElem? (i := 1158) (by decide +kernel)) rfl, imX12_fliesWith, seX12_fliesWith, ini_X12, cdX12_fliesWith⟩ ⟨rfl, by decide +kernel, by decide +kernel, by decide +kernel⟩
theorem flX12_225 : ev_FL RX12 225 12 1 := ⟨(RX12, TX12, 36), rfl, by decide, ev_in (List.mem_of_getElem? (i := 920) (by decide +kernel)) rfl, in_X12, rfl⟩
theorem coX12_228 : Cond.constantLong RX12 228 (11) ∈ ev_TB := ev_in (List.mem_of_getElem? (i := 1250) (by decide +kernel)) rfl
theorem coX12_230 : Cond.constantLong RX12 230 (101) ∈ ev_TB := ev_in (List.mem_of_getElem? (i := 1251) (by decide +kernel)) rfl
theorem coX12_232 : Cond.constantLong RX12 232 (1011) ∈ ev_TB := ev_in (List.mem_of_getElem? (i := 1252) (by decide +kernel)) rfl
theorem coX12_234 : Cond.constantLong RX12 234 (10101) ∈ ev_TB := ev_in (List.mem_of_getElem? (i := 1253) (by decide +kernel)) rfl
theorem coX12_236 : Cond.constantLong RX12 236 (100001) ∈ ev_TB := ev_in (List.mem_of_getElem? (i := 1254) (by decide +kernel)) rfl
theorem fpX12_225 : ev_FP RX12 225 12 1 .long false := ⟨(RX12, TX12, 36), tyX12, rfl, by decide, ev_in (List.mem_of_getElem? (i := 920) (by decide +kernel)) rfl, in_X12, rfl, tyX12_ok, nmX12, by decide +kernel, rfl, fun h => by first | rfl | cases h⟩
theorem kX12_keep_8 : ev_K mX12_keep 8 mX12_in none 3 := ev_kS dX12_keep_8 ⟨ev_in (List.mem_of_getElem? (i := 1033) (by decide +kernel)) rfl, smX12_in, ini_X12, cdX12_in⟩ ⟨by decide +kernel, by decide +kernel, by decide +kernel⟩
theorem flX12_16 : ev_FL RX12 16 12 10 := ⟨(RX12, TX12, 36), rfl, by decide, ev_in (List.mem_of_getElem? (i := 929) (by decide +kernel)) rfl, in_X12, rfl⟩
theorem kX12_back_8 : ev_K mX12_back 8 mX12_in none 3 := ev_kS dX12_back_8 ⟨ev_in (List.mem_of_getElem? (i := 1033) (by decide +kernel)) rfl, smX12_in, ini_X12, cdX12_in⟩ ⟨by decide +kernel, by decide +kernel, by decide +kernel⟩
theorem coJ6_265 : Cond.constant RJ6 265 (1431655765) ∈ ev_TB := ev_in (List.mem_of_getElem? (i := 738) (by decide +kernel)) rfl
theorem coJ6_266 : Cond.constant RJ6 266 (858993459) ∈ ev_TB := ev_in (List.mem_of_getElem? (i := 739) (by decide +kernel)) rfl
theorem coJ6_267 : Cond.constant RJ6 267 (252645135) ∈ ev_TB := ev_in (List.mem_of_getElem? (i := 740) (by decide +kernel)) rfl
theorem fwJ0_9 : Cond.fieldLink RJ0 9 "java/lang/String" "value" "[B" ∈ ev_TB := ev_in (List.mem_of_getElem? (i := 1272) (by decide +kernel)) rfl
theorem cdJ0_coder_7d493 : ev_code mJ0_coder_7d493 ∈ ev_TB := ev_in (List.mem_of_getElem? (i := 435) (by decide +kernel)) rfl
theorem imJ0_coder_7d493 : Cond.instanceMethod yJ0_coder_7d493 ∈ ev_TB := ev_in (List.mem_of_getElem? (i := 433) (by decide +kernel)) rfl
theorem seJ0_coder_7d493 : Cond.selects RJ0 yJ0_coder_7d493 yJ0_coder_7d493 ∈ ev_TB := ev_in (List.mem_of_getElem? (i := 434) (by decide +kernel)) rfl
theorem kJ0_length_8abf5_6 : ev_K mJ0_length_8abf5 6 mJ0_coder_7d493 (some RJ0) 1 := ev_kV dJ0_length_8abf5_6 ⟨ev_in (List.mem_of_getElem? (i := 432) (by decide +kernel)) rfl, imJ0_coder_7d493, seJ0_coder_7d493, ini_J0, cdJ0_coder_7d493⟩ ⟨rfl, by decide +kernel, by decide +kernel, by decide +kernel⟩
theorem cdJ0_isLatin1_aae02 : ev_code mJ0_isLatin1_aae02 ∈ ev_TB := ev_in (List.mem_of_getElem? (i := 445) (by decide +kernel)) rfl
theorem imJ0_isLatin1_aae02 : Cond.instanceMethod yJ0_isLatin1_aae02 ∈ ev_TB := ev_in (List.mem_of_getElem? (i := 443) (by decide +kernel)) rfl
theorem seJ0_isLatin1_aae02 : Cond.selects RJ0 yJ0_isLatin1_aae02 yJ0_isLatin1_aae02 ∈ ev_TB := ev_in (List.mem_of_getElem? (i := 444) (by decide +kernel)) rfl
theorem kJ0_charAt_5068e_1 : ev_K mJ0_charAt_5068e 1 mJ0_isLatin1_aae02 (some RJ0) 1 := ev_kV dJ0_charAt_5068e_1 ⟨ev_in (List.mem_of_getElem? (i := 442) (by decide +kernel)) rfl, imJ0_isLatin1_aae02, seJ0_isLatin1_aae02, ini_J0, cdJ0_isLatin1_aae02⟩ ⟨rfl, by decide +kernel, by decide +kernel, by decide +kernel⟩
theorem cdJ1_charAt_3b067 : ev_code mJ1_charAt_3b067 ∈ ev_TB := ev_in (List.mem_of_getElem? (i := 448) (by decide +kernel)) rfl
theorem ini_J1 : Cond.initialized RJ1 ∈ ev_TB := ev_in (List.mem_of_getElem? (i := 58) (by decide +kernel)) rfl
theorem smJ1_charAt_3b067 : Cond.static yJ1_charAt_3b067 ∈ ev_TB := ev_in (List.mem_of_getElem? (i := 447) (by decide +kernel)) rfl
theorem kJ0_charAt_5068e_12 : ev_K mJ0_charAt_5068e 12 mJ1_charAt_3b067 none 2 := ev_kS dJ0_charAt_5068e_12 ⟨ev_in (List.mem_of_getElem? (i := 446) (by decide +kernel)) rfl, smJ1_charAt_3b067, ini_J1, cdJ1_charAt_3b067⟩ ⟨by decide +kernel, by decide +kernel, by decide +kernel⟩
theorem fwJ0_38 : Cond.fieldLink RJ0 38 "java/lang/String" "COMPACT_STRINGS" "Z" ∈ ev_TB := ev_in (List.mem_of_getElem? (i := 436) (by decide +kernel)) rfl
theorem fwJ0_15 : Cond.fieldLink RJ0 15 "java/lang/String" "coder" "B" ∈ ev_TB := ev_in (List.mem_of_getElem? (i := 1273) (by decide +kernel)) rfl
theorem fwJ0_1053 : Cond.fieldLink RJ0 1053 "jdk/internal/util/Preconditions" "SIOOBE_FORMATTER" "Ljava/util/function/BiFunction;" ∈ ev_TB := ev_in (List.mem_of_getElem? (i := 452) (by decide +kernel)) rfl
theorem cdJ3_checkIndex_8e157 : ev_code mJ3_checkIndex_8e157 ∈ ev_TB := ev_in (List.mem_of_getElem? (i := 456) (by decide +kernel)) rfl
theorem ini_J3 : Cond.initialized RJ3 ∈ ev_TB := ev_in (List.mem_of_getElem? (i := 59) (by decide +kernel)) rfl
theorem smJ3_checkIndex_8e157 : Cond.static yJ3_checkIndex_8e157 ∈ ev_TB := ev_in (List.mem_of_getElem? (i := 455) (by decide +kernel)) rfl
theorem kJ0_checkIndex_df160_5 : ev_K mJ0_checkIndex_df160 5 mJ3_checkIndex_8e157 none 3 := ev_kS dJ0_checkIndex_df160_5 ⟨ev_in (List.mem_of_getElem? (i := 454) (by decide +kernel)) rfl, smJ3_checkIndex_8e157, ini_J3, cdJ3_checkIndex_8e157⟩ ⟨by decide +kernel, by decide +kernel, by decide +kernel⟩
theorem cdJ0_checkIndex_df160 : ev_code mJ0_checkIndex_df160 ∈ ev_TB := ev_in (List.mem_of_getElem? (i := 451) (by decide +kernel)) rfl
theorem smJ0_checkIndex_df160 : Cond.static yJ0_checkIndex_df160 ∈ ev_TB := ev_in (List.mem_of_getElem? (i := 450) (by decide +kernel)) rfl
theorem kJ1_charAt_3b067_3 : ev_K mJ1_charAt_3b067 3 mJ0_checkIndex_df160 none 2 := ev_kS dJ1_charAt_3b067_3 ⟨ev_in (List.mem_of_getElem? (i := 449) (by decide +kernel)) rfl, smJ0_checkIndex_df160, ini_J0, cdJ0_checkIndex_df160⟩ ⟨by decide +kernel, by decide +kernel, by decide +kernel⟩
theorem nwL_7 : ev_NW RL 7 11 [.null, .null, .null, .null, .null, .null, .null, .null, .null, .null, .int 0] 11 := ⟨(RX11, TX11, 11), tyX11, rfl, rfl, ev_in (List.mem_of_getElem? (i := 63) (by decide +kernel)) rfl, ev_in (List.mem_of_getElem? (i := 64) (by decide +kernel)) rfl, ini_X11, in_X11, tyX11_ok, fun j hj => by
  match j, hj with
  | 0, _ => exact ⟨rfl, fun _ => rfl⟩
  | 1, _ => exact ⟨rfl, fun _ => rfl⟩
  | 2, _ => exact ⟨rfl, fun _ => rfl⟩
  | 3, _ => exact ⟨rfl, fun _ => rfl⟩
  | 4, _ => exact ⟨rfl, fun _ => rfl⟩
  | 5, _ => exact ⟨rfl, fun _ => rfl⟩
  | 6, _ => exact ⟨rfl, fun _ => rfl⟩
  | 7, _ => exact ⟨rfl, fun _ => rfl⟩
  | 8, _ => exact ⟨rfl, fun _ => rfl⟩
  | 9, _ => exact ⟨rfl, fun _ => rfl⟩
  | 10, _ => exact ⟨rfl, fun _ => rfl⟩
  | j + 11, hj => exact absurd hj (by show ¬ j + 11 < 11; omega)⟩
theorem cdX11_init : ev_code mX11_init ∈ ev_TB := ev_in (List.mem_of_getElem? (i := 67) (by decide +kernel)) rfl
theorem imX11_init : Cond.instanceMethod yX11_init ∈ ev_TB := ev_in (List.mem_of_getElem? (i := 66) (by decide +kernel)) rfl
theorem kL_law_4 : ev_K mL_law 4 mX11_init (some RX11) 1 := ev_kI dL_law_4 rfl ⟨ev_in (List.mem_of_getElem? (i := 65) (by decide +kernel)) rfl, imX11_init, ini_X11, cdX11_init⟩ rfl ⟨by decide +kernel, by decide +kernel, by decide +kernel⟩
theorem nwL_10 : ev_NW RL 10 12 [.int 0, .long 0, .null, .int 0, .int 0, .int 0, .int 0, .int 0, .int 0, .null, .null, .null, .int 0, .int 0, .int 0, .null, .null, .null, .null, .null, .int 0, .int 0, .int 0, .null, .null, .int 0, .int 0, .int 0, .int 0, .int 0, .int 0, .null, .null, .null, .long 0, .long 0] 36 := ⟨(RX12, TX12, 36), tyX12, rfl, rfl, ev_in (List.mem_of_getElem? (i := 913) (by decide +kernel)) rfl, ev_in (List.mem_of_getElem? (i := 914) (by decide +kernel)) rfl, ini_X12, in_X12, tyX12_ok, fun j hj => by
  match j, hj with
  | 0, _ => exact ⟨rfl, fun _ => rfl⟩
  | 1, _ => exact ⟨rfl, fun _ => rfl⟩
  | 2, _ => exact ⟨rfl, fun _ => rfl⟩
  | 3, _ => exact ⟨rfl, fun _ => rfl⟩
  | 4, _ => exact ⟨rfl, fun _ => rfl⟩
  | 5, _ => exact ⟨rfl, fun _ => rfl⟩
  | 6, _ => exact ⟨rfl, fun _ => rfl⟩
  | 7, _ => exact ⟨rfl, fun _ => rfl⟩
  | 8, _ => exact ⟨rfl, fun _ => rfl⟩
  | 9, _ => exact ⟨rfl, fun _ => rfl⟩
  | 10, _ => exact ⟨rfl, fun _ => rfl⟩
  | 11, _ => exact ⟨rfl, fun _ => rfl⟩
  | 12, _ => exact ⟨rfl, fun _ => rfl⟩
  | 13, _ => exact ⟨rfl, fun _ => rfl⟩
  | 14, _ => exact ⟨rfl, fun _ => rfl⟩
  | 15, _ => exact ⟨rfl, fun _ => rfl⟩
  | 16, _ => exact ⟨rfl, fun _ => rfl⟩
  | 17, _ => exact ⟨rfl, fun _ => rfl⟩
  | 18, _ => exact ⟨rfl, fun _ => rfl⟩
  | 19, _ => exact ⟨rfl, fun _ => rfl⟩
  | 20, _ => exact ⟨rfl, fun _ => rfl⟩
  | 21, _ => exact ⟨rfl, fun _ => rfl⟩
  | 22, _ => exact ⟨rfl, fun _ => rfl⟩
  | 23, _ => exact ⟨rfl, fun _ => rfl⟩
  | 24, _ => exact ⟨rfl, fun _ => rfl⟩
  | 25, _ => exact ⟨rfl, fun _ => rfl⟩
  | 26, _ => exact ⟨rfl, fun _ => rfl⟩
  | 27, _ => exact ⟨rfl, fun _ => rfl⟩
  | 28, _ => exact ⟨rfl, fun _ => rfl⟩
  | 29, _ => exact ⟨rfl, fun _ => rfl⟩
  | 30, _ => exact ⟨rfl, fun _ => rfl⟩
  | 31, _ => exact ⟨rfl, fun _ => rfl⟩
  | 32, _ => exact ⟨rfl, fun _ => rfl⟩
  | 33, _ => exact ⟨rfl, fun _ => rfl⟩
  | 34, _ => exact ⟨rfl, fun _ => rfl⟩
  | 35, _ => exact ⟨rfl, fun _ => rfl⟩
  | j + 36, hj => exact absurd hj (by show ¬ j + 36 < 36; omega)⟩
theorem cdX12_init : ev_code mX12_init ∈ ev_TB := ev_in (List.mem_of_getElem? (i := 917) (by decide +kernel)) rfl
theorem imX12_init : Cond.instanceMethod yX12_init ∈ ev_TB := ev_in (List.mem_of_getElem? (i := 916) (by decide +kernel)) rfl
theorem kL_law_12 : ev_K mL_law 12 mX12_init (some RX12) 1 := ev_kI dL_law_12 rfl ⟨ev_in (List.mem_of_getElem? (i := 915) (by decide +kernel)) rfl, imX12_init, ini_X12, cdX12_init⟩ rfl ⟨by decide +kernel, by decide +kernel, by decide +kernel⟩
theorem coL_13 : Cond.constantLong RL 13 (4294967295) ∈ ev_TB := ev_in (List.mem_of_getElem? (i := 1271) (by decide +kernel)) rfl
theorem cdX11_type : ev_code mX11_type ∈ ev_TB := ev_in (List.mem_of_getElem? (i := 383) (by decide +kernel)) rfl
theorem imX11_type : Cond.instanceMethod yX11_type ∈ ev_TB := ev_in (List.mem_of_getElem? (i := 381) (by decide +kernel)) rfl
theorem seX11_type : Cond.selects RX11 yX11_type yX11_type ∈ ev_TB := ev_in (List.mem_of_getElem? (i := 382) (by decide +kernel)) rfl
theorem kL_law_202 : ev_K mL_law 202 mX11_type (some RX11) 3 := ev_kV dL_law_202 ⟨ev_in (List.mem_of_getElem? (i := 380) (by decide +kernel)) rfl, imX11_type, seX11_type, ini_X11, cdX11_type⟩ ⟨rfl, by decide +kernel, by decide +kernel, by decide +kernel⟩
theorem cdX12_type : ev_code mX12_type ∈ ev_TB := ev_in (List.mem_of_getElem? (i := 1032) (by decide +kernel)) rfl
theorem imX12_type : Cond.instanceMethod yX12_type ∈ ev_TB := ev_in (List.mem_of_getElem? (i := 1030) (by decide +kernel)) rfl
theorem seX12_type : Cond.selects RX12 yX12_type yX12_type ∈ ev_TB := ev_in (List.mem_of_getElem? (i := 1031) (by decide +kernel)) rfl
theorem kL_law_231 : ev_K mL_law 231 mX12_type (some RX12) 3 := ev_kV dL_law_231 ⟨ev_in (List.mem_of_getElem? (i := 1029) (by decide +kernel)) rfl, imX12_type, seX12_type, ini_X12, cdX12_type⟩ ⟨rfl, by decide +kernel, by decide +kernel, by decide +kernel⟩
theorem cdX11_clear : ev_code mX11_clear ∈ ev_TB := ev_in (List.mem_of_getElem? (i := 394) (by decide +kernel)) rfl
theorem imX11_clear : Cond.instanceMethod yX11_clear ∈ ev_TB := ev_in (List.mem_of_getElem? (i := 392) (by decide +kernel)) rfl
theorem seX11_clear : Cond.selects RX11 yX11_clear yX11_clear ∈ ev_TB := ev_in (List.mem_of_getElem? (i := 393) (by decide +kernel)) rfl
theorem kL_law_240 : ev_K mL_law 240 mX11_clear (some RX11) 1 := ev_kV dL_law_240 ⟨ev_in (List.mem_of_getElem? (i := 391) (by decide +kernel)) rfl, imX11_clear, seX11_clear, ini_X11, cdX11_clear⟩ ⟨rfl, by decide +kernel, by decide +kernel, by decide +kernel⟩
theorem cdX12_clear : ev_code mX12_clear ∈ ev_TB := ev_in (List.mem_of_getElem? (i := 1040) (by decide +kernel)) rfl
theorem imX12_clear : Cond.instanceMethod yX12_clear ∈ ev_TB := ev_in (List.mem_of_getElem? (i := 1038) (by decide +kernel)) rfl
theorem seX12_clear : Cond.selects RX12 yX12_clear yX12_clear ∈ ev_TB := ev_in (List.mem_of_getElem? (i := 1039) (by decide +kernel)) rfl
theorem kL_law_244 : ev_K mL_law 244 mX12_clear (some RX12) 1 := ev_kV dL_law_244 ⟨ev_in (List.mem_of_getElem? (i := 1037) (by decide +kernel)) rfl, imX12_clear, seX12_clear, ini_X12, cdX12_clear⟩ ⟨rfl, by decide +kernel, by decide +kernel, by decide +kernel⟩
theorem cdX11_arrows : ev_code mX11_arrows ∈ ev_TB := ev_in (List.mem_of_getElem? (i := 402) (by decide +kernel)) rfl
theorem imX11_arrows : Cond.instanceMethod yX11_arrows ∈ ev_TB := ev_in (List.mem_of_getElem? (i := 400) (by decide +kernel)) rfl
theorem seX11_arrows : Cond.selects RX11 yX11_arrows yX11_arrows ∈ ev_TB := ev_in (List.mem_of_getElem? (i := 401) (by decide +kernel)) rfl
theorem kL_law_253 : ev_K mL_law 253 mX11_arrows (some RX11) 1 := ev_kV dL_law_253 ⟨ev_in (List.mem_of_getElem? (i := 399) (by decide +kernel)) rfl, imX11_arrows, seX11_arrows, ini_X11, cdX11_arrows⟩ ⟨rfl, by decide +kernel, by decide +kernel, by decide +kernel⟩
theorem cdX12_arrows : ev_code mX12_arrows ∈ ev_TB := ev_in (List.mem_of_getElem? (i := 1044) (by decide +kernel)) rfl
theorem imX12_arrows : Cond.instanceMethod yX12_arrows ∈ ev_TB := ev_in (List.mem_of_getElem? (i := 1042) (by decide +kernel)) rfl
theorem seX12_arrows : Cond.selects RX12 yX12_arrows yX12_arrows ∈ ev_TB := ev_in (List.mem_of_getElem? (i := 1043) (by decide +kernel)) rfl
theorem kL_law_257 : ev_K mL_law 257 mX12_arrows (some RX12) 1 := ev_kV dL_law_257 ⟨ev_in (List.mem_of_getElem? (i := 1041) (by decide +kernel)) rfl, imX12_arrows, seX12_arrows, ini_X12, cdX12_arrows⟩ ⟨rfl, by decide +kernel, by decide +kernel, by decide +kernel⟩
theorem cdX11_stick : ev_code mX11_stick ∈ ev_TB := ev_in (List.mem_of_getElem? (i := 540) (by decide +kernel)) rfl
theorem imX11_stick : Cond.instanceMethod yX11_stick ∈ ev_TB := ev_in (List.mem_of_getElem? (i := 538) (by decide +kernel)) rfl
theorem seX11_stick : Cond.selects RX11 yX11_stick yX11_stick ∈ ev_TB := ev_in (List.mem_of_getElem? (i := 539) (by decide +kernel)) rfl
theorem kL_law_276 : ev_K mL_law 276 mX11_stick (some RX11) 3 := ev_kV dL_law_276 ⟨ev_in (List.mem_of_getElem? (i := 537) (by decide +kernel)) rfl, imX11_stick, seX11_stick, ini_X11, cdX11_stick⟩ ⟨rfl, by decide +kernel, by decide +kernel, by decide +kernel⟩
theorem cdX12_stick : ev_code mX12_stick ∈ ev_TB := ev_in (List.mem_of_getElem? (i := 1082) (by decide +kernel)) rfl
theorem imX12_stick : Cond.instanceMethod yX12_stick ∈ ev_TB := ev_in (List.mem_of_getElem? (i := 1080) (by decide +kernel)) rfl
theorem seX12_stick : Cond.selects RX12 yX12_stick yX12_stick ∈ ev_TB := ev_in (List.mem_of_getElem? (i := 1081) (by decide +kernel)) rfl
theorem kL_law_290 : ev_K mL_law 290 mX12_stick (some RX12) 3 := ev_kV dL_law_290 ⟨ev_in (List.mem_of_getElem? (i := 1079) (by decide +kernel)) rfl, imX12_stick, seX12_stick, ini_X12, cdX12_stick⟩ ⟨rfl, by decide +kernel, by decide +kernel, by decide +kernel⟩
theorem cdX11_bow : ev_code mX11_bow ∈ ev_TB := ev_in (List.mem_of_getElem? (i := 548) (by decide +kernel)) rfl
theorem imX11_bow : Cond.instanceMethod yX11_bow ∈ ev_TB := ev_in (List.mem_of_getElem? (i := 546) (by decide +kernel)) rfl
theorem seX11_bow : Cond.selects RX11 yX11_bow yX11_bow ∈ ev_TB := ev_in (List.mem_of_getElem? (i := 547) (by decide +kernel)) rfl
theorem kL_law_309 : ev_K mL_law 309 mX11_bow (some RX11) 3 := ev_kV dL_law_309 ⟨ev_in (List.mem_of_getElem? (i := 545) (by decide +kernel)) rfl, imX11_bow, seX11_bow, ini_X11, cdX11_bow⟩ ⟨rfl, by decide +kernel, by decide +kernel, by decide +kernel⟩
theorem cdX12_bow : ev_code mX12_bow ∈ ev_TB := ev_in (List.mem_of_getElem? (i := 1090) (by decide +kernel)) rfl
theorem imX12_bow : Cond.instanceMethod yX12_bow ∈ ev_TB := ev_in (List.mem_of_getElem? (i := 1088) (by decide +kernel)) rfl
theorem seX12_bow : Cond.selects RX12 yX12_bow yX12_bow ∈ ev_TB := ev_in (List.mem_of_getElem? (i := 1089) (by decide +kernel)) rfl
theorem kL_law_323 : ev_K mL_law 323 mX12_bow (some RX12) 3 := ev_kV dL_law_323 ⟨ev_in (List.mem_of_getElem? (i := 1087) (by decide +kernel)) rfl, imX12_bow, seX12_bow, ini_X12, cdX12_bow⟩ ⟨rfl, by decide +kernel, by decide +kernel, by decide +kernel⟩
theorem cdX11_archer : ev_code mX11_archer ∈ ev_TB := ev_in (List.mem_of_getElem? (i := 563) (by decide +kernel)) rfl
theorem imX11_archer : Cond.instanceMethod yX11_archer ∈ ev_TB := ev_in (List.mem_of_getElem? (i := 561) (by decide +kernel)) rfl
theorem seX11_archer : Cond.selects RX11 yX11_archer yX11_archer ∈ ev_TB := ev_in (List.mem_of_getElem? (i := 562) (by decide +kernel)) rfl
theorem kL_law_342 : ev_K mL_law 342 mX11_archer (some RX11) 3 := ev_kV dL_law_342 ⟨ev_in (List.mem_of_getElem? (i := 560) (by decide +kernel)) rfl, imX11_archer, seX11_archer, ini_X11, cdX11_archer⟩ ⟨rfl, by decide +kernel, by decide +kernel, by decide +kernel⟩
theorem cdX12_archer : ev_code mX12_archer ∈ ev_TB := ev_in (List.mem_of_getElem? (i := 1098) (by decide +kernel)) rfl
theorem imX12_archer : Cond.instanceMethod yX12_archer ∈ ev_TB := ev_in (List.mem_of_getElem? (i := 1096) (by decide +kernel)) rfl
theorem seX12_archer : Cond.selects RX12 yX12_archer yX12_archer ∈ ev_TB := ev_in (List.mem_of_getElem? (i := 1097) (by decide +kernel)) rfl
theorem kL_law_356 : ev_K mL_law 356 mX12_archer (some RX12) 3 := ev_kV dL_law_356 ⟨ev_in (List.mem_of_getElem? (i := 1095) (by decide +kernel)) rfl, imX12_archer, seX12_archer, ini_X12, cdX12_archer⟩ ⟨rfl, by decide +kernel, by decide +kernel, by decide +kernel⟩
theorem cdX11_tune : ev_code mX11_tune ∈ ev_TB := ev_in (List.mem_of_getElem? (i := 572) (by decide +kernel)) rfl
theorem imX11_tune : Cond.instanceMethod yX11_tune ∈ ev_TB := ev_in (List.mem_of_getElem? (i := 570) (by decide +kernel)) rfl
theorem seX11_tune : Cond.selects RX11 yX11_tune yX11_tune ∈ ev_TB := ev_in (List.mem_of_getElem? (i := 571) (by decide +kernel)) rfl
theorem kL_law_375 : ev_K mL_law 375 mX11_tune (some RX11) 3 := ev_kV dL_law_375 ⟨ev_in (List.mem_of_getElem? (i := 569) (by decide +kernel)) rfl, imX11_tune, seX11_tune, ini_X11, cdX11_tune⟩ ⟨rfl, by decide +kernel, by decide +kernel, by decide +kernel⟩
theorem cdX12_tune : ev_code mX12_tune ∈ ev_TB := ev_in (List.mem_of_getElem? (i := 1103) (by decide +kernel)) rfl
theorem imX12_tune : Cond.instanceMethod yX12_tune ∈ ev_TB := ev_in (List.mem_of_getElem? (i := 1101) (by decide +kernel)) rfl
theorem seX12_tune : Cond.selects RX12 yX12_tune yX12_tune ∈ ev_TB := ev_in (List.mem_of_getElem? (i := 1102) (by decide +kernel)) rfl
theorem kL_law_389 : ev_K mL_law 389 mX12_tune (some RX12) 3 := ev_kV dL_law_389 ⟨ev_in (List.mem_of_getElem? (i := 1100) (by decide +kernel)) rfl, imX12_tune, seX12_tune, ini_X12, cdX12_tune⟩ ⟨rfl, by decide +kernel, by decide +kernel, by decide +kernel⟩
theorem cdX11_cut : ev_code mX11_cut ∈ ev_TB := ev_in (List.mem_of_getElem? (i := 586) (by decide +kernel)) rfl
theorem imX11_cut : Cond.instanceMethod yX11_cut ∈ ev_TB := ev_in (List.mem_of_getElem? (i := 584) (by decide +kernel)) rfl
theorem seX11_cut : Cond.selects RX11 yX11_cut yX11_cut ∈ ev_TB := ev_in (List.mem_of_getElem? (i := 585) (by decide +kernel)) rfl
theorem kL_law_403 : ev_K mL_law 403 mX11_cut (some RX11) 2 := ev_kV dL_law_403 ⟨ev_in (List.mem_of_getElem? (i := 583) (by decide +kernel)) rfl, imX11_cut, seX11_cut, ini_X11, cdX11_cut⟩ ⟨rfl, by decide +kernel, by decide +kernel, by decide +kernel⟩
theorem cdX12_cut : ev_code mX12_cut ∈ ev_TB := ev_in (List.mem_of_getElem? (i := 1107) (by decide +kernel)) rfl
theorem imX12_cut : Cond.instanceMethod yX12_cut ∈ ev_TB := ev_in (List.mem_of_getElem? (i := 1105) (by decide +kernel)) rfl
theorem seX12_cut : Cond.selects RX12 yX12_cut yX12_cut ∈ ev_TB := ev_in (List.mem_of_getElem? (i := 1106) (by decide +kernel)) rfl
theorem kL_law_412 : ev_K mL_law 412 mX12_cut (some RX12) 2 := ev_kV dL_law_412 ⟨ev_in (List.mem_of_getElem? (i := 1104) (by decide +kernel)) rfl, imX12_cut, seX12_cut, ini_X12, cdX12_cut⟩ ⟨rfl, by decide +kernel, by decide +kernel, by decide +kernel⟩
theorem cdX11_scrape : ev_code mX11_scrape ∈ ev_TB := ev_in (List.mem_of_getElem? (i := 594) (by decide +kernel)) rfl
theorem imX11_scrape : Cond.instanceMethod yX11_scrape ∈ ev_TB := ev_in (List.mem_of_getElem? (i := 592) (by decide +kernel)) rfl
theorem seX11_scrape : Cond.selects RX11 yX11_scrape yX11_scrape ∈ ev_TB := ev_in (List.mem_of_getElem? (i := 593) (by decide +kernel)) rfl
theorem kL_law_426 : ev_K mL_law 426 mX11_scrape (some RX11) 2 := ev_kV dL_law_426 ⟨ev_in (List.mem_of_getElem? (i := 591) (by decide +kernel)) rfl, imX11_scrape, seX11_scrape, ini_X11, cdX11_scrape⟩ ⟨rfl, by decide +kernel, by decide +kernel, by decide +kernel⟩
theorem cdX12_scrape : ev_code mX12_scrape ∈ ev_TB := ev_in (List.mem_of_getElem? (i := 1111) (by decide +kernel)) rfl
theorem imX12_scrape : Cond.instanceMethod yX12_scrape ∈ ev_TB := ev_in (List.mem_of_getElem? (i := 1109) (by decide +kernel)) rfl
theorem seX12_scrape : Cond.selects RX12 yX12_scrape yX12_scrape ∈ ev_TB := ev_in (List.mem_of_getElem? (i := 1110) (by decide +kernel)) rfl
theorem kL_law_435 : ev_K mL_law 435 mX12_scrape (some RX12) 2 := ev_kV dL_law_435 ⟨ev_in (List.mem_of_getElem? (i := 1108) (by decide +kernel)) rfl, imX12_scrape, seX12_scrape, ini_X12, cdX12_scrape⟩ ⟨rfl, by decide +kernel, by decide +kernel, by decide +kernel⟩
theorem cdX11_load : ev_code mX11_load ∈ ev_TB := ev_in (List.mem_of_getElem? (i := 603) (by decide +kernel)) rfl
theorem imX11_load : Cond.instanceMethod yX11_load ∈ ev_TB := ev_in (List.mem_of_getElem? (i := 601) (by decide +kernel)) rfl
theorem seX11_load : Cond.selects RX11 yX11_load yX11_load ∈ ev_TB := ev_in (List.mem_of_getElem? (i := 602) (by decide +kernel)) rfl
theorem kL_law_449 : ev_K mL_law 449 mX11_load (some RX11) 2 := ev_kV dL_law_449 ⟨ev_in (List.mem_of_getElem? (i := 600) (by decide +kernel)) rfl, imX11_load, seX11_load, ini_X11, cdX11_load⟩ ⟨rfl, by decide +kernel, by decide +kernel, by decide +kernel⟩
theorem cdX12_load : ev_code mX12_load ∈ ev_TB := ev_in (List.mem_of_getElem? (i := 1119) (by decide +kernel)) rfl
theorem imX12_load : Cond.instanceMethod yX12_load ∈ ev_TB := ev_in (List.mem_of_getElem? (i := 1117) (by decide +kernel)) rfl
theorem seX12_load : Cond.selects RX12 yX12_load yX12_load ∈ ev_TB := ev_in (List.mem_of_getElem? (i := 1118) (by decide +kernel)) rfl
theorem kL_law_458 : ev_K mL_law 458 mX12_load (some RX12) 2 := ev_kV dL_law_458 ⟨ev_in (List.mem_of_getElem? (i := 1116) (by decide +kernel)) rfl, imX12_load, seX12_load, ini_X12, cdX12_load⟩ ⟨rfl, by decide +kernel, by decide +kernel, by decide +kernel⟩
theorem cdX11_turn : ev_code mX11_turn ∈ ev_TB := ev_in (List.mem_of_getElem? (i := 611) (by decide +kernel)) rfl
theorem imX11_turn : Cond.instanceMethod yX11_turn ∈ ev_TB := ev_in (List.mem_of_getElem? (i := 609) (by decide +kernel)) rfl
theorem seX11_turn : Cond.selects RX11 yX11_turn yX11_turn ∈ ev_TB := ev_in (List.mem_of_getElem? (i := 610) (by decide +kernel)) rfl
theorem kL_law_472 : ev_K mL_law 472 mX11_turn (some RX11) 2 := ev_kV dL_law_472 ⟨ev_in (List.mem_of_getElem? (i := 608) (by decide +kernel)) rfl, imX11_turn, seX11_turn, ini_X11, cdX11_turn⟩ ⟨rfl, by decide +kernel, by decide +kernel, by decide +kernel⟩
theorem cdX12_turn : ev_code mX12_turn ∈ ev_TB := ev_in (List.mem_of_getElem? (i := 1123) (by decide +kernel)) rfl
theorem imX12_turn : Cond.instanceMethod yX12_turn ∈ ev_TB := ev_in (List.mem_of_getElem? (i := 1121) (by decide +kernel)) rfl
theorem seX12_turn : Cond.selects RX12 yX12_turn yX12_turn ∈ ev_TB := ev_in (List.mem_of_getElem? (i := 1122) (by decide +kernel)) rfl
theorem kL_law_481 : ev_K mL_law 481 mX12_turn (some RX12) 2 := ev_kV dL_law_481 ⟨ev_in (List.mem_of_getElem? (i := 1120) (by decide +kernel)) rfl, imX12_turn, seX12_turn, ini_X12, cdX12_turn⟩ ⟨rfl, by decide +kernel, by decide +kernel, by decide +kernel⟩
theorem cdX11_least : ev_code mX11_least ∈ ev_TB := ev_in (List.mem_of_getElem? (i := 615) (by decide +kernel)) rfl
theorem imX11_least : Cond.instanceMethod yX11_least ∈ ev_TB := ev_in (List.mem_of_getElem? (i := 613) (by decide +kernel)) rfl
theorem seX11_least : Cond.selects RX11 yX11_least yX11_least ∈ ev_TB := ev_in (List.mem_of_getElem? (i := 614) (by decide +kernel)) rfl
theorem kL_law_515 : ev_K mL_law 515 mX11_least (some RX11) 6 := ev_kV dL_law_515 ⟨ev_in (List.mem_of_getElem? (i := 612) (by decide +kernel)) rfl, imX11_least, seX11_least, ini_X11, cdX11_least⟩ ⟨rfl, by decide +kernel, by decide +kernel, by decide +kernel⟩
theorem cdX12_least : ev_code mX12_least ∈ ev_TB := ev_in (List.mem_of_getElem? (i := 1127) (by decide +kernel)) rfl
theorem imX12_least : Cond.instanceMethod yX12_least ∈ ev_TB := ev_in (List.mem_of_getElem? (i := 1125) (by decide +kernel)) rfl
theorem seX12_least : Cond.selects RX12 yX12_least yX12_least ∈ ev_TB := ev_in (List.mem_of_getElem? (i := 1126) (by decide +kernel)) rfl
theorem kL_law_544 : ev_K mL_law 544 mX12_least (some RX12) 6 := ev_kV dL_law_544 ⟨ev_in (List.mem_of_getElem? (i := 1124) (by decide +kernel)) rfl, imX12_least, seX12_least, ini_X12, cdX12_least⟩ ⟨rfl, by decide +kernel, by decide +kernel, by decide +kernel⟩
theorem cdX11_flight : ev_code mX11_flight ∈ ev_TB := ev_in (List.mem_of_getElem? (i := 661) (by decide +kernel)) rfl
theorem imX11_flight : Cond.instanceMethod yX11_flight ∈ ev_TB := ev_in (List.mem_of_getElem? (i := 659) (by decide +kernel)) rfl
theorem seX11_flight : Cond.selects RX11 yX11_flight yX11_flight ∈ ev_TB := ev_in (List.mem_of_getElem? (i := 660) (by decide +kernel)) rfl
theorem kL_law_568 : ev_K mL_law 568 mX11_flight (some RX11) 4 := ev_kV dL_law_568 ⟨ev_in (List.mem_of_getElem? (i := 658) (by decide +kernel)) rfl, imX11_flight, seX11_flight, ini_X11, cdX11_flight⟩ ⟨rfl, by decide +kernel, by decide +kernel, by decide +kernel⟩
theorem cdX12_flight : ev_code mX12_flight ∈ ev_TB := ev_in (List.mem_of_getElem? (i := 1157) (by decide +kernel)) rfl
theorem imX12_flight : Cond.instanceMethod yX12_flight ∈ ev_TB := ev_in (List.mem_of_getElem? (i := 1155) (by decide +kernel)) rfl
theorem seX12_flight : Cond.selects RX12 yX12_flight yX12_flight ∈ ev_TB := ev_in (List.mem_of_getElem? (i := 1156) (by decide +kernel)) rfl
theorem kL_law_587 : ev_K mL_law 587 mX12_flight (some RX12) 4 := ev_kV dL_law_587 ⟨ev_in (List.mem_of_getElem? (i := 1154) (by decide +kernel)) rfl, imX12_flight, seX12_flight, ini_X12, cdX12_flight⟩ ⟨rfl, by decide +kernel, by decide +kernel, by decide +kernel⟩
theorem cdX11_band : ev_code mX11_band ∈ ev_TB := ev_in (List.mem_of_getElem? (i := 706) (by decide +kernel)) rfl
theorem imX11_band : Cond.instanceMethod yX11_band ∈ ev_TB := ev_in (List.mem_of_getElem? (i := 704) (by decide +kernel)) rfl
theorem seX11_band : Cond.selects RX11 yX11_band yX11_band ∈ ev_TB := ev_in (List.mem_of_getElem? (i := 705) (by decide +kernel)) rfl
theorem kL_law_616 : ev_K mL_law 616 mX11_band (some RX11) 5 := ev_kV dL_law_616 ⟨ev_in (List.mem_of_getElem? (i := 703) (by decide +kernel)) rfl, imX11_band, seX11_band, ini_X11, cdX11_band⟩ ⟨rfl, by decide +kernel, by decide +kernel, by decide +kernel⟩
theorem cdX12_band : ev_code mX12_band ∈ ev_TB := ev_in (List.mem_of_getElem? (i := 1165) (by decide +kernel)) rfl
theorem imX12_band : Cond.instanceMethod yX12_band ∈ ev_TB := ev_in (List.mem_of_getElem? (i := 1163) (by decide +kernel)) rfl
theorem seX12_band : Cond.selects RX12 yX12_band yX12_band ∈ ev_TB := ev_in (List.mem_of_getElem? (i := 1164) (by decide +kernel)) rfl
theorem kL_law_640 : ev_K mL_law 640 mX12_band (some RX12) 5 := ev_kV dL_law_640 ⟨ev_in (List.mem_of_getElem? (i := 1162) (by decide +kernel)) rfl, imX12_band, seX12_band, ini_X12, cdX12_band⟩ ⟨rfl, by decide +kernel, by decide +kernel, by decide +kernel⟩
theorem cdX11_says : ev_code mX11_says ∈ ev_TB := ev_in (List.mem_of_getElem? (i := 712) (by decide +kernel)) rfl
theorem imX11_says : Cond.instanceMethod yX11_says ∈ ev_TB := ev_in (List.mem_of_getElem? (i := 710) (by decide +kernel)) rfl
theorem seX11_says : Cond.selects RX11 yX11_says yX11_says ∈ ev_TB := ev_in (List.mem_of_getElem? (i := 711) (by decide +kernel)) rfl
theorem kL_law_664 : ev_K mL_law 664 mX11_says (some RX11) 4 := ev_kV dL_law_664 ⟨ev_in (List.mem_of_getElem? (i := 709) (by decide +kernel)) rfl, imX11_says, seX11_says, ini_X11, cdX11_says⟩ ⟨rfl, by decide +kernel, by decide +kernel, by decide +kernel⟩
theorem cdX12_says : ev_code mX12_says ∈ ev_TB := ev_in (List.mem_of_getElem? (i := 1169) (by decide +kernel)) rfl
theorem imX12_says : Cond.instanceMethod yX12_says ∈ ev_TB := ev_in (List.mem_of_getElem? (i := 1167) (by decide +kernel)) rfl
theorem seX12_says : Cond.selects RX12 yX12_says yX12_says ∈ ev_TB := ev_in (List.mem_of_getElem? (i := 1168) (by decide +kernel)) rfl
theorem kL_law_683 : ev_K mL_law 683 mX12_says (some RX12) 4 := ev_kV dL_law_683 ⟨ev_in (List.mem_of_getElem? (i := 1166) (by decide +kernel)) rfl, imX12_says, seX12_says, ini_X12, cdX12_says⟩ ⟨rfl, by decide +kernel, by decide +kernel, by decide +kernel⟩
theorem cdX11_alike : ev_code mX11_alike ∈ ev_TB := ev_in (List.mem_of_getElem? (i := 717) (by decide +kernel)) rfl
theorem imX11_alike : Cond.instanceMethod yX11_alike ∈ ev_TB := ev_in (List.mem_of_getElem? (i := 715) (by decide +kernel)) rfl
theorem seX11_alike : Cond.selects RX11 yX11_alike yX11_alike ∈ ev_TB := ev_in (List.mem_of_getElem? (i := 716) (by decide +kernel)) rfl
theorem kL_law_712 : ev_K mL_law 712 mX11_alike (some RX11) 5 := ev_kV dL_law_712 ⟨ev_in (List.mem_of_getElem? (i := 714) (by decide +kernel)) rfl, imX11_alike, seX11_alike, ini_X11, cdX11_alike⟩ ⟨rfl, by decide +kernel, by decide +kernel, by decide +kernel⟩
theorem cdX12_alike : ev_code mX12_alike ∈ ev_TB := ev_in (List.mem_of_getElem? (i := 1173) (by decide +kernel)) rfl
theorem imX12_alike : Cond.instanceMethod yX12_alike ∈ ev_TB := ev_in (List.mem_of_getElem? (i := 1171) (by decide +kernel)) rfl
theorem seX12_alike : Cond.selects RX12 yX12_alike yX12_alike ∈ ev_TB := ev_in (List.mem_of_getElem? (i := 1172) (by decide +kernel)) rfl
theorem kL_law_736 : ev_K mL_law 736 mX12_alike (some RX12) 5 := ev_kV dL_law_736 ⟨ev_in (List.mem_of_getElem? (i := 1170) (by decide +kernel)) rfl, imX12_alike, seX12_alike, ini_X12, cdX12_alike⟩ ⟨rfl, by decide +kernel, by decide +kernel, by decide +kernel⟩
theorem cdX11_turned : ev_code mX11_turned ∈ ev_TB := ev_in (List.mem_of_getElem? (i := 744) (by decide +kernel)) rfl
theorem imX11_turned : Cond.instanceMethod yX11_turned ∈ ev_TB := ev_in (List.mem_of_getElem? (i := 742) (by decide +kernel)) rfl
theorem seX11_turned : Cond.selects RX11 yX11_turned yX11_turned ∈ ev_TB := ev_in (List.mem_of_getElem? (i := 743) (by decide +kernel)) rfl
theorem kL_law_760 : ev_K mL_law 760 mX11_turned (some RX11) 4 := ev_kV dL_law_760 ⟨ev_in (List.mem_of_getElem? (i := 741) (by decide +kernel)) rfl, imX11_turned, seX11_turned, ini_X11, cdX11_turned⟩ ⟨rfl, by decide +kernel, by decide +kernel, by decide +kernel⟩
theorem cdX12_turned : ev_code mX12_turned ∈ ev_TB := ev_in (List.mem_of_getElem? (i := 1192) (by decide +kernel)) rfl
theorem imX12_turned : Cond.instanceMethod yX12_turned ∈ ev_TB := ev_in (List.mem_of_getElem? (i := 1190) (by decide +kernel)) rfl
theorem seX12_turned : Cond.selects RX12 yX12_turned yX12_turned ∈ ev_TB := ev_in (List.mem_of_getElem? (i := 1191) (by decide +kernel)) rfl
theorem kL_law_779 : ev_K mL_law 779 mX12_turned (some RX12) 4 := ev_kV dL_law_779 ⟨ev_in (List.mem_of_getElem? (i := 1189) (by decide +kernel)) rfl, imX12_turned, seX12_turned, ini_X12, cdX12_turned⟩ ⟨rfl, by decide +kernel, by decide +kernel, by decide +kernel⟩
theorem cdX11_wreck : ev_code mX11_wreck ∈ ev_TB := ev_in (List.mem_of_getElem? (i := 748) (by decide +kernel)) rfl
theorem imX11_wreck : Cond.instanceMethod yX11_wreck ∈ ev_TB := ev_in (List.mem_of_getElem? (i := 746) (by decide +kernel)) rfl
theorem seX11_wreck : Cond.selects RX11 yX11_wreck yX11_wreck ∈ ev_TB := ev_in (List.mem_of_getElem? (i := 747) (by decide +kernel)) rfl
theorem kL_law_803 : ev_K mL_law 803 mX11_wreck (some RX11) 4 := ev_kV dL_law_803 ⟨ev_in (List.mem_of_getElem? (i := 745) (by decide +kernel)) rfl, imX11_wreck, seX11_wreck, ini_X11, cdX11_wreck⟩ ⟨rfl, by decide +kernel, by decide +kernel, by decide +kernel⟩
theorem cdX12_wreck : ev_code mX12_wreck ∈ ev_TB := ev_in (List.mem_of_getElem? (i := 1196) (by decide +kernel)) rfl
theorem imX12_wreck : Cond.instanceMethod yX12_wreck ∈ ev_TB := ev_in (List.mem_of_getElem? (i := 1194) (by decide +kernel)) rfl
theorem seX12_wreck : Cond.selects RX12 yX12_wreck yX12_wreck ∈ ev_TB := ev_in (List.mem_of_getElem? (i := 1195) (by decide +kernel)) rfl
theorem kL_law_822 : ev_K mL_law 822 mX12_wreck (some RX12) 4 := ev_kV dL_law_822 ⟨ev_in (List.mem_of_getElem? (i := 1193) (by decide +kernel)) rfl, imX12_wreck, seX12_wreck, ini_X12, cdX12_wreck⟩ ⟨rfl, by decide +kernel, by decide +kernel, by decide +kernel⟩
theorem cdX11_feather : ev_code mX11_feather ∈ ev_TB := ev_in (List.mem_of_getElem? (i := 753) (by decide +kernel)) rfl
theorem imX11_feather : Cond.instanceMethod yX11_feather ∈ ev_TB := ev_in (List.mem_of_getElem? (i := 751) (by decide +kernel)) rfl
theorem seX11_feather : Cond.selects RX11 yX11_feather yX11_feather ∈ ev_TB := ev_in (List.mem_of_getElem? (i := 752) (by decide +kernel)) rfl
theorem kL_law_846 : ev_K mL_law 846 mX11_feather (some RX11) 4 := ev_kV dL_law_846 ⟨ev_in (List.mem_of_getElem? (i := 750) (by decide +kernel)) rfl, imX11_feather, seX11_feather, ini_X11, cdX11_feather⟩ ⟨rfl, by decide +kernel, by decide +kernel, by decide +kernel⟩
theorem cdX12_feather : ev_code mX12_feather ∈ ev_TB := ev_in (List.mem_of_getElem? (i := 1200) (by decide +kernel)) rfl
theorem imX12_feather : Cond.instanceMethod yX12_feather ∈ ev_TB := ev_in (List.mem_of_getElem? (i := 1198) (by decide +kernel)) rfl
theorem seX12_feather : Cond.selects RX12 yX12_feather yX12_feather ∈ ev_TB := ev_in (List.mem_of_getElem? (i := 1199) (by decide +kernel)) rfl
theorem kL_law_865 : ev_K mL_law 865 mX12_feather (some RX12) 4 := ev_kV dL_law_865 ⟨ev_in (List.mem_of_getElem? (i := 1197) (by decide +kernel)) rfl, imX12_feather, seX12_feather, ini_X12, cdX12_feather⟩ ⟨rfl, by decide +kernel, by decide +kernel, by decide +kernel⟩
theorem cdX11_warm : ev_code mX11_warm ∈ ev_TB := ev_in (List.mem_of_getElem? (i := 758) (by decide +kernel)) rfl
theorem imX11_warm : Cond.instanceMethod yX11_warm ∈ ev_TB := ev_in (List.mem_of_getElem? (i := 756) (by decide +kernel)) rfl
theorem seX11_warm : Cond.selects RX11 yX11_warm yX11_warm ∈ ev_TB := ev_in (List.mem_of_getElem? (i := 757) (by decide +kernel)) rfl
theorem kL_law_889 : ev_K mL_law 889 mX11_warm (some RX11) 4 := ev_kV dL_law_889 ⟨ev_in (List.mem_of_getElem? (i := 755) (by decide +kernel)) rfl, imX11_warm, seX11_warm, ini_X11, cdX11_warm⟩ ⟨rfl, by decide +kernel, by decide +kernel, by decide +kernel⟩
theorem cdX12_warm : ev_code mX12_warm ∈ ev_TB := ev_in (List.mem_of_getElem? (i := 1204) (by decide +kernel)) rfl
theorem imX12_warm : Cond.instanceMethod yX12_warm ∈ ev_TB := ev_in (List.mem_of_getElem? (i := 1202) (by decide +kernel)) rfl
theorem seX12_warm : Cond.selects RX12 yX12_warm yX12_warm ∈ ev_TB := ev_in (List.mem_of_getElem? (i := 1203) (by decide +kernel)) rfl
theorem kL_law_908 : ev_K mL_law 908 mX12_warm (some RX12) 4 := ev_kV dL_law_908 ⟨ev_in (List.mem_of_getElem? (i := 1201) (by decide +kernel)) rfl, imX12_warm, seX12_warm, ini_X12, cdX12_warm⟩ ⟨rfl, by decide +kernel, by decide +kernel, by decide +kernel⟩
theorem cdX11_shoot : ev_code mX11_shoot ∈ ev_TB := ev_in (List.mem_of_getElem? (i := 765) (by decide +kernel)) rfl
theorem imX11_shoot : Cond.instanceMethod yX11_shoot ∈ ev_TB := ev_in (List.mem_of_getElem? (i := 763) (by decide +kernel)) rfl
theorem seX11_shoot : Cond.selects RX11 yX11_shoot yX11_shoot ∈ ev_TB := ev_in (List.mem_of_getElem? (i := 764) (by decide +kernel)) rfl
theorem kL_law_932 : ev_K mL_law 932 mX11_shoot (some RX11) 4 := ev_kV dL_law_932 ⟨ev_in (List.mem_of_getElem? (i := 762) (by decide +kernel)) rfl, imX11_shoot, seX11_shoot, ini_X11, cdX11_shoot⟩ ⟨rfl, by decide +kernel, by decide +kernel, by decide +kernel⟩
theorem cdX12_shoot : ev_code mX12_shoot ∈ ev_TB := ev_in (List.mem_of_getElem? (i := 1208) (by decide +kernel)) rfl
theorem imX12_shoot : Cond.instanceMethod yX12_shoot ∈ ev_TB := ev_in (List.mem_of_getElem? (i := 1206) (by decide +kernel)) rfl
theorem seX12_shoot : Cond.selects RX12 yX12_shoot yX12_shoot ∈ ev_TB := ev_in (List.mem_of_getElem? (i := 1207) (by decide +kernel)) rfl
theorem kL_law_951 : ev_K mL_law 951 mX12_shoot (some RX12) 4 := ev_kV dL_law_951 ⟨ev_in (List.mem_of_getElem? (i := 1205) (by decide +kernel)) rfl, imX12_shoot, seX12_shoot, ini_X12, cdX12_shoot⟩ ⟨rfl, by decide +kernel, by decide +kernel, by decide +kernel⟩
theorem cdX11_shot : ev_code mX11_shot ∈ ev_TB := ev_in (List.mem_of_getElem? (i := 777) (by decide +kernel)) rfl
theorem imX11_shot : Cond.instanceMethod yX11_shot ∈ ev_TB := ev_in (List.mem_of_getElem? (i := 775) (by decide +kernel)) rfl
theorem seX11_shot : Cond.selects RX11 yX11_shot yX11_shot ∈ ev_TB := ev_in (List.mem_of_getElem? (i := 776) (by decide +kernel)) rfl
theorem kL_law_970 : ev_K mL_law 970 mX11_shot (some RX11) 3 := ev_kV dL_law_970 ⟨ev_in (List.mem_of_getElem? (i := 774) (by decide +kernel)) rfl, imX11_shot, seX11_shot, ini_X11, cdX11_shot⟩ ⟨rfl, by decide +kernel, by decide +kernel, by decide +kernel⟩
theorem cdX12_shot : ev_code mX12_shot ∈ ev_TB := ev_in (List.mem_of_getElem? (i := 1214) (by decide +kernel)) rfl
theorem imX12_shot : Cond.instanceMethod yX12_shot ∈ ev_TB := ev_in (List.mem_of_getElem? (i := 1212) (by decide +kernel)) rfl
theorem seX12_shot : Cond.selects RX12 yX12_shot yX12_shot ∈ ev_TB := ev_in (List.mem_of_getElem? (i := 1213) (by decide +kernel)) rfl
theorem kL_law_984 : ev_K mL_law 984 mX12_shot (some RX12) 3 := ev_kV dL_law_984 ⟨ev_in (List.mem_of_getElem? (i := 1211) (by decide +kernel)) rfl, imX12_shot, seX12_shot, ini_X12, cdX12_shot⟩ ⟨rfl, by decide +kernel, by decide +kernel, by decide +kernel⟩
theorem cdX11_wipe : ev_code mX11_wipe ∈ ev_TB := ev_in (List.mem_of_getElem? (i := 786) (by decide +kernel)) rfl
theorem imX11_wipe : Cond.instanceMethod yX11_wipe ∈ ev_TB := ev_in (List.mem_of_getElem? (i := 784) (by decide +kernel)) rfl
theorem seX11_wipe : Cond.selects RX11 yX11_wipe yX11_wipe ∈ ev_TB := ev_in (List.mem_of_getElem? (i := 785) (by decide +kernel)) rfl
theorem kL_law_993 : ev_K mL_law 993 mX11_wipe (some RX11) 1 := ev_kV dL_law_993 ⟨ev_in (List.mem_of_getElem? (i := 783) (by decide +kernel)) rfl, imX11_wipe, seX11_wipe, ini_X11, cdX11_wipe⟩ ⟨rfl, by decide +kernel, by decide +kernel, by decide +kernel⟩
theorem cdX12_wipe : ev_code mX12_wipe ∈ ev_TB := ev_in (List.mem_of_getElem? (i := 1218) (by decide +kernel)) rfl
theorem imX12_wipe : Cond.instanceMethod yX12_wipe ∈ ev_TB := ev_in (List.mem_of_getElem? (i := 1216) (by decide +kernel)) rfl
theorem seX12_wipe : Cond.selects RX12 yX12_wipe yX12_wipe ∈ ev_TB := ev_in (List.mem_of_getElem? (i := 1217) (by decide +kernel)) rfl
theorem kL_law_997 : ev_K mL_law 997 mX12_wipe (some RX12) 1 := ev_kV dL_law_997 ⟨ev_in (List.mem_of_getElem? (i := 1215) (by decide +kernel)) rfl, imX12_wipe, seX12_wipe, ini_X12, cdX12_wipe⟩ ⟨rfl, by decide +kernel, by decide +kernel, by decide +kernel⟩
theorem cdX11_parted : ev_code mX11_parted ∈ ev_TB := ev_in (List.mem_of_getElem? (i := 790) (by decide +kernel)) rfl
theorem imX11_parted : Cond.instanceMethod yX11_parted ∈ ev_TB := ev_in (List.mem_of_getElem? (i := 788) (by decide +kernel)) rfl
theorem seX11_parted : Cond.selects RX11 yX11_parted yX11_parted ∈ ev_TB := ev_in (List.mem_of_getElem? (i := 789) (by decide +kernel)) rfl
theorem kL_law_1006 : ev_K mL_law 1006 mX11_parted (some RX11) 1 := ev_kV dL_law_1006 ⟨ev_in (List.mem_of_getElem? (i := 787) (by decide +kernel)) rfl, imX11_parted, seX11_parted, ini_X11, cdX11_parted⟩ ⟨rfl, by decide +kernel, by decide +kernel, by decide +kernel⟩
theorem cdX12_parted : ev_code mX12_parted ∈ ev_TB := ev_in (List.mem_of_getElem? (i := 1222) (by decide +kernel)) rfl
theorem imX12_parted : Cond.instanceMethod yX12_parted ∈ ev_TB := ev_in (List.mem_of_getElem? (i := 1220) (by decide +kernel)) rfl
theorem seX12_parted : Cond.selects RX12 yX12_parted yX12_parted ∈ ev_TB := ev_in (List.mem_of_getElem? (i := 1221) (by decide +kernel)) rfl
theorem kL_law_1010 : ev_K mL_law 1010 mX12_parted (some RX12) 1 := ev_kV dL_law_1010 ⟨ev_in (List.mem_of_getElem? (i := 1219) (by decide +kernel)) rfl, imX12_parted, seX12_parted, ini_X12, cdX12_parted⟩ ⟨rfl, by decide +kernel, by decide +kernel, by decide +kernel⟩
theorem cdX11_spread : ev_code mX11_spread ∈ ev_TB := ev_in (List.mem_of_getElem? (i := 813) (by decide +kernel)) rfl
theorem imX11_spread : Cond.instanceMethod yX11_spread ∈ ev_TB := ev_in (List.mem_of_getElem? (i := 811) (by decide +kernel)) rfl
theorem seX11_spread : Cond.selects RX11 yX11_spread yX11_spread ∈ ev_TB := ev_in (List.mem_of_getElem? (i := 812) (by decide +kernel)) rfl
theorem kL_law_1024 : ev_K mL_law 1024 mX11_spread (some RX11) 2 := ev_kV dL_law_1024 ⟨ev_in (List.mem_of_getElem? (i := 810) (by decide +kernel)) rfl, imX11_spread, seX11_spread, ini_X11, cdX11_spread⟩ ⟨rfl, by decide +kernel, by decide +kernel, by decide +kernel⟩
theorem cdX12_spread : ev_code mX12_spread ∈ ev_TB := ev_in (List.mem_of_getElem? (i := 1237) (by decide +kernel)) rfl
theorem imX12_spread : Cond.instanceMethod yX12_spread ∈ ev_TB := ev_in (List.mem_of_getElem? (i := 1235) (by decide +kernel)) rfl
theorem seX12_spread : Cond.selects RX12 yX12_spread yX12_spread ∈ ev_TB := ev_in (List.mem_of_getElem? (i := 1236) (by decide +kernel)) rfl
theorem kL_law_1033 : ev_K mL_law 1033 mX12_spread (some RX12) 2 := ev_kV dL_law_1033 ⟨ev_in (List.mem_of_getElem? (i := 1234) (by decide +kernel)) rfl, imX12_spread, seX12_spread, ini_X12, cdX12_spread⟩ ⟨rfl, by decide +kernel, by decide +kernel, by decide +kernel⟩
theorem cdX11_out : ev_code mX11_out ∈ ev_TB := ev_in (List.mem_of_getElem? (i := 823) (by decide +kernel)) rfl
theorem imX11_out : Cond.instanceMethod yX11_out ∈ ev_TB := ev_in (List.mem_of_getElem? (i := 821) (by decide +kernel)) rfl
theorem seX11_out : Cond.selects RX11 yX11_out yX11_out ∈ ev_TB := ev_in (List.mem_of_getElem? (i := 822) (by decide +kernel)) rfl
theorem kL_law_1052 : ev_K mL_law 1052 mX11_out (some RX11) 3 := ev_kV dL_law_1052 ⟨ev_in (List.mem_of_getElem? (i := 820) (by decide +kernel)) rfl, imX11_out, seX11_out, ini_X11, cdX11_out⟩ ⟨rfl, by decide +kernel, by decide +kernel, by decide +kernel⟩
theorem cdX12_out : ev_code mX12_out ∈ ev_TB := ev_in (List.mem_of_getElem? (i := 1241) (by decide +kernel)) rfl
theorem imX12_out : Cond.instanceMethod yX12_out ∈ ev_TB := ev_in (List.mem_of_getElem? (i := 1239) (by decide +kernel)) rfl
theorem seX12_out : Cond.selects RX12 yX12_out yX12_out ∈ ev_TB := ev_in (List.mem_of_getElem? (i := 1240) (by decide +kernel)) rfl
theorem kL_law_1066 : ev_K mL_law 1066 mX12_out (some RX12) 3 := ev_kV dL_law_1066 ⟨ev_in (List.mem_of_getElem? (i := 1238) (by decide +kernel)) rfl, imX12_out, seX12_out, ini_X12, cdX12_out⟩ ⟨rfl, by decide +kernel, by decide +kernel, by decide +kernel⟩
theorem cdX11_lot : ev_code mX11_lot ∈ ev_TB := ev_in (List.mem_of_getElem? (i := 835) (by decide +kernel)) rfl
theorem imX11_lot : Cond.instanceMethod yX11_lot ∈ ev_TB := ev_in (List.mem_of_getElem? (i := 833) (by decide +kernel)) rfl
theorem seX11_lot : Cond.selects RX11 yX11_lot yX11_lot ∈ ev_TB := ev_in (List.mem_of_getElem? (i := 834) (by decide +kernel)) rfl
theorem kL_law_1080 : ev_K mL_law 1080 mX11_lot (some RX11) 2 := ev_kV dL_law_1080 ⟨ev_in (List.mem_of_getElem? (i := 832) (by decide +kernel)) rfl, imX11_lot, seX11_lot, ini_X11, cdX11_lot⟩ ⟨rfl, by decide +kernel, by decide +kernel, by decide +kernel⟩
theorem cdX12_lot : ev_code mX12_lot ∈ ev_TB := ev_in (List.mem_of_getElem? (i := 1245) (by decide +kernel)) rfl
theorem imX12_lot : Cond.instanceMethod yX12_lot ∈ ev_TB := ev_in (List.mem_of_getElem? (i := 1243) (by decide +kernel)) rfl
theorem seX12_lot : Cond.selects RX12 yX12_lot yX12_lot ∈ ev_TB := ev_in (List.mem_of_getElem? (i := 1244) (by decide +kernel)) rfl
theorem kL_law_1089 : ev_K mL_law 1089 mX12_lot (some RX12) 2 := ev_kV dL_law_1089 ⟨ev_in (List.mem_of_getElem? (i := 1242) (by decide +kernel)) rfl, imX12_lot, seX12_lot, ini_X12, cdX12_lot⟩ ⟨rfl, by decide +kernel, by decide +kernel, by decide +kernel⟩
theorem cdX11_rate : ev_code mX11_rate ∈ ev_TB := ev_in (List.mem_of_getElem? (i := 839) (by decide +kernel)) rfl
theorem imX11_rate : Cond.instanceMethod yX11_rate ∈ ev_TB := ev_in (List.mem_of_getElem? (i := 837) (by decide +kernel)) rfl
theorem seX11_rate : Cond.selects RX11 yX11_rate yX11_rate ∈ ev_TB := ev_in (List.mem_of_getElem? (i := 838) (by decide +kernel)) rfl
theorem kL_law_1108 : ev_K mL_law 1108 mX11_rate (some RX11) 3 := ev_kV dL_law_1108 ⟨ev_in (List.mem_of_getElem? (i := 836) (by decide +kernel)) rfl, imX11_rate, seX11_rate, ini_X11, cdX11_rate⟩ ⟨rfl, by decide +kernel, by decide +kernel, by decide +kernel⟩
theorem cdX12_rate : ev_code mX12_rate ∈ ev_TB := ev_in (List.mem_of_getElem? (i := 1249) (by decide +kernel)) rfl
theorem imX12_rate : Cond.instanceMethod yX12_rate ∈ ev_TB := ev_in (List.mem_of_getElem? (i := 1247) (by decide +kernel)) rfl
theorem seX12_rate : Cond.selects RX12 yX12_rate yX12_rate ∈ ev_TB := ev_in (List.mem_of_getElem? (i := 1248) (by decide +kernel)) rfl
theorem kL_law_1122 : ev_K mL_law 1122 mX12_rate (some RX12) 3 := ev_kV dL_law_1122 ⟨ev_in (List.mem_of_getElem? (i := 1246) (by decide +kernel)) rfl, imX12_rate, seX12_rate, ini_X12, cdX12_rate⟩ ⟨rfl, by decide +kernel, by decide +kernel, by decide +kernel⟩
theorem cdX11_keep : ev_code mX11_keep ∈ ev_TB := ev_in (List.mem_of_getElem? (i := 880) (by decide +kernel)) rfl
theorem imX11_keep : Cond.instanceMethod yX11_keep ∈ ev_TB := ev_in (List.mem_of_getElem? (i := 878) (by decide +kernel)) rfl
theorem seX11_keep : Cond.selects RX11 yX11_keep yX11_keep ∈ ev_TB := ev_in (List.mem_of_getElem? (i := 879) (by decide +kernel)) rfl
theorem kL_law_1136 : ev_K mL_law 1136 mX11_keep (some RX11) 2 := ev_kV dL_law_1136 ⟨ev_in (List.mem_of_getElem? (i := 877) (by decide +kernel)) rfl, imX11_keep, seX11_keep, ini_X11, cdX11_keep⟩ ⟨rfl, by decide +kernel, by decide +kernel, by decide +kernel⟩
theorem cdX12_keep : ev_code mX12_keep ∈ ev_TB := ev_in (List.mem_of_getElem? (i := 1258) (by decide +kernel)) rfl
theorem imX12_keep : Cond.instanceMethod yX12_keep ∈ ev_TB := ev_in (List.mem_of_getElem? (i := 1256) (by decide +kernel)) rfl
theorem seX12_keep : Cond.selects RX12 yX12_keep yX12_keep ∈ ev_TB := ev_in (List.mem_of_getElem? (i := 1257) (by decide +kernel)) rfl
theorem kL_law_1145 : ev_K mL_law 1145 mX12_keep (some RX12) 2 := ev_kV dL_law_1145 ⟨ev_in (List.mem_of_getElem? (i := 1255) (by decide +kernel)) rfl, imX12_keep, seX12_keep, ini_X12, cdX12_keep⟩ ⟨rfl, by decide +kernel, by decide +kernel, by decide +kernel⟩
theorem cdX11_back : ev_code mX11_back ∈ ev_TB := ev_in (List.mem_of_getElem? (i := 900) (by decide +kernel)) rfl
theorem imX11_back : Cond.instanceMethod yX11_back ∈ ev_TB := ev_in (List.mem_of_getElem? (i := 898) (by decide +kernel)) rfl
theorem seX11_back : Cond.selects RX11 yX11_back yX11_back ∈ ev_TB := ev_in (List.mem_of_getElem? (i := 899) (by decide +kernel)) rfl
theorem kL_law_1159 : ev_K mL_law 1159 mX11_back (some RX11) 2 := ev_kV dL_law_1159 ⟨ev_in (List.mem_of_getElem? (i := 897) (by decide +kernel)) rfl, imX11_back, seX11_back, ini_X11, cdX11_back⟩ ⟨rfl, by decide +kernel, by decide +kernel, by decide +kernel⟩
theorem cdX12_back : ev_code mX12_back ∈ ev_TB := ev_in (List.mem_of_getElem? (i := 1262) (by decide +kernel)) rfl
theorem imX12_back : Cond.instanceMethod yX12_back ∈ ev_TB := ev_in (List.mem_of_getElem? (i := 1260) (by decide +kernel)) rfl
theorem seX12_back : Cond.selects RX12 yX12_back yX12_back ∈ ev_TB := ev_in (List.mem_of_getElem? (i := 1261) (by decide +kernel)) rfl
theorem kL_law_1168 : ev_K mL_law 1168 mX12_back (some RX12) 2 := ev_kV dL_law_1168 ⟨ev_in (List.mem_of_getElem? (i := 1259) (by decide +kernel)) rfl, imX12_back, seX12_back, ini_X12, cdX12_back⟩ ⟨rfl, by decide +kernel, by decide +kernel, by decide +kernel⟩
theorem cdX11_count : ev_code mX11_count ∈ ev_TB := ev_in (List.mem_of_getElem? (i := 908) (by decide +kernel)) rfl
theorem imX11_count : Cond.instanceMethod yX11_count ∈ ev_TB := ev_in (List.mem_of_getElem? (i := 906) (by decide +kernel)) rfl
theorem seX11_count : Cond.selects RX11 yX11_count yX11_count ∈ ev_TB := ev_in (List.mem_of_getElem? (i := 907) (by decide +kernel)) rfl
theorem kL_law_1182 : ev_K mL_law 1182 mX11_count (some RX11) 2 := ev_kV dL_law_1182 ⟨ev_in (List.mem_of_getElem? (i := 905) (by decide +kernel)) rfl, imX11_count, seX11_count, ini_X11, cdX11_count⟩ ⟨rfl, by decide +kernel, by decide +kernel, by decide +kernel⟩
theorem cdX12_count : ev_code mX12_count ∈ ev_TB := ev_in (List.mem_of_getElem? (i := 1266) (by decide +kernel)) rfl
theorem imX12_count : Cond.instanceMethod yX12_count ∈ ev_TB := ev_in (List.mem_of_getElem? (i := 1264) (by decide +kernel)) rfl
theorem seX12_count : Cond.selects RX12 yX12_count yX12_count ∈ ev_TB := ev_in (List.mem_of_getElem? (i := 1265) (by decide +kernel)) rfl
theorem kL_law_1191 : ev_K mL_law 1191 mX12_count (some RX12) 2 := ev_kV dL_law_1191 ⟨ev_in (List.mem_of_getElem? (i := 1263) (by decide +kernel)) rfl, imX12_count, seX12_count, ini_X12, cdX12_count⟩ ⟨rfl, by decide +kernel, by decide +kernel, by decide +kernel⟩
theorem cdX11_trace : ev_code mX11_trace ∈ ev_TB := ev_in (List.mem_of_getElem? (i := 912) (by decide +kernel)) rfl
theorem imX11_trace : Cond.instanceMethod yX11_trace ∈ ev_TB := ev_in (List.mem_of_getElem? (i := 910) (by decide +kernel)) rfl
theorem seX11_trace : Cond.selects RX11 yX11_trace yX11_trace ∈ ev_TB := ev_in (List.mem_of_getElem? (i := 911) (by decide +kernel)) rfl
theorem kL_law_1200 : ev_K mL_law 1200 mX11_trace (some RX11) 1 := ev_kV dL_law_1200 ⟨ev_in (List.mem_of_getElem? (i := 909) (by decide +kernel)) rfl, imX11_trace, seX11_trace, ini_X11, cdX11_trace⟩ ⟨rfl, by decide +kernel, by decide +kernel, by decide +kernel⟩
theorem cdX12_trace : ev_code mX12_trace ∈ ev_TB := ev_in (List.mem_of_getElem? (i := 1270) (by decide +kernel)) rfl
theorem imX12_trace : Cond.instanceMethod yX12_trace ∈ ev_TB := ev_in (List.mem_of_getElem? (i := 1268) (by decide +kernel)) rfl
theorem seX12_trace : Cond.selects RX12 yX12_trace yX12_trace ∈ ev_TB := ev_in (List.mem_of_getElem? (i := 1269) (by decide +kernel)) rfl
theorem kL_law_1204 : ev_K mL_law 1204 mX12_trace (some RX12) 1 := ev_kV dL_law_1204 ⟨ev_in (List.mem_of_getElem? (i := 1267) (by decide +kernel)) rfl, imX12_trace, seX12_trace, ini_X12, cdX12_trace⟩ ⟨rfl, by decide +kernel, by decide +kernel, by decide +kernel⟩
