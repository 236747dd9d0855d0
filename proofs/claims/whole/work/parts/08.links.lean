/-! ===== methods; what the pool entries link ===== -/
abbrev mX0_init : ev_MI := (yX0_init, cX0_init, 1, none)
abbrev mX1_init : ev_MI := (yX1_init, cX1_init, 1, none)
abbrev mX1_need : ev_MI := (yX1_need, cX1_need, 1, (some .int))
abbrev mX1_dropOf : ev_MI := (yX1_dropOf, cX1_dropOf, 3, (some .int))
abbrev mX2_init : ev_MI := (yX2_init, cX2_init, 1, none)
abbrev mX2_gather : ev_MI := (yX2_gather, cX2_gather, 9, none)
abbrev mX2_find : ev_MI := (yX2_find, cX2_find, 5, none)
abbrev mX2_tryFrom : ev_MI := (yX2_tryFrom, cX2_tryFrom, 8, none)
abbrev mX3_init : ev_MI := (yX3_init, cX3_init, 2, none)
abbrev mX3_empty : ev_MI := (yX3_empty, cX3_empty, 1, none)
abbrev mX3_stickAt : ev_MI := (yX3_stickAt, cX3_stickAt, 2, (some (.object "AlikeArrows$Stick")))
abbrev mX3_bowAt : ev_MI := (yX3_bowAt, cX3_bowAt, 2, (some (.object "AlikeArrows$Bow")))
abbrev mX3_archerAt : ev_MI := (yX3_archerAt, cX3_archerAt, 2, (some (.object "AlikeArrows$Archer")))
abbrev mX3_addStick : ev_MI := (yX3_addStick, cX3_addStick, 1, (some (.object "AlikeArrows$Stick")))
abbrev mX3_addBow : ev_MI := (yX3_addBow, cX3_addBow, 1, (some (.object "AlikeArrows$Bow")))
abbrev mX3_addArcher : ev_MI := (yX3_addArcher, cX3_addArcher, 1, (some (.object "AlikeArrows$Archer")))
abbrev mX4_init : ev_MI := (yX4_init, cX4_init, 2, none)
abbrev mX4_take : ev_MI := (yX4_take, cX4_take, 5, none)
abbrev mX4_give : ev_MI := (yX4_give, cX4_give, 4, none)
abbrev mX5_init : ev_MI := (yX5_init, cX5_init, 2, none)
abbrev mX5_rateAs : ev_MI := (yX5_rateAs, cX5_rateAs, 4, (some .int))
abbrev mX5_ofFlight : ev_MI := (yX5_ofFlight, cX5_ofFlight, 2, (some .int))
abbrev mX5_ofClean : ev_MI := (yX5_ofClean, cX5_ofClean, 2, (some .int))
abbrev mX5_ofStiff : ev_MI := (yX5_ofStiff, cX5_ofStiff, 3, (some .int))
abbrev mX5_ofWindy : ev_MI := (yX5_ofWindy, cX5_ofWindy, 2, (some .int))
abbrev mX5_ofSlapped : ev_MI := (yX5_ofSlapped, cX5_ofSlapped, 3, (some .int))
abbrev mX5_ofSoft : ev_MI := (yX5_ofSoft, cX5_ofSoft, 2, (some .int))
abbrev mX6_init : ev_MI := (yX6_init, cX6_init, 1, none)
abbrev mX6_tell : ev_MI := (yX6_tell, cX6_tell, 2, (some .int))
abbrev mX6_find : ev_MI := (yX6_find, cX6_find, 16, none)
abbrev mX6_isFewer : ev_MI := (yX6_isFewer, cX6_isFewer, 2, (some .boolean))
abbrev mX6_note : ev_MI := (yX6_note, cX6_note, 5, none)
abbrev mX7_init : ev_MI := (yX7_init, cX7_init, 2, none)
abbrev mX7_readAll : ev_MI := (yX7_readAll, cX7_readAll, 3, (some .int))
abbrev mX7_readItem : ev_MI := (yX7_readItem, cX7_readItem, 2, (some .boolean))
abbrev mX7_readStick : ev_MI := (yX7_readStick, cX7_readStick, 3, (some .boolean))
abbrev mX7_readBow : ev_MI := (yX7_readBow, cX7_readBow, 3, (some .boolean))
abbrev mX7_readArcher : ev_MI := (yX7_readArcher, cX7_readArcher, 4, (some .boolean))
abbrev mX7_skipBlanks : ev_MI := (yX7_skipBlanks, cX7_skipBlanks, 1, none)
abbrev mX7_takeWord : ev_MI := (yX7_takeWord, cX7_takeWord, 4, (some .boolean))
abbrev mX7_takeNumbers : ev_MI := (yX7_takeNumbers, cX7_takeNumbers, 4, (some .boolean))
abbrev mX7_takeNumber : ev_MI := (yX7_takeNumber, cX7_takeNumber, 6, (some .int))
abbrev mX7_takeEnd : ev_MI := (yX7_takeEnd, cX7_takeEnd, 1, (some .boolean))
abbrev mX8_init : ev_MI := (yX8_init, cX8_init, 1, none)
abbrev mX8_add : ev_MI := (yX8_add, cX8_add, 6, none)
abbrev mX8_tell : ev_MI := (yX8_tell, cX8_tell, 3, (some .int))
abbrev mX8_empty : ev_MI := (yX8_empty, cX8_empty, 2, (some .int))
abbrev mX8_copy : ev_MI := (yX8_copy, cX8_copy, 3, none)
abbrev mX8_partedBy : ev_MI := (yX8_partedBy, cX8_partedBy, 7, (some .int))
abbrev mX8_weigh : ev_MI := (yX8_weigh, cX8_weigh, 3, none)
abbrev mX8_addUp : ev_MI := (yX8_addUp, cX8_addUp, 4, none)
abbrev mX8_addFraction : ev_MI := (yX8_addFraction, cX8_addFraction, 7, none)
abbrev mX8_commonDivisor : ev_MI := (yX8_commonDivisor, cX8_commonDivisor, 7, (some .long))
abbrev mX8_spreadOf : ev_MI := (yX8_spreadOf, cX8_spreadOf, 6, (some .int))
abbrev mX8_mayLeave : ev_MI := (yX8_mayLeave, cX8_mayLeave, 12, (some .int))
abbrev mX9_init : ev_MI := (yX9_init, cX9_init, 1, none)
abbrev mX9_copy : ev_MI := (yX9_copy, cX9_copy, 2, none)
abbrev mX9_spine : ev_MI := (yX9_spine, cX9_spine, 1, (some .int))
abbrev mX9_spineBy : ev_MI := (yX9_spineBy, cX9_spineBy, 2, (some .int))
abbrev mX9_stiffBy : ev_MI := (yX9_stiffBy, cX9_stiffBy, 2, (some .int))
abbrev mX9_mass : ev_MI := (yX9_mass, cX9_mass, 1, (some .int))
abbrev mX9_mostCuts : ev_MI := (yX9_mostCuts, cX9_mostCuts, 1, (some .int))
abbrev mX9_mostScrapes : ev_MI := (yX9_mostScrapes, cX9_mostScrapes, 1, (some .int))
abbrev mX9_mostLoads : ev_MI := (yX9_mostLoads, cX9_mostLoads, 1, (some .int))
abbrev mX10_init : ev_MI := (yX10_init, cX10_init, 1, none)
abbrev mX10_add : ev_MI := (yX10_add, cX10_add, 2, none)
abbrev mX10_at : ev_MI := (yX10_at, cX10_at, 2, (some .int))
abbrev mX10_empty : ev_MI := (yX10_empty, cX10_empty, 2, (some .int))
abbrev mX11_init : ev_MI := (yX11_init, cX11_init, 1, none)
abbrev mX11_change : ev_MI := (yX11_change, cX11_change, 4, (some .int))
abbrev mX11_wind : ev_MI := (yX11_wind, cX11_wind, 1, (some .int))
abbrev mX11_isClean : ev_MI := (yX11_isClean, cX11_isClean, 2, (some .boolean))
abbrev mX11_flightOf : ev_MI := (yX11_flightOf, cX11_flightOf, 2, (some .int))
abbrev mX11_bareOf : ev_MI := (yX11_bareOf, cX11_bareOf, 3, (some .int))
abbrev mX11_feathered : ev_MI := (yX11_feathered, cX11_feathered, 3, (some .int))
abbrev mX11_goesOf : ev_MI := (yX11_goesOf, cX11_goesOf, 4, (some .int))
abbrev mX12_init : ev_MI := (yX12_init, cX12_init, 1, none)
abbrev mX12_type : ev_MI := (yX12_type, cX12_type, 5, (some .int))
abbrev mX12_clear : ev_MI := (yX12_clear, cX12_clear, 1, (some .int))
abbrev mX12_arrows : ev_MI := (yX12_arrows, cX12_arrows, 3, (some .int))
abbrev mX12_stick : ev_MI := (yX12_stick, cX12_stick, 4, (some .int))
abbrev mX12_bow : ev_MI := (yX12_bow, cX12_bow, 4, (some .int))
abbrev mX12_archer : ev_MI := (yX12_archer, cX12_archer, 4, (some .int))
abbrev mX12_tune : ev_MI := (yX12_tune, cX12_tune, 3, (some .int))
abbrev mX12_cut : ev_MI := (yX12_cut, cX12_cut, 3, (some .int))
abbrev mX12_scrape : ev_MI := (yX12_scrape, cX12_scrape, 3, (some .int))
abbrev mX12_load : ev_MI := (yX12_load, cX12_load, 3, (some .int))
abbrev mX12_turn : ev_MI := (yX12_turn, cX12_turn, 3, (some .int))
abbrev mX12_least : ev_MI := (yX12_least, cX12_least, 8, (some .int))
abbrev mX12_flight : ev_MI := (yX12_flight, cX12_flight, 7, (some .int))
abbrev mX12_band : ev_MI := (yX12_band, cX12_band, 8, (some .int))
abbrev mX12_says : ev_MI := (yX12_says, cX12_says, 6, (some .int))
abbrev mX12_alike : ev_MI := (yX12_alike, cX12_alike, 6, (some .int))
abbrev mX12_turned : ev_MI := (yX12_turned, cX12_turned, 5, (some .int))
abbrev mX12_wreck : ev_MI := (yX12_wreck, cX12_wreck, 7, (some .int))
abbrev mX12_feather : ev_MI := (yX12_feather, cX12_feather, 11, (some .int))
abbrev mX12_warm : ev_MI := (yX12_warm, cX12_warm, 11, (some .int))
abbrev mX12_shoot : ev_MI := (yX12_shoot, cX12_shoot, 10, (some .int))
abbrev mX12_shot : ev_MI := (yX12_shot, cX12_shot, 3, (some .int))
abbrev mX12_wipe : ev_MI := (yX12_wipe, cX12_wipe, 1, (some .int))
abbrev mX12_parted : ev_MI := (yX12_parted, cX12_parted, 1, (some .int))
abbrev mX12_spread : ev_MI := (yX12_spread, cX12_spread, 2, (some .int))
abbrev mX12_out : ev_MI := (yX12_out, cX12_out, 3, (some .int))
abbrev mX12_lot : ev_MI := (yX12_lot, cX12_lot, 3, (some .int))
abbrev mX12_rate : ev_MI := (yX12_rate, cX12_rate, 5, (some .int))
abbrev mX12_keep : ev_MI := (yX12_keep, cX12_keep, 3, (some .int))
abbrev mX12_back : ev_MI := (yX12_back, cX12_back, 3, (some .int))
abbrev mX12_count : ev_MI := (yX12_count, cX12_count, 2, (some .int))
abbrev mX12_trace : ev_MI := (yX12_trace, cX12_trace, 1, (some .long))
abbrev mX12_imageAt : ev_MI := (yX12_imageAt, cX12_imageAt, 2, (some (.object "AlikeArrows$Image")))
abbrev mX12_within : ev_MI := (yX12_within, cX12_within, 3, (some .boolean))
abbrev mX12_divided : ev_MI := (yX12_divided, cX12_divided, 2, (some .int))
abbrev mX12_leftOver : ev_MI := (yX12_leftOver, cX12_leftOver, 2, (some .int))
abbrev mX12_spineOf : ev_MI := (yX12_spineOf, cX12_spineOf, 3, (some .int))
abbrev mX12_needOf : ev_MI := (yX12_needOf, cX12_needOf, 2, (some .int))
abbrev mX13_init : ev_MI := (yX13_init, cX13_init, 1, none)
abbrev mX13_in : ev_MI := (yX13_in, cX13_in, 3, (some .boolean))
abbrev mX13_size : ev_MI := (yX13_size, cX13_size, 1, (some .int))
abbrev mX13_type : ev_MI := (yX13_type, cX13_type, 5, (some .int))
abbrev mX13_clear : ev_MI := (yX13_clear, cX13_clear, 2, (some .int))
abbrev mX13_byteAt : ev_MI := (yX13_byteAt, cX13_byteAt, 2, (some .int))
abbrev mX13_add : ev_MI := (yX13_add, cX13_add, 3, (some .long))
abbrev mX13_named : ev_MI := (yX13_named, cX13_named, 6, (some .long))
abbrev mX13_wordOf : ev_MI := (yX13_wordOf, cX13_wordOf, 3, (some .int))
abbrev mX13_advances : ev_MI := (yX13_advances, cX13_advances, 4, none)
abbrev mX13_isWell : ev_MI := (yX13_isWell, cX13_isWell, 1, (some .boolean))
abbrev mX13_takes : ev_MI := (yX13_takes, cX13_takes, 3, (some .int))
abbrev mX13_number : ev_MI := (yX13_number, cX13_number, 3, (some .int))
abbrev mX13_readsItem : ev_MI := (yX13_readsItem, cX13_readsItem, 4, none)
abbrev mX13_arrows : ev_MI := (yX13_arrows, cX13_arrows, 3, (some .int))
abbrev mX13_isStick : ev_MI := (yX13_isStick, cX13_isStick, 2, (some .boolean))
abbrev mX13_isBow : ev_MI := (yX13_isBow, cX13_isBow, 2, (some .boolean))
abbrev mX13_stick : ev_MI := (yX13_stick, cX13_stick, 3, (some .int))
abbrev mX13_bow : ev_MI := (yX13_bow, cX13_bow, 3, (some .int))
abbrev mX13_archer : ev_MI := (yX13_archer, cX13_archer, 3, (some .int))
abbrev mX13_tune : ev_MI := (yX13_tune, cX13_tune, 5, (some .int))
abbrev mX13_cut : ev_MI := (yX13_cut, cX13_cut, 2, (some .int))
abbrev mX13_mayScrape : ev_MI := (yX13_mayScrape, cX13_mayScrape, 4, (some .boolean))
abbrev mX13_scrape : ev_MI := (yX13_scrape, cX13_scrape, 3, (some .int))
abbrev mX13_load : ev_MI := (yX13_load, cX13_load, 2, (some .int))
abbrev mX13_turn : ev_MI := (yX13_turn, cX13_turn, 2, (some .int))
abbrev mX13_tries : ev_MI := (yX13_tries, cX13_tries, 7, (some .boolean))
abbrev mX13_isAct : ev_MI := (yX13_isAct, cX13_isAct, 1, (some .boolean))
abbrev mX13_least : ev_MI := (yX13_least, cX13_least, 12, (some .int))
abbrev mX13_lays : ev_MI := (yX13_lays, cX13_lays, 3, none)
abbrev mX13_kindOf : ev_MI := (yX13_kindOf, cX13_kindOf, 2, (some .int))
abbrev mX13_bareOf : ev_MI := (yX13_bareOf, cX13_bareOf, 4, (some .int))
abbrev mX13_flies : ev_MI := (yX13_flies, cX13_flies, 3, none)
abbrev mX13_fliesWith : ev_MI := (yX13_fliesWith, cX13_fliesWith, 3, none)
abbrev mX13_flight : ev_MI := (yX13_flight, cX13_flight, 4, (some .int))
abbrev mX13_band : ev_MI := (yX13_band, cX13_band, 9, (some .int))
abbrev mX13_says : ev_MI := (yX13_says, cX13_says, 8, (some .int))
abbrev mX13_areSame : ev_MI := (yX13_areSame, cX13_areSame, 2, (some .boolean))
abbrev mX13_fliesAll : ev_MI := (yX13_fliesAll, cX13_fliesAll, 4, none)
abbrev mX13_areAlike : ev_MI := (yX13_areAlike, cX13_areAlike, 7, (some .boolean))
abbrev mX13_manyOf : ev_MI := (yX13_manyOf, cX13_manyOf, 4, (some .int))
abbrev mX13_alike : ev_MI := (yX13_alike, cX13_alike, 7, (some .int))
abbrev mX13_turned : ev_MI := (yX13_turned, cX13_turned, 10, (some .int))
abbrev mX13_wreck : ev_MI := (yX13_wreck, cX13_wreck, 7, (some .int))
abbrev mX13_feather : ev_MI := (yX13_feather, cX13_feather, 8, (some .int))
abbrev mX13_warm : ev_MI := (yX13_warm, cX13_warm, 8, (some .int))
abbrev mX13_shoot : ev_MI := (yX13_shoot, cX13_shoot, 7, (some .int))
abbrev mX13_shot : ev_MI := (yX13_shot, cX13_shot, 3, (some .int))
abbrev mX13_wipe : ev_MI := (yX13_wipe, cX13_wipe, 2, (some .int))
abbrev mX13_gcd : ev_MI := (yX13_gcd, cX13_gcd, 10, (some .long))
abbrev mX13_adds : ev_MI := (yX13_adds, cX13_adds, 7, none)
abbrev mX13_parts : ev_MI := (yX13_parts, cX13_parts, 9, none)
abbrev mX13_parted : ev_MI := (yX13_parted, cX13_parted, 11, (some .int))
abbrev mX13_spread : ev_MI := (yX13_spread, cX13_spread, 7, (some .int))
abbrev mX13_out : ev_MI := (yX13_out, cX13_out, 9, (some .int))
abbrev mX13_lot : ev_MI := (yX13_lot, cX13_lot, 3, (some .int))
abbrev mX13_rate : ev_MI := (yX13_rate, cX13_rate, 5, (some .int))
abbrev mX13_keep : ev_MI := (yX13_keep, cX13_keep, 3, (some .int))
abbrev mX13_back : ev_MI := (yX13_back, cX13_back, 3, (some .int))
abbrev mX13_count : ev_MI := (yX13_count, cX13_count, 2, (some .int))
abbrev mX13_trace : ev_MI := (yX13_trace, cX13_trace, 1, (some .long))
abbrev mJ6_bitCount_0f7a4 : ev_MI := (yJ6_bitCount_0f7a4, cJ6_bitCount_0f7a4, 1, (some .int))
abbrev mJ9_abs_0f7a4 : ev_MI := (yJ9_abs_0f7a4, cJ9_abs_0f7a4, 1, (some .int))
abbrev mJ9_abs_067f4 : ev_MI := (yJ9_abs_067f4, cJ9_abs_067f4, 2, (some .long))
abbrev mJ9_max_7cf53 : ev_MI := (yJ9_max_7cf53, cJ9_max_7cf53, 2, (some .int))
abbrev mJ9_min_7cf53 : ev_MI := (yJ9_min_7cf53, cJ9_min_7cf53, 2, (some .int))
abbrev mJ0_length_8abf5 : ev_MI := (yJ0_length_8abf5, cJ0_length_8abf5, 1, (some .int))
abbrev mJ0_charAt_5068e : ev_MI := (yJ0_charAt_5068e, cJ0_charAt_5068e, 2, (some .char))
abbrev mJ0_coder_7d493 : ev_MI := (yJ0_coder_7d493, cJ0_coder_7d493, 1, (some .byte))
abbrev mJ0_isLatin1_aae02 : ev_MI := (yJ0_isLatin1_aae02, cJ0_isLatin1_aae02, 1, (some .boolean))
abbrev mJ0_checkIndex_df160 : ev_MI := (yJ0_checkIndex_df160, cJ0_checkIndex_df160, 2, none)
abbrev mJ1_charAt_3b067 : ev_MI := (yJ1_charAt_3b067, cJ1_charAt_3b067, 2, (some .char))
abbrev mJ2_getChar_3b067 : ev_MI := (yJ2_getChar_3b067, cJ2_getChar_3b067, 2, (some .char))
abbrev mJ2_length_9d52b : ev_MI := (yJ2_length_9d52b, cJ2_length_9d52b, 1, (some .int))
abbrev mJ2_charAt_3b067 : ev_MI := (yJ2_charAt_3b067, cJ2_charAt_3b067, 2, (some .char))
abbrev mJ2_checkIndex_2214a : ev_MI := (yJ2_checkIndex_2214a, cJ2_checkIndex_2214a, 2, none)
abbrev mJ3_checkIndex_8e157 : ev_MI := (yJ3_checkIndex_8e157, cJ3_checkIndex_8e157, 3, (some .int))
abbrev mL_law : ev_MI := (yL_law, cL_law, 4, some .boolean)
theorem in_X0 : ∀ w ∈ u_ws RX0 TX0 2, w ∈ ev_TB := by
  have h1 : ∀ w ∈ u_ws RX0 TX0 2, w ∈ lw_tbl := by decide +kernel
  have h2 : ∀ w ∈ u_ws RX0 TX0 2, goodWord w = true := by decide +kernel
  exact fun w hw => ev_in (h1 w hw) (h2 w hw)
theorem in_X1 : ∀ w ∈ u_ws RX1 TX1 2, w ∈ ev_TB := by
  have h1 : ∀ w ∈ u_ws RX1 TX1 2, w ∈ lw_tbl := by decide +kernel
  have h2 : ∀ w ∈ u_ws RX1 TX1 2, goodWord w = true := by decide +kernel
  exact fun w hw => ev_in (h1 w hw) (h2 w hw)
theorem in_X2 : ∀ w ∈ u_ws RX2 TX2 6, w ∈ ev_TB := by
  have h1 : ∀ w ∈ u_ws RX2 TX2 6, w ∈ lw_tbl := by decide +kernel
  have h2 : ∀ w ∈ u_ws RX2 TX2 6, goodWord w = true := by decide +kernel
  exact fun w hw => ev_in (h1 w hw) (h2 w hw)
theorem in_X3 : ∀ w ∈ u_ws RX3 TX3 6, w ∈ ev_TB := by
  have h1 : ∀ w ∈ u_ws RX3 TX3 6, w ∈ lw_tbl := by decide +kernel
  have h2 : ∀ w ∈ u_ws RX3 TX3 6, goodWord w = true := by decide +kernel
  exact fun w hw => ev_in (h1 w hw) (h2 w hw)
theorem in_X4 : ∀ w ∈ u_ws RX4 TX4 4, w ∈ ev_TB := by
  have h1 : ∀ w ∈ u_ws RX4 TX4 4, w ∈ lw_tbl := by decide +kernel
  have h2 : ∀ w ∈ u_ws RX4 TX4 4, goodWord w = true := by decide +kernel
  exact fun w hw => ev_in (h1 w hw) (h2 w hw)
theorem in_X5 : ∀ w ∈ u_ws RX5 TX5 2, w ∈ ev_TB := by
  have h1 : ∀ w ∈ u_ws RX5 TX5 2, w ∈ lw_tbl := by decide +kernel
  have h2 : ∀ w ∈ u_ws RX5 TX5 2, goodWord w = true := by decide +kernel
  exact fun w hw => ev_in (h1 w hw) (h2 w hw)
theorem in_X6 : ∀ w ∈ u_ws RX6 TX6 5, w ∈ ev_TB := by
  have h1 : ∀ w ∈ u_ws RX6 TX6 5, w ∈ lw_tbl := by decide +kernel
  have h2 : ∀ w ∈ u_ws RX6 TX6 5, goodWord w = true := by decide +kernel
  exact fun w hw => ev_in (h1 w hw) (h2 w hw)
theorem in_X7 : ∀ w ∈ u_ws RX7 TX7 3, w ∈ ev_TB := by
  have h1 : ∀ w ∈ u_ws RX7 TX7 3, w ∈ lw_tbl := by decide +kernel
  have h2 : ∀ w ∈ u_ws RX7 TX7 3, goodWord w = true := by decide +kernel
  exact fun w hw => ev_in (h1 w hw) (h2 w hw)
theorem in_X8 : ∀ w ∈ u_ws RX8 TX8 10, w ∈ ev_TB := by
  have h1 : ∀ w ∈ u_ws RX8 TX8 10, w ∈ lw_tbl := by decide +kernel
  have h2 : ∀ w ∈ u_ws RX8 TX8 10, goodWord w = true := by decide +kernel
  exact fun w hw => ev_in (h1 w hw) (h2 w hw)
theorem in_X9 : ∀ w ∈ u_ws RX9 TX9 7, w ∈ ev_TB := by
  have h1 : ∀ w ∈ u_ws RX9 TX9 7, w ∈ lw_tbl := by decide +kernel
  have h2 : ∀ w ∈ u_ws RX9 TX9 7, goodWord w = true := by decide +kernel
  exact fun w hw => ev_in (h1 w hw) (h2 w hw)
theorem in_X10 : ∀ w ∈ u_ws RX10 TX10 2, w ∈ ev_TB := by
  have h1 : ∀ w ∈ u_ws RX10 TX10 2, w ∈ lw_tbl := by decide +kernel
  have h2 : ∀ w ∈ u_ws RX10 TX10 2, goodWord w = true := by decide +kernel
  exact fun w hw => ev_in (h1 w hw) (h2 w hw)
theorem in_X11 : ∀ w ∈ u_ws RX11 TX11 1, w ∈ ev_TB := by
  have h1 : ∀ w ∈ u_ws RX11 TX11 1, w ∈ lw_tbl := by decide +kernel
  have h2 : ∀ w ∈ u_ws RX11 TX11 1, goodWord w = true := by decide +kernel
  exact fun w hw => ev_in (h1 w hw) (h2 w hw)
theorem in_X12 : ∀ w ∈ u_ws RX12 TX12 12, w ∈ ev_TB := by
  have h1 : ∀ w ∈ u_ws RX12 TX12 12, w ∈ lw_tbl := by decide +kernel
  have h2 : ∀ w ∈ u_ws RX12 TX12 12, goodWord w = true := by decide +kernel
  exact fun w hw => ev_in (h1 w hw) (h2 w hw)
theorem in_X13 : ∀ w ∈ u_ws RX13 TX13 36, w ∈ ev_TB := by
  have h1 : ∀ w ∈ u_ws RX13 TX13 36, w ∈ lw_tbl := by decide +kernel
  have h2 : ∀ w ∈ u_ws RX13 TX13 36, goodWord w = true := by decide +kernel
  exact fun w hw => ev_in (h1 w hw) (h2 w hw)
theorem arI : Cond.arrayClass .int ∈ ev_TB := ev_in (List.mem_of_getElem? (i := 86) (by decide +kernel)) rfl
theorem arZ : Cond.arrayClass .boolean ∈ ev_TB := ev_in (List.mem_of_getElem? (i := 1045) (by decide +kernel)) rfl
theorem imOb : Cond.instanceMethod objectInit ∈ ev_TB := ev_in (List.mem_of_getElem? (i := 69) (by decide +kernel)) rfl
theorem cdOb : Cond.code objectInit ⟨#[0xb1]⟩ 1 none ∈ ev_TB := ev_in (List.mem_of_getElem? (i := 70) (by decide +kernel)) rfl
theorem iniMath : Cond.initialized "java/lang/Math" ∈ ev_TB := ev_in (List.mem_of_getElem? (i := 61) (by decide +kernel)) rfl
theorem obX0_1 : Cond.methodLink RX0 1 objectInit ∈ ev_TB ∧ Cond.instanceMethod objectInit ∈ ev_TB ∧ Cond.code objectInit ⟨#[0xb1]⟩ 1 none ∈ ev_TB := ⟨ev_in (List.mem_of_getElem? (i := 320) (by decide +kernel)) rfl, imOb, cdOb⟩
theorem obX1_1 : Cond.methodLink RX1 1 objectInit ∈ ev_TB ∧ Cond.instanceMethod objectInit ∈ ev_TB ∧ Cond.code objectInit ⟨#[0xb1]⟩ 1 none ∈ ev_TB := ⟨ev_in (List.mem_of_getElem? (i := 304) (by decide +kernel)) rfl, imOb, cdOb⟩
theorem flX1_7 : ev_FL RX1 7 1 0 := ⟨(RX1, TX1, 2), rfl, by decide, ev_in (List.mem_of_getElem? (i := 305) (by decide +kernel)) rfl, in_X1, rfl⟩
theorem flX1_13 : ev_FL RX1 13 1 1 := ⟨(RX1, TX1, 2), rfl, by decide, ev_in (List.mem_of_getElem? (i := 308) (by decide +kernel)) rfl, in_X1, rfl⟩
theorem cdX12_needOf : ev_code mX12_needOf ∈ ev_TB := ev_in (List.mem_of_getElem? (i := 576) (by decide +kernel)) rfl
theorem ini_X12 : Cond.initialized RX12 ∈ ev_TB := ev_in (List.mem_of_getElem? (i := 43) (by decide +kernel)) rfl
theorem smX12_needOf : Cond.static yX12_needOf ∈ ev_TB := ev_in (List.mem_of_getElem? (i := 575) (by decide +kernel)) rfl
theorem kX1_need_8 : ev_K mX1_need 8 mX12_needOf none 2 := ev_kSN (host := "AlikeArrows") dX1_need_8 (List.mem_filter.mpr ⟨List.mem_of_getElem? (i := 574) (by decide +kernel), rfl⟩) ⟨smX12_needOf, ini_X12, cdX12_needOf⟩ ⟨by decide +kernel, by decide +kernel, by decide +kernel⟩
theorem cdX9_mass : ev_code mX9_mass ∈ ev_TB := ev_in (List.mem_of_getElem? (i := 658) (by decide +kernel)) rfl
theorem ini_X9 : Cond.initialized RX9 ∈ ev_TB := ev_in (List.mem_of_getElem? (i := 52) (by decide +kernel)) rfl
theorem imX9_mass : Cond.instanceMethod yX9_mass ∈ ev_TB := ev_in (List.mem_of_getElem? (i := 656) (by decide +kernel)) rfl
theorem seX9_mass : Cond.selects RX9 yX9_mass yX9_mass ∈ ev_TB := ev_in (List.mem_of_getElem? (i := 657) (by decide +kernel)) rfl
theorem kX1_dropOf_3 : ev_K mX1_dropOf 3 mX9_mass (some RX9) 1 := ev_kV dX1_dropOf_3 ⟨ev_in (List.mem_of_getElem? (i := 717) (by decide +kernel)) rfl, imX9_mass, seX9_mass, ini_X9, cdX9_mass⟩ ⟨rfl, by decide +kernel, by decide +kernel, by decide +kernel⟩
theorem cdX12_divided : ev_code mX12_divided ∈ ev_TB := ev_in (List.mem_of_getElem? (i := 654) (by decide +kernel)) rfl
theorem smX12_divided : Cond.static yX12_divided ∈ ev_TB := ev_in (List.mem_of_getElem? (i := 653) (by decide +kernel)) rfl
theorem kX1_dropOf_11 : ev_K mX1_dropOf 11 mX12_divided none 2 := ev_kSN (host := "AlikeArrows") dX1_dropOf_11 (List.mem_filter.mpr ⟨List.mem_of_getElem? (i := 718) (by decide +kernel), rfl⟩) ⟨smX12_divided, ini_X12, cdX12_divided⟩ ⟨by decide +kernel, by decide +kernel, by decide +kernel⟩
theorem obX2_3 : Cond.methodLink RX2 3 objectInit ∈ ev_TB ∧ Cond.instanceMethod objectInit ∈ ev_TB ∧ Cond.code objectInit ⟨#[0xb1]⟩ 1 none ∈ ev_TB := ⟨ev_in (List.mem_of_getElem? (i := 156) (by decide +kernel)) rfl, imOb, cdOb⟩
theorem fpX2_9 : ev_FP RX2 9 2 0 (.array .int) true := ⟨(RX2, TX2, 6), tyX2, rfl, by decide, ev_in (List.mem_of_getElem? (i := 157) (by decide +kernel)) rfl, in_X2, rfl, tyX2_ok, nmX2, by decide +kernel, rfl, fun h => by first | rfl | cases h⟩
theorem fpX2_15 : ev_FP RX2 15 2 1 (.array .int) true := ⟨(RX2, TX2, 6), tyX2, rfl, by decide, ev_in (List.mem_of_getElem? (i := 158) (by decide +kernel)) rfl, in_X2, rfl, tyX2_ok, nmX2, by decide +kernel, rfl, fun h => by first | rfl | cases h⟩
theorem fpX2_18 : ev_FP RX2 18 2 2 (.array .int) true := ⟨(RX2, TX2, 6), tyX2, rfl, by decide, ev_in (List.mem_of_getElem? (i := 159) (by decide +kernel)) rfl, in_X2, rfl, tyX2_ok, nmX2, by decide +kernel, rfl, fun h => by first | rfl | cases h⟩
theorem fpX2_21 : ev_FP RX2 21 2 3 .int false := ⟨(RX2, TX2, 6), tyX2, rfl, by decide, ev_in (List.mem_of_getElem? (i := 160) (by decide +kernel)) rfl, in_X2, rfl, tyX2_ok, nmX2, by decide +kernel, rfl, fun h => by first | rfl | cases h⟩
theorem flX2_25 : ev_FL RX2 25 3 3 := ⟨(RX3, TX3, 6), rfl, by decide, ev_in (List.mem_of_getElem? (i := 338) (by decide +kernel)) rfl, in_X3, rfl⟩
theorem flX2_18 : ev_FL RX2 18 2 2 := ⟨(RX2, TX2, 6), rfl, by decide, ev_in (List.mem_of_getElem? (i := 159) (by decide +kernel)) rfl, in_X2, rfl⟩
theorem flX2_30 : ev_FL RX2 30 3 0 := ⟨(RX3, TX3, 6), rfl, by decide, ev_in (List.mem_of_getElem? (i := 331) (by decide +kernel)) rfl, in_X3, rfl⟩
theorem flX2_34 : ev_FL RX2 34 9 6 := ⟨(RX9, TX9, 7), rfl, by decide, ev_in (List.mem_of_getElem? (i := 253) (by decide +kernel)) rfl, in_X9, rfl⟩
theorem flX2_9 : ev_FL RX2 9 2 0 := ⟨(RX2, TX2, 6), rfl, by decide, ev_in (List.mem_of_getElem? (i := 157) (by decide +kernel)) rfl, in_X2, rfl⟩
theorem cdX9_spineBy : ev_code mX9_spineBy ∈ ev_TB := ev_in (List.mem_of_getElem? (i := 686) (by decide +kernel)) rfl
theorem imX9_spineBy : Cond.instanceMethod yX9_spineBy ∈ ev_TB := ev_in (List.mem_of_getElem? (i := 684) (by decide +kernel)) rfl
theorem seX9_spineBy : Cond.selects RX9 yX9_spineBy yX9_spineBy ∈ ev_TB := ev_in (List.mem_of_getElem? (i := 685) (by decide +kernel)) rfl
theorem kX2_gather_81 : ev_K mX2_gather 81 mX9_spineBy (some RX9) 2 := ev_kV dX2_gather_81 ⟨ev_in (List.mem_of_getElem? (i := 739) (by decide +kernel)) rfl, imX9_spineBy, seX9_spineBy, ini_X9, cdX9_spineBy⟩ ⟨rfl, by decide +kernel, by decide +kernel, by decide +kernel⟩
theorem cdX1_need : ev_code mX1_need ∈ ev_TB := ev_in (List.mem_of_getElem? (i := 573) (by decide +kernel)) rfl
theorem ini_X1 : Cond.initialized RX1 ∈ ev_TB := ev_in (List.mem_of_getElem? (i := 54) (by decide +kernel)) rfl
theorem imX1_need : Cond.instanceMethod yX1_need ∈ ev_TB := ev_in (List.mem_of_getElem? (i := 571) (by decide +kernel)) rfl
theorem seX1_need : Cond.selects RX1 yX1_need yX1_need ∈ ev_TB := ev_in (List.mem_of_getElem? (i := 572) (by decide +kernel)) rfl
theorem kX2_gather_85 : ev_K mX2_gather 85 mX1_need (some RX1) 1 := ev_kV dX2_gather_85 ⟨ev_in (List.mem_of_getElem? (i := 740) (by decide +kernel)) rfl, imX1_need, seX1_need, ini_X1, cdX1_need⟩ ⟨rfl, by decide +kernel, by decide +kernel, by decide +kernel⟩
theorem flX2_49 : ev_FL RX2 49 9 5 := ⟨(RX9, TX9, 7), rfl, by decide, ev_in (List.mem_of_getElem? (i := 249) (by decide +kernel)) rfl, in_X9, rfl⟩
theorem cdX11_goesOf : ev_code mX11_goesOf ∈ ev_TB := ev_in (List.mem_of_getElem? (i := 701) (by decide +kernel)) rfl
theorem ini_X11 : Cond.initialized RX11 ∈ ev_TB := ev_in (List.mem_of_getElem? (i := 46) (by decide +kernel)) rfl
theorem imX11_goesOf : Cond.instanceMethod yX11_goesOf ∈ ev_TB := ev_in (List.mem_of_getElem? (i := 699) (by decide +kernel)) rfl
theorem seX11_goesOf : Cond.selects RX11 yX11_goesOf yX11_goesOf ∈ ev_TB := ev_in (List.mem_of_getElem? (i := 700) (by decide +kernel)) rfl
theorem kX2_gather_94 : ev_K mX2_gather 94 mX11_goesOf (some RX11) 4 := ev_kV dX2_gather_94 ⟨ev_in (List.mem_of_getElem? (i := 741) (by decide +kernel)) rfl, imX11_goesOf, seX11_goesOf, ini_X11, cdX11_goesOf⟩ ⟨rfl, by decide +kernel, by decide +kernel, by decide +kernel⟩
theorem flX2_15 : ev_FL RX2 15 2 1 := ⟨(RX2, TX2, 6), rfl, by decide, ev_in (List.mem_of_getElem? (i := 158) (by decide +kernel)) rfl, in_X2, rfl⟩
theorem kX2_gather_111 : ev_K mX2_gather 111 mX9_spineBy (some RX9) 2 := ev_kV dX2_gather_111 ⟨ev_in (List.mem_of_getElem? (i := 739) (by decide +kernel)) rfl, imX9_spineBy, seX9_spineBy, ini_X9, cdX9_spineBy⟩ ⟨rfl, by decide +kernel, by decide +kernel, by decide +kernel⟩
theorem kX2_gather_115 : ev_K mX2_gather 115 mX1_need (some RX1) 1 := ev_kV dX2_gather_115 ⟨ev_in (List.mem_of_getElem? (i := 740) (by decide +kernel)) rfl, imX1_need, seX1_need, ini_X1, cdX1_need⟩ ⟨rfl, by decide +kernel, by decide +kernel, by decide +kernel⟩
theorem kX2_gather_124 : ev_K mX2_gather 124 mX11_goesOf (some RX11) 4 := ev_kV dX2_gather_124 ⟨ev_in (List.mem_of_getElem? (i := 741) (by decide +kernel)) rfl, imX11_goesOf, seX11_goesOf, ini_X11, cdX11_goesOf⟩ ⟨rfl, by decide +kernel, by decide +kernel, by decide +kernel⟩
theorem cdX1_dropOf : ev_code mX1_dropOf ∈ ev_TB := ev_in (List.mem_of_getElem? (i := 716) (by decide +kernel)) rfl
theorem imX1_dropOf : Cond.instanceMethod yX1_dropOf ∈ ev_TB := ev_in (List.mem_of_getElem? (i := 714) (by decide +kernel)) rfl
theorem seX1_dropOf : Cond.selects RX1 yX1_dropOf yX1_dropOf ∈ ev_TB := ev_in (List.mem_of_getElem? (i := 715) (by decide +kernel)) rfl
theorem kX2_gather_142 : ev_K mX2_gather 142 mX1_dropOf (some RX1) 3 := ev_kV dX2_gather_142 ⟨ev_in (List.mem_of_getElem? (i := 742) (by decide +kernel)) rfl, imX1_dropOf, seX1_dropOf, ini_X1, cdX1_dropOf⟩ ⟨rfl, by decide +kernel, by decide +kernel, by decide +kernel⟩
theorem flX2_21 : ev_FL RX2 21 2 3 := ⟨(RX2, TX2, 6), rfl, by decide, ev_in (List.mem_of_getElem? (i := 160) (by decide +kernel)) rfl, in_X2, rfl⟩
theorem fpX2_62 : ev_FP RX2 62 2 4 .int false := ⟨(RX2, TX2, 6), tyX2, rfl, by decide, ev_in (List.mem_of_getElem? (i := 161) (by decide +kernel)) rfl, in_X2, rfl, tyX2_ok, nmX2, by decide +kernel, rfl, fun h => by first | rfl | cases h⟩
theorem fpX2_65 : ev_FP RX2 65 2 5 .int false := ⟨(RX2, TX2, 6), tyX2, rfl, by decide, ev_in (List.mem_of_getElem? (i := 163) (by decide +kernel)) rfl, in_X2, rfl, tyX2_ok, nmX2, by decide +kernel, rfl, fun h => by first | rfl | cases h⟩
theorem cdX2_tryFrom : ev_code mX2_tryFrom ∈ ev_TB := ev_in (List.mem_of_getElem? (i := 750) (by decide +kernel)) rfl
theorem ini_X2 : Cond.initialized RX2 ∈ ev_TB := ev_in (List.mem_of_getElem? (i := 48) (by decide +kernel)) rfl
theorem imX2_tryFrom : Cond.instanceMethod yX2_tryFrom ∈ ev_TB := ev_in (List.mem_of_getElem? (i := 749) (by decide +kernel)) rfl
theorem seX2_tryFrom : Cond.selects RX2 yX2_tryFrom yX2_tryFrom ∈ ev_TB := ev_in (List.mem_of_getElem? (i := 11) (by decide +kernel)) rfl
theorem kX2_find_48 : ev_K mX2_find 48 mX2_tryFrom (some RX2) 5 := ev_kV dX2_find_48 ⟨ev_in (List.mem_of_getElem? (i := 747) (by decide +kernel)) rfl, imX2_tryFrom, seX2_tryFrom, ini_X2, cdX2_tryFrom⟩ ⟨rfl, by decide +kernel, by decide +kernel, by decide +kernel⟩
theorem kX2_find_67 : ev_K mX2_find 67 mX2_tryFrom (some RX2) 5 := ev_kV dX2_find_67 ⟨ev_in (List.mem_of_getElem? (i := 747) (by decide +kernel)) rfl, imX2_tryFrom, seX2_tryFrom, ini_X2, cdX2_tryFrom⟩ ⟨rfl, by decide +kernel, by decide +kernel, by decide +kernel⟩
theorem cdX12_within : ev_code mX12_within ∈ ev_TB := ev_in (List.mem_of_getElem? (i := 403) (by decide +kernel)) rfl
theorem smX12_within : Cond.static yX12_within ∈ ev_TB := ev_in (List.mem_of_getElem? (i := 402) (by decide +kernel)) rfl
theorem kX2_tryFrom_26 : ev_K mX2_tryFrom 26 mX12_within none 3 := ev_kSN (host := "AlikeArrows") dX2_tryFrom_26 (List.mem_filter.mpr ⟨List.mem_of_getElem? (i := 751) (by decide +kernel), rfl⟩) ⟨smX12_within, ini_X12, cdX12_within⟩ ⟨by decide +kernel, by decide +kernel, by decide +kernel⟩
theorem kX2_tryFrom_43 : ev_K mX2_tryFrom 43 mX12_within none 3 := ev_kSN (host := "AlikeArrows") dX2_tryFrom_43 (List.mem_filter.mpr ⟨List.mem_of_getElem? (i := 751) (by decide +kernel), rfl⟩) ⟨smX12_within, ini_X12, cdX12_within⟩ ⟨by decide +kernel, by decide +kernel, by decide +kernel⟩
theorem kX2_tryFrom_73 : ev_K mX2_tryFrom 73 mX12_within none 3 := ev_kSN (host := "AlikeArrows") dX2_tryFrom_73 (List.mem_filter.mpr ⟨List.mem_of_getElem? (i := 751) (by decide +kernel), rfl⟩) ⟨smX12_within, ini_X12, cdX12_within⟩ ⟨by decide +kernel, by decide +kernel, by decide +kernel⟩
theorem cdJ6_bitCount_0f7a4 : ev_code mJ6_bitCount_0f7a4 ∈ ev_TB := ev_in (List.mem_of_getElem? (i := 754) (by decide +kernel)) rfl
theorem ini_J6 : Cond.initialized RJ6 ∈ ev_TB := ev_in (List.mem_of_getElem? (i := 62) (by decide +kernel)) rfl
theorem smJ6_bitCount_0f7a4 : Cond.static yJ6_bitCount_0f7a4 ∈ ev_TB := ev_in (List.mem_of_getElem? (i := 753) (by decide +kernel)) rfl
theorem kX2_tryFrom_96 : ev_K mX2_tryFrom 96 mJ6_bitCount_0f7a4 none 1 := ev_kS dX2_tryFrom_96 ⟨ev_in (List.mem_of_getElem? (i := 752) (by decide +kernel)) rfl, smJ6_bitCount_0f7a4, ini_J6, cdJ6_bitCount_0f7a4⟩ ⟨by decide +kernel, by decide +kernel, by decide +kernel⟩
theorem flX2_65 : ev_FL RX2 65 2 5 := ⟨(RX2, TX2, 6), rfl, by decide, ev_in (List.mem_of_getElem? (i := 163) (by decide +kernel)) rfl, in_X2, rfl⟩
theorem flX2_62 : ev_FL RX2 62 2 4 := ⟨(RX2, TX2, 6), rfl, by decide, ev_in (List.mem_of_getElem? (i := 161) (by decide +kernel)) rfl, in_X2, rfl⟩
theorem obX3_3 : Cond.methodLink RX3 3 objectInit ∈ ev_TB ∧ Cond.instanceMethod objectInit ∈ ev_TB ∧ Cond.code objectInit ⟨#[0xb1]⟩ 1 none ∈ ev_TB := ⟨ev_in (List.mem_of_getElem? (i := 293) (by decide +kernel)) rfl, imOb, cdOb⟩
theorem clX3_9 : Cond.classLink RX3 9 RX9 ∈ ev_TB := ev_in (List.mem_of_getElem? (i := 294) (by decide +kernel)) rfl
theorem fpX3_11 : ev_FP RX3 11 3 0 (.array (.object RX9)) true := ⟨(RX3, TX3, 6), tyX3, rfl, by decide, ev_in (List.mem_of_getElem? (i := 330) (by decide +kernel)) rfl, in_X3, rfl, tyX3_ok, nmX3, by decide +kernel, rfl, fun h => by first | rfl | cases h⟩
theorem clX3_17 : Cond.classLink RX3 17 RX1 ∈ ev_TB := ev_in (List.mem_of_getElem? (i := 295) (by decide +kernel)) rfl
theorem fpX3_19 : ev_FP RX3 19 3 1 (.array (.object RX1)) true := ⟨(RX3, TX3, 6), tyX3, rfl, by decide, ev_in (List.mem_of_getElem? (i := 334) (by decide +kernel)) rfl, in_X3, rfl, tyX3_ok, nmX3, by decide +kernel, rfl, fun h => by first | rfl | cases h⟩
theorem clX3_23 : Cond.classLink RX3 23 RX0 ∈ ev_TB := ev_in (List.mem_of_getElem? (i := 297) (by decide +kernel)) rfl
theorem fpX3_25 : ev_FP RX3 25 3 2 (.array (.object RX0)) true := ⟨(RX3, TX3, 6), tyX3, rfl, by decide, ev_in (List.mem_of_getElem? (i := 335) (by decide +kernel)) rfl, in_X3, rfl, tyX3_ok, nmX3, by decide +kernel, rfl, fun h => by first | rfl | cases h⟩
theorem flX3_11 : ev_FL RX3 11 3 0 := ⟨(RX3, TX3, 6), rfl, by decide, ev_in (List.mem_of_getElem? (i := 330) (by decide +kernel)) rfl, in_X3, rfl⟩
theorem nwX3_9 : ev_NW RX3 9 9 [.int 0, .int 0, .int 0, .int 0, .int 0, .int 0, .int 0] 7 := ⟨(RX9, TX9, 7), tyX9, rfl, rfl, ev_in (List.mem_of_getElem? (i := 294) (by decide +kernel)) rfl, ev_in (List.mem_of_getElem? (i := 224) (by decide +kernel)) rfl, ini_X9, in_X9, tyX9_ok, fun j hj => by
  match j, hj with
  | 0, _ => exact ⟨rfl, fun _ => rfl⟩
  | 1, _ => exact ⟨rfl, fun _ => rfl⟩
  | 2, _ => exact ⟨rfl, fun _ => rfl⟩
  | 3, _ => exact ⟨rfl, fun _ => rfl⟩
  | 4, _ => exact ⟨rfl, fun _ => rfl⟩
  | 5, _ => exact ⟨rfl, fun _ => rfl⟩
  | 6, _ => exact ⟨rfl, fun _ => rfl⟩
  | j + 7, hj => exact absurd hj (by show ¬ j + 7 < 7; omega)⟩
theorem cdX9_init : ev_code mX9_init ∈ ev_TB := ev_in (List.mem_of_getElem? (i := 227) (by decide +kernel)) rfl
theorem imX9_init : Cond.instanceMethod yX9_init ∈ ev_TB := ev_in (List.mem_of_getElem? (i := 226) (by decide +kernel)) rfl
theorem kX3_init_49 : ev_K mX3_init 49 mX9_init (some RX9) 1 := ev_kIN (host := "AlikeArrows") dX3_init_49 rfl (List.mem_filter.mpr ⟨List.mem_of_getElem? (i := 299) (by decide +kernel), rfl⟩) ⟨imX9_init, ini_X9, cdX9_init⟩ rfl ⟨by decide +kernel, by decide +kernel, by decide +kernel⟩
theorem flX3_19 : ev_FL RX3 19 3 1 := ⟨(RX3, TX3, 6), rfl, by decide, ev_in (List.mem_of_getElem? (i := 334) (by decide +kernel)) rfl, in_X3, rfl⟩
theorem nwX3_17 : ev_NW RX3 17 1 [.int 0, .int 0] 2 := ⟨(RX1, TX1, 2), tyX1, rfl, rfl, ev_in (List.mem_of_getElem? (i := 295) (by decide +kernel)) rfl, ev_in (List.mem_of_getElem? (i := 300) (by decide +kernel)) rfl, ini_X1, in_X1, tyX1_ok, fun j hj => by
  match j, hj with
  | 0, _ => exact ⟨rfl, fun _ => rfl⟩
  | 1, _ => exact ⟨rfl, fun _ => rfl⟩
  | j + 2, hj => exact absurd hj (by show ¬ j + 2 < 2; omega)⟩
theorem cdX1_init : ev_code mX1_init ∈ ev_TB := ev_in (List.mem_of_getElem? (i := 303) (by decide +kernel)) rfl
theorem imX1_init : Cond.instanceMethod yX1_init ∈ ev_TB := ev_in (List.mem_of_getElem? (i := 302) (by decide +kernel)) rfl
theorem kX3_init_79 : ev_K mX3_init 79 mX1_init (some RX1) 1 := ev_kIN (host := "AlikeArrows") dX3_init_79 rfl (List.mem_filter.mpr ⟨List.mem_of_getElem? (i := 301) (by decide +kernel), rfl⟩) ⟨imX1_init, ini_X1, cdX1_init⟩ rfl ⟨by decide +kernel, by decide +kernel, by decide +kernel⟩
theorem flX3_25 : ev_FL RX3 25 3 2 := ⟨(RX3, TX3, 6), rfl, by decide, ev_in (List.mem_of_getElem? (i := 335) (by decide +kernel)) rfl, in_X3, rfl⟩
theorem ini_X0 : Cond.initialized RX0 ∈ ev_TB := ev_in (List.mem_of_getElem? (i := 55) (by decide +kernel)) rfl
theorem nwX3_23 : ev_NW RX3 23 0 [.int 0, .int 0] 2 := ⟨(RX0, TX0, 2), tyX0, rfl, rfl, ev_in (List.mem_of_getElem? (i := 297) (by decide +kernel)) rfl, ev_in (List.mem_of_getElem? (i := 316) (by decide +kernel)) rfl, ini_X0, in_X0, tyX0_ok, fun j hj => by
  match j, hj with
  | 0, _ => exact ⟨rfl, fun _ => rfl⟩
  | 1, _ => exact ⟨rfl, fun _ => rfl⟩
  | j + 2, hj => exact absurd hj (by show ¬ j + 2 < 2; omega)⟩
theorem cdX0_init : ev_code mX0_init ∈ ev_TB := ev_in (List.mem_of_getElem? (i := 319) (by decide +kernel)) rfl
theorem imX0_init : Cond.instanceMethod yX0_init ∈ ev_TB := ev_in (List.mem_of_getElem? (i := 318) (by decide +kernel)) rfl
theorem kX3_init_109 : ev_K mX3_init 109 mX0_init (some RX0) 1 := ev_kIN (host := "AlikeArrows") dX3_init_109 rfl (List.mem_filter.mpr ⟨List.mem_of_getElem? (i := 317) (by decide +kernel), rfl⟩) ⟨imX0_init, ini_X0, cdX0_init⟩ rfl ⟨by decide +kernel, by decide +kernel, by decide +kernel⟩
theorem fpX3_32 : ev_FP RX3 32 3 3 .int false := ⟨(RX3, TX3, 6), tyX3, rfl, by decide, ev_in (List.mem_of_getElem? (i := 336) (by decide +kernel)) rfl, in_X3, rfl, tyX3_ok, nmX3, by decide +kernel, rfl, fun h => by first | rfl | cases h⟩
theorem fpX3_36 : ev_FP RX3 36 3 4 .int false := ⟨(RX3, TX3, 6), tyX3, rfl, by decide, ev_in (List.mem_of_getElem? (i := 341) (by decide +kernel)) rfl, in_X3, rfl, tyX3_ok, nmX3, by decide +kernel, rfl, fun h => by first | rfl | cases h⟩
theorem fpX3_39 : ev_FP RX3 39 3 5 .int false := ⟨(RX3, TX3, 6), tyX3, rfl, by decide, ev_in (List.mem_of_getElem? (i := 344) (by decide +kernel)) rfl, in_X3, rfl, tyX3_ok, nmX3, by decide +kernel, rfl, fun h => by first | rfl | cases h⟩
theorem flX3_32 : ev_FL RX3 32 3 3 := ⟨(RX3, TX3, 6), rfl, by decide, ev_in (List.mem_of_getElem? (i := 336) (by decide +kernel)) rfl, in_X3, rfl⟩
theorem flX3_36 : ev_FL RX3 36 3 4 := ⟨(RX3, TX3, 6), rfl, by decide, ev_in (List.mem_of_getElem? (i := 341) (by decide +kernel)) rfl, in_X3, rfl⟩
theorem flX3_39 : ev_FL RX3 39 3 5 := ⟨(RX3, TX3, 6), rfl, by decide, ev_in (List.mem_of_getElem? (i := 344) (by decide +kernel)) rfl, in_X3, rfl⟩
theorem obX4_3 : Cond.methodLink RX4 3 objectInit ∈ ev_TB ∧ Cond.instanceMethod objectInit ∈ ev_TB ∧ Cond.code objectInit ⟨#[0xb1]⟩ 1 none ∈ ev_TB := ⟨ev_in (List.mem_of_getElem? (i := 219) (by decide +kernel)) rfl, imOb, cdOb⟩
theorem clX4_9 : Cond.classLink RX4 9 RX9 ∈ ev_TB := ev_in (List.mem_of_getElem? (i := 220) (by decide +kernel)) rfl
theorem fpX4_11 : ev_FP RX4 11 4 0 (.array (.object RX9)) true := ⟨(RX4, TX4, 4), tyX4, rfl, by decide, ev_in (List.mem_of_getElem? (i := 273) (by decide +kernel)) rfl, in_X4, rfl, tyX4_ok, nmX4, by decide +kernel, rfl, fun h => by first | rfl | cases h⟩
theorem ini_X8 : Cond.initialized RX8 ∈ ev_TB := ev_in (List.mem_of_getElem? (i := 47) (by decide +kernel)) rfl
theorem nwX4_17 : ev_NW RX4 17 8 [.null, .null, .null, .null, .null, .null, .null, .long 0, .long 0, .int 0] 10 := ⟨(RX8, TX8, 10), tyX8, rfl, rfl, ev_in (List.mem_of_getElem? (i := 222) (by decide +kernel)) rfl, ev_in (List.mem_of_getElem? (i := 114) (by decide +kernel)) rfl, ini_X8, in_X8, tyX8_ok, fun j hj => by
  match j, hj with
  | 0, _ => exact ⟨rfl, fun _ => rfl⟩
  | 1, _ => exact ⟨rfl, fun _ => rfl⟩
  | 2, _ => exact ⟨rfl, fun _ => rfl⟩
  | 3, _ => exact ⟨rfl, fun _ => rfl⟩
  | 4, _ => exact ⟨rfl, fun _ => rfl⟩
  | 5, _ => exact ⟨rfl, fun _ => rfl⟩
  | 6, _ => exact ⟨rfl, fun _ => rfl⟩
  | 7, _ => exact ⟨rfl, fun _ => rfl⟩
  | 8, _ => exact ⟨rfl, fun _ => rfl⟩
  | 9, _ => exact ⟨rfl, fun _ => rfl⟩
  | j + 10, hj => exact absurd hj (by show ¬ j + 10 < 10; omega)⟩
theorem cdX8_init : ev_code mX8_init ∈ ev_TB := ev_in (List.mem_of_getElem? (i := 117) (by decide +kernel)) rfl
theorem imX8_init : Cond.instanceMethod yX8_init ∈ ev_TB := ev_in (List.mem_of_getElem? (i := 116) (by decide +kernel)) rfl
theorem kX4_init_18 : ev_K mX4_init 18 mX8_init (some RX8) 1 := ev_kIN (host := "AlikeArrows") dX4_init_18 rfl (List.mem_filter.mpr ⟨List.mem_of_getElem? (i := 223) (by decide +kernel), rfl⟩) ⟨imX8_init, ini_X8, cdX8_init⟩ rfl ⟨by decide +kernel, by decide +kernel, by decide +kernel⟩
theorem fpX4_20 : ev_FP RX4 20 4 1 (.object RX8) true := ⟨(RX4, TX4, 4), tyX4, rfl, by decide, ev_in (List.mem_of_getElem? (i := 274) (by decide +kernel)) rfl, in_X4, rfl, tyX4_ok, nmX4, by decide +kernel, rfl, fun h => by first | rfl | cases h⟩
theorem flX4_11 : ev_FL RX4 11 4 0 := ⟨(RX4, TX4, 4), rfl, by decide, ev_in (List.mem_of_getElem? (i := 273) (by decide +kernel)) rfl, in_X4, rfl⟩
theorem nwX4_9 : ev_NW RX4 9 9 [.int 0, .int 0, .int 0, .int 0, .int 0, .int 0, .int 0] 7 := ⟨(RX9, TX9, 7), tyX9, rfl, rfl, ev_in (List.mem_of_getElem? (i := 220) (by decide +kernel)) rfl, ev_in (List.mem_of_getElem? (i := 224) (by decide +kernel)) rfl, ini_X9, in_X9, tyX9_ok, fun j hj => by
  match j, hj with
  | 0, _ => exact ⟨rfl, fun _ => rfl⟩
  | 1, _ => exact ⟨rfl, fun _ => rfl⟩
  | 2, _ => exact ⟨rfl, fun _ => rfl⟩
  | 3, _ => exact ⟨rfl, fun _ => rfl⟩
  | 4, _ => exact ⟨rfl, fun _ => rfl⟩
  | 5, _ => exact ⟨rfl, fun _ => rfl⟩
  | 6, _ => exact ⟨rfl, fun _ => rfl⟩
  | j + 7, hj => exact absurd hj (by show ¬ j + 7 < 7; omega)⟩
theorem kX4_init_44 : ev_K mX4_init 44 mX9_init (some RX9) 1 := ev_kIN (host := "AlikeArrows") dX4_init_44 rfl (List.mem_filter.mpr ⟨List.mem_of_getElem? (i := 225) (by decide +kernel), rfl⟩) ⟨imX9_init, ini_X9, cdX9_init⟩ rfl ⟨by decide +kernel, by decide +kernel, by decide +kernel⟩
theorem flX4_25 : ev_FL RX4 25 3 3 := ⟨(RX3, TX3, 6), rfl, by decide, ev_in (List.mem_of_getElem? (i := 337) (by decide +kernel)) rfl, in_X3, rfl⟩
theorem flX4_31 : ev_FL RX4 31 3 0 := ⟨(RX3, TX3, 6), rfl, by decide, ev_in (List.mem_of_getElem? (i := 332) (by decide +kernel)) rfl, in_X3, rfl⟩
theorem cdX9_copy : ev_code mX9_copy ∈ ev_TB := ev_in (List.mem_of_getElem? (i := 909) (by decide +kernel)) rfl
theorem imX9_copy : Cond.instanceMethod yX9_copy ∈ ev_TB := ev_in (List.mem_of_getElem? (i := 907) (by decide +kernel)) rfl
theorem seX9_copy : Cond.selects RX9 yX9_copy yX9_copy ∈ ev_TB := ev_in (List.mem_of_getElem? (i := 908) (by decide +kernel)) rfl
theorem kX4_take_36 : ev_K mX4_take 36 mX9_copy (some RX9) 2 := ev_kV dX4_take_36 ⟨ev_in (List.mem_of_getElem? (i := 906) (by decide +kernel)) rfl, imX9_copy, seX9_copy, ini_X9, cdX9_copy⟩ ⟨rfl, by decide +kernel, by decide +kernel, by decide +kernel⟩
theorem flX4_20 : ev_FL RX4 20 4 1 := ⟨(RX4, TX4, 4), rfl, by decide, ev_in (List.mem_of_getElem? (i := 274) (by decide +kernel)) rfl, in_X4, rfl⟩
theorem cdX8_copy : ev_code mX8_copy ∈ ev_TB := ev_in (List.mem_of_getElem? (i := 913) (by decide +kernel)) rfl
theorem imX8_copy : Cond.instanceMethod yX8_copy ∈ ev_TB := ev_in (List.mem_of_getElem? (i := 911) (by decide +kernel)) rfl
theorem seX8_copy : Cond.selects RX8 yX8_copy yX8_copy ∈ ev_TB := ev_in (List.mem_of_getElem? (i := 912) (by decide +kernel)) rfl
theorem kX4_take_50 : ev_K mX4_take 50 mX8_copy (some RX8) 2 := ev_kV dX4_take_50 ⟨ev_in (List.mem_of_getElem? (i := 910) (by decide +kernel)) rfl, imX8_copy, seX8_copy, ini_X8, cdX8_copy⟩ ⟨rfl, by decide +kernel, by decide +kernel, by decide +kernel⟩
theorem fpX4_39 : ev_FP RX4 39 4 2 .int false := ⟨(RX4, TX4, 4), tyX4, rfl, by decide, ev_in (List.mem_of_getElem? (i := 275) (by decide +kernel)) rfl, in_X4, rfl, tyX4_ok, nmX4, by decide +kernel, rfl, fun h => by first | rfl | cases h⟩
theorem fpX4_42 : ev_FP RX4 42 4 3 .boolean false := ⟨(RX4, TX4, 4), tyX4, rfl, by decide, ev_in (List.mem_of_getElem? (i := 277) (by decide +kernel)) rfl, in_X4, rfl, tyX4_ok, nmX4, by decide +kernel, rfl, fun h => by first | rfl | cases h⟩
theorem kX4_give_31 : ev_K mX4_give 31 mX9_copy (some RX9) 2 := ev_kV dX4_give_31 ⟨ev_in (List.mem_of_getElem? (i := 906) (by decide +kernel)) rfl, imX9_copy, seX9_copy, ini_X9, cdX9_copy⟩ ⟨rfl, by decide +kernel, by decide +kernel, by decide +kernel⟩
theorem kX4_give_45 : ev_K mX4_give 45 mX8_copy (some RX8) 2 := ev_kV dX4_give_45 ⟨ev_in (List.mem_of_getElem? (i := 910) (by decide +kernel)) rfl, imX8_copy, seX8_copy, ini_X8, cdX8_copy⟩ ⟨rfl, by decide +kernel, by decide +kernel, by decide +kernel⟩
theorem obX5_3 : Cond.methodLink RX5 3 objectInit ∈ ev_TB ∧ Cond.instanceMethod objectInit ∈ ev_TB ∧ Cond.code objectInit ⟨#[0xb1]⟩ 1 none ∈ ev_TB := ⟨ev_in (List.mem_of_getElem? (i := 205) (by decide +kernel)) rfl, imOb, cdOb⟩
theorem fpX5_9 : ev_FP RX5 9 5 0 (.object RX11) true := ⟨(RX5, TX5, 2), tyX5, rfl, by decide, ev_in (List.mem_of_getElem? (i := 206) (by decide +kernel)) rfl, in_X5, rfl, tyX5_ok, nmX5, by decide +kernel, rfl, fun h => by first | rfl | cases h⟩
theorem cdX5_ofFlight : ev_code mX5_ofFlight ∈ ev_TB := ev_in (List.mem_of_getElem? (i := 864) (by decide +kernel)) rfl
theorem ini_X5 : Cond.initialized RX5 ∈ ev_TB := ev_in (List.mem_of_getElem? (i := 50) (by decide +kernel)) rfl
theorem imX5_ofFlight : Cond.instanceMethod yX5_ofFlight ∈ ev_TB := ev_in (List.mem_of_getElem? (i := 863) (by decide +kernel)) rfl
theorem seX5_ofFlight : Cond.selects RX5 yX5_ofFlight yX5_ofFlight ∈ ev_TB := ev_in (List.mem_of_getElem? (i := 15) (by decide +kernel)) rfl
theorem kX5_rateAs_42 : ev_K mX5_rateAs 42 mX5_ofFlight (some RX5) 2 := ev_kV dX5_rateAs_42 ⟨ev_in (List.mem_of_getElem? (i := 861) (by decide +kernel)) rfl, imX5_ofFlight, seX5_ofFlight, ini_X5, cdX5_ofFlight⟩ ⟨rfl, by decide +kernel, by decide +kernel, by decide +kernel⟩
theorem cdX5_ofClean : ev_code mX5_ofClean ∈ ev_TB := ev_in (List.mem_of_getElem? (i := 869) (by decide +kernel)) rfl
theorem imX5_ofClean : Cond.instanceMethod yX5_ofClean ∈ ev_TB := ev_in (List.mem_of_getElem? (i := 868) (by decide +kernel)) rfl
theorem seX5_ofClean : Cond.selects RX5 yX5_ofClean yX5_ofClean ∈ ev_TB := ev_in (List.mem_of_getElem? (i := 16) (by decide +kernel)) rfl
theorem kX5_rateAs_48 : ev_K mX5_rateAs 48 mX5_ofClean (some RX5) 2 := ev_kV dX5_rateAs_48 ⟨ev_in (List.mem_of_getElem? (i := 866) (by decide +kernel)) rfl, imX5_ofClean, seX5_ofClean, ini_X5, cdX5_ofClean⟩ ⟨rfl, by decide +kernel, by decide +kernel, by decide +kernel⟩
theorem cdX5_ofStiff : ev_code mX5_ofStiff ∈ ev_TB := ev_in (List.mem_of_getElem? (i := 874) (by decide +kernel)) rfl
theorem imX5_ofStiff : Cond.instanceMethod yX5_ofStiff ∈ ev_TB := ev_in (List.mem_of_getElem? (i := 873) (by decide +kernel)) rfl
theorem seX5_ofStiff : Cond.selects RX5 yX5_ofStiff yX5_ofStiff ∈ ev_TB := ev_in (List.mem_of_getElem? (i := 17) (by decide +kernel)) rfl
theorem kX5_rateAs_55 : ev_K mX5_rateAs 55 mX5_ofStiff (some RX5) 3 := ev_kV dX5_rateAs_55 ⟨ev_in (List.mem_of_getElem? (i := 871) (by decide +kernel)) rfl, imX5_ofStiff, seX5_ofStiff, ini_X5, cdX5_ofStiff⟩ ⟨rfl, by decide +kernel, by decide +kernel, by decide +kernel⟩
theorem cdX5_ofWindy : ev_code mX5_ofWindy ∈ ev_TB := ev_in (List.mem_of_getElem? (i := 880) (by decide +kernel)) rfl
theorem imX5_ofWindy : Cond.instanceMethod yX5_ofWindy ∈ ev_TB := ev_in (List.mem_of_getElem? (i := 879) (by decide +kernel)) rfl
theorem seX5_ofWindy : Cond.selects RX5 yX5_ofWindy yX5_ofWindy ∈ ev_TB := ev_in (List.mem_of_getElem? (i := 18) (by decide +kernel)) rfl
theorem kX5_rateAs_61 : ev_K mX5_rateAs 61 mX5_ofWindy (some RX5) 2 := ev_kV dX5_rateAs_61 ⟨ev_in (List.mem_of_getElem? (i := 877) (by decide +kernel)) rfl, imX5_ofWindy, seX5_ofWindy, ini_X5, cdX5_ofWindy⟩ ⟨rfl, by decide +kernel, by decide +kernel, by decide +kernel⟩
theorem cdX5_ofSlapped : ev_code mX5_ofSlapped ∈ ev_TB := ev_in (List.mem_of_getElem? (i := 886) (by decide +kernel)) rfl
theorem imX5_ofSlapped : Cond.instanceMethod yX5_ofSlapped ∈ ev_TB := ev_in (List.mem_of_getElem? (i := 885) (by decide +kernel)) rfl
theorem seX5_ofSlapped : Cond.selects RX5 yX5_ofSlapped yX5_ofSlapped ∈ ev_TB := ev_in (List.mem_of_getElem? (i := 19) (by decide +kernel)) rfl
theorem kX5_rateAs_68 : ev_K mX5_rateAs 68 mX5_ofSlapped (some RX5) 3 := ev_kV dX5_rateAs_68 ⟨ev_in (List.mem_of_getElem? (i := 883) (by decide +kernel)) rfl, imX5_ofSlapped, seX5_ofSlapped, ini_X5, cdX5_ofSlapped⟩ ⟨rfl, by decide +kernel, by decide +kernel, by decide +kernel⟩
theorem cdX5_ofSoft : ev_code mX5_ofSoft ∈ ev_TB := ev_in (List.mem_of_getElem? (i := 891) (by decide +kernel)) rfl
theorem imX5_ofSoft : Cond.instanceMethod yX5_ofSoft ∈ ev_TB := ev_in (List.mem_of_getElem? (i := 890) (by decide +kernel)) rfl
theorem seX5_ofSoft : Cond.selects RX5 yX5_ofSoft yX5_ofSoft ∈ ev_TB := ev_in (List.mem_of_getElem? (i := 20) (by decide +kernel)) rfl
theorem kX5_rateAs_74 : ev_K mX5_rateAs 74 mX5_ofSoft (some RX5) 2 := ev_kV dX5_rateAs_74 ⟨ev_in (List.mem_of_getElem? (i := 888) (by decide +kernel)) rfl, imX5_ofSoft, seX5_ofSoft, ini_X5, cdX5_ofSoft⟩ ⟨rfl, by decide +kernel, by decide +kernel, by decide +kernel⟩
theorem coX5_35 : Cond.constant RX5 35 (-1000000) ∈ ev_TB := ev_in (List.mem_of_getElem? (i := 893) (by decide +kernel)) rfl
theorem flX5_36 : ev_FL RX5 36 5 1 := ⟨(RX5, TX5, 2), rfl, by decide, ev_in (List.mem_of_getElem? (i := 207) (by decide +kernel)) rfl, in_X5, rfl⟩
theorem fpX5_36 : ev_FP RX5 36 5 1 .long false := ⟨(RX5, TX5, 2), tyX5, rfl, by decide, ev_in (List.mem_of_getElem? (i := 207) (by decide +kernel)) rfl, in_X5, rfl, tyX5_ok, nmX5, by decide +kernel, rfl, fun h => by first | rfl | cases h⟩
theorem cdX9_spine : ev_code mX9_spine ∈ ev_TB := ev_in (List.mem_of_getElem? (i := 682) (by decide +kernel)) rfl
theorem imX9_spine : Cond.instanceMethod yX9_spine ∈ ev_TB := ev_in (List.mem_of_getElem? (i := 680) (by decide +kernel)) rfl
theorem seX9_spine : Cond.selects RX9 yX9_spine yX9_spine ∈ ev_TB := ev_in (List.mem_of_getElem? (i := 681) (by decide +kernel)) rfl
theorem kX5_ofFlight_11 : ev_K mX5_ofFlight 11 mX9_spine (some RX9) 1 := ev_kV dX5_ofFlight_11 ⟨ev_in (List.mem_of_getElem? (i := 865) (by decide +kernel)) rfl, imX9_spine, seX9_spine, ini_X9, cdX9_spine⟩ ⟨rfl, by decide +kernel, by decide +kernel, by decide +kernel⟩
theorem coX5_46 : Cond.constantLong RX5 46 (10) ∈ ev_TB := ev_in (List.mem_of_getElem? (i := 870) (by decide +kernel)) rfl
theorem kX5_ofClean_14 : ev_K mX5_ofClean 14 mX5_ofFlight (some RX5) 2 := ev_kV dX5_ofClean_14 ⟨ev_in (List.mem_of_getElem? (i := 861) (by decide +kernel)) rfl, imX5_ofFlight, seX5_ofFlight, ini_X5, cdX5_ofFlight⟩ ⟨rfl, by decide +kernel, by decide +kernel, by decide +kernel⟩
theorem flX5_48 : ev_FL RX5 48 9 1 := ⟨(RX9, TX9, 7), rfl, by decide, ev_in (List.mem_of_getElem? (i := 234) (by decide +kernel)) rfl, in_X9, rfl⟩
theorem coX5_52 : Cond.constantLong RX5 52 (100) ∈ ev_TB := ev_in (List.mem_of_getElem? (i := 875) (by decide +kernel)) rfl
theorem kX5_ofStiff_14 : ev_K mX5_ofStiff 14 mX5_ofFlight (some RX5) 2 := ev_kV dX5_ofStiff_14 ⟨ev_in (List.mem_of_getElem? (i := 861) (by decide +kernel)) rfl, imX5_ofFlight, seX5_ofFlight, ini_X5, cdX5_ofFlight⟩ ⟨rfl, by decide +kernel, by decide +kernel, by decide +kernel⟩
theorem flX5_54 : ev_FL RX5 54 9 5 := ⟨(RX9, TX9, 7), rfl, by decide, ev_in (List.mem_of_getElem? (i := 251) (by decide +kernel)) rfl, in_X9, rfl⟩
theorem kX5_ofStiff_23 : ev_K mX5_ofStiff 23 mX1_dropOf (some RX1) 3 := ev_kV dX5_ofStiff_23 ⟨ev_in (List.mem_of_getElem? (i := 876) (by decide +kernel)) rfl, imX1_dropOf, seX1_dropOf, ini_X1, cdX1_dropOf⟩ ⟨rfl, by decide +kernel, by decide +kernel, by decide +kernel⟩
theorem coX5_63 : Cond.constantLong RX5 63 (1000) ∈ ev_TB := ev_in (List.mem_of_getElem? (i := 881) (by decide +kernel)) rfl
theorem kX5_ofWindy_14 : ev_K mX5_ofWindy 14 mX5_ofClean (some RX5) 2 := ev_kV dX5_ofWindy_14 ⟨ev_in (List.mem_of_getElem? (i := 866) (by decide +kernel)) rfl, imX5_ofClean, seX5_ofClean, ini_X5, cdX5_ofClean⟩ ⟨rfl, by decide +kernel, by decide +kernel, by decide +kernel⟩
theorem flX5_9 : ev_FL RX5 9 5 0 := ⟨(RX5, TX5, 2), rfl, by decide, ev_in (List.mem_of_getElem? (i := 206) (by decide +kernel)) rfl, in_X5, rfl⟩
theorem cdX11_wind : ev_code mX11_wind ∈ ev_TB := ev_in (List.mem_of_getElem? (i := 710) (by decide +kernel)) rfl
theorem imX11_wind : Cond.instanceMethod yX11_wind ∈ ev_TB := ev_in (List.mem_of_getElem? (i := 708) (by decide +kernel)) rfl
theorem seX11_wind : Cond.selects RX11 yX11_wind yX11_wind ∈ ev_TB := ev_in (List.mem_of_getElem? (i := 709) (by decide +kernel)) rfl
theorem kX5_ofWindy_21 : ev_K mX5_ofWindy 21 mX11_wind (some RX11) 1 := ev_kV dX5_ofWindy_21 ⟨ev_in (List.mem_of_getElem? (i := 882) (by decide +kernel)) rfl, imX11_wind, seX11_wind, ini_X11, cdX11_wind⟩ ⟨rfl, by decide +kernel, by decide +kernel, by decide +kernel⟩
theorem coX5_70 : Cond.constantLong RX5 70 (10000) ∈ ev_TB := ev_in (List.mem_of_getElem? (i := 887) (by decide +kernel)) rfl
theorem kX5_ofSlapped_16 : ev_K mX5_ofSlapped 16 mX5_ofStiff (some RX5) 3 := ev_kV dX5_ofSlapped_16 ⟨ev_in (List.mem_of_getElem? (i := 871) (by decide +kernel)) rfl, imX5_ofStiff, seX5_ofStiff, ini_X5, cdX5_ofStiff⟩ ⟨rfl, by decide +kernel, by decide +kernel, by decide +kernel⟩
theorem coX5_72 : Cond.constantLong RX5 72 (100000) ∈ ev_TB := ev_in (List.mem_of_getElem? (i := 892) (by decide +kernel)) rfl
theorem kX5_ofSoft_14 : ev_K mX5_ofSoft 14 mX5_ofFlight (some RX5) 2 := ev_kV dX5_ofSoft_14 ⟨ev_in (List.mem_of_getElem? (i := 861) (by decide +kernel)) rfl, imX5_ofFlight, seX5_ofFlight, ini_X5, cdX5_ofFlight⟩ ⟨rfl, by decide +kernel, by decide +kernel, by decide +kernel⟩
theorem flX5_74 : ev_FL RX5 74 9 4 := ⟨(RX9, TX9, 7), rfl, by decide, ev_in (List.mem_of_getElem? (i := 247) (by decide +kernel)) rfl, in_X9, rfl⟩
theorem obX6_3 : Cond.methodLink RX6 3 objectInit ∈ ev_TB ∧ Cond.instanceMethod objectInit ∈ ev_TB ∧ Cond.code objectInit ⟨#[0xb1]⟩ 1 none ∈ ev_TB := ⟨ev_in (List.mem_of_getElem? (i := 183) (by decide +kernel)) rfl, imOb, cdOb⟩
theorem flX6_9 : ev_FL RX6 9 6 0 := ⟨(RX6, TX6, 5), rfl, by decide, ev_in (List.mem_of_getElem? (i := 184) (by decide +kernel)) rfl, in_X6, rfl⟩
theorem flX6_15 : ev_FL RX6 15 6 1 := ⟨(RX6, TX6, 5), rfl, by decide, ev_in (List.mem_of_getElem? (i := 185) (by decide +kernel)) rfl, in_X6, rfl⟩
theorem flX6_18 : ev_FL RX6 18 6 2 := ⟨(RX6, TX6, 5), rfl, by decide, ev_in (List.mem_of_getElem? (i := 186) (by decide +kernel)) rfl, in_X6, rfl⟩
theorem flX6_21 : ev_FL RX6 21 6 3 := ⟨(RX6, TX6, 5), rfl, by decide, ev_in (List.mem_of_getElem? (i := 187) (by decide +kernel)) rfl, in_X6, rfl⟩
theorem flX6_24 : ev_FL RX6 24 6 4 := ⟨(RX6, TX6, 5), rfl, by decide, ev_in (List.mem_of_getElem? (i := 188) (by decide +kernel)) rfl, in_X6, rfl⟩
theorem cdX9_mostCuts : ev_code mX9_mostCuts ∈ ev_TB := ev_in (List.mem_of_getElem? (i := 607) (by decide +kernel)) rfl
theorem imX9_mostCuts : Cond.instanceMethod yX9_mostCuts ∈ ev_TB := ev_in (List.mem_of_getElem? (i := 605) (by decide +kernel)) rfl
theorem seX9_mostCuts : Cond.selects RX9 yX9_mostCuts yX9_mostCuts ∈ ev_TB := ev_in (List.mem_of_getElem? (i := 606) (by decide +kernel)) rfl
theorem kX6_find_3 : ev_K mX6_find 3 mX9_mostCuts (some RX9) 1 := ev_kV dX6_find_3 ⟨ev_in (List.mem_of_getElem? (i := 637) (by decide +kernel)) rfl, imX9_mostCuts, seX9_mostCuts, ini_X9, cdX9_mostCuts⟩ ⟨rfl, by decide +kernel, by decide +kernel, by decide +kernel⟩
theorem sMath_min : Cond.static Lib.Math.min.name ∈ ev_TB ∧ Cond.initialized "java/lang/Math" ∈ ev_TB ∧ Cond.code Lib.Math.min.name Lib.Math.min.code 2 (some .int) ∈ ev_TB := ⟨ev_in (List.mem_of_getElem? (i := 511) (by decide +kernel)) rfl, iniMath, ev_in (List.mem_of_getElem? (i := 512) (by decide +kernel)) rfl⟩
theorem maX6_33 : Cond.methodLink RX6 33 Lib.Math.min.name ∈ ev_TB ∧ Cond.static Lib.Math.min.name ∈ ev_TB ∧ Cond.initialized "java/lang/Math" ∈ ev_TB ∧ Cond.code Lib.Math.min.name Lib.Math.min.code 2 (some .int) ∈ ev_TB := ⟨ev_in (List.mem_of_getElem? (i := 638) (by decide +kernel)) rfl, sMath_min⟩
theorem cdX9_mostScrapes : ev_code mX9_mostScrapes ∈ ev_TB := ev_in (List.mem_of_getElem? (i := 615) (by decide +kernel)) rfl
theorem imX9_mostScrapes : Cond.instanceMethod yX9_mostScrapes ∈ ev_TB := ev_in (List.mem_of_getElem? (i := 613) (by decide +kernel)) rfl
theorem seX9_mostScrapes : Cond.selects RX9 yX9_mostScrapes yX9_mostScrapes ∈ ev_TB := ev_in (List.mem_of_getElem? (i := 614) (by decide +kernel)) rfl
theorem kX6_find_14 : ev_K mX6_find 14 mX9_mostScrapes (some RX9) 1 := ev_kV dX6_find_14 ⟨ev_in (List.mem_of_getElem? (i := 639) (by decide +kernel)) rfl, imX9_mostScrapes, seX9_mostScrapes, ini_X9, cdX9_mostScrapes⟩ ⟨rfl, by decide +kernel, by decide +kernel, by decide +kernel⟩
theorem cdX9_mostLoads : ev_code mX9_mostLoads ∈ ev_TB := ev_in (List.mem_of_getElem? (i := 624) (by decide +kernel)) rfl
theorem imX9_mostLoads : Cond.instanceMethod yX9_mostLoads ∈ ev_TB := ev_in (List.mem_of_getElem? (i := 622) (by decide +kernel)) rfl
theorem seX9_mostLoads : Cond.selects RX9 yX9_mostLoads yX9_mostLoads ∈ ev_TB := ev_in (List.mem_of_getElem? (i := 623) (by decide +kernel)) rfl
theorem kX6_find_25 : ev_K mX6_find 25 mX9_mostLoads (some RX9) 1 := ev_kV dX6_find_25 ⟨ev_in (List.mem_of_getElem? (i := 640) (by decide +kernel)) rfl, imX9_mostLoads, seX9_mostLoads, ini_X9, cdX9_mostLoads⟩ ⟨rfl, by decide +kernel, by decide +kernel, by decide +kernel⟩
theorem fpX6_9 : ev_FP RX6 9 6 0 .int false := ⟨(RX6, TX6, 5), tyX6, rfl, by decide, ev_in (List.mem_of_getElem? (i := 184) (by decide +kernel)) rfl, in_X6, rfl, tyX6_ok, nmX6, by decide +kernel, rfl, fun h => by first | rfl | cases h⟩
theorem flX6_45 : ev_FL RX6 45 9 6 := ⟨(RX9, TX9, 7), rfl, by decide, ev_in (List.mem_of_getElem? (i := 255) (by decide +kernel)) rfl, in_X9, rfl⟩
theorem cdX9_stiffBy : ev_code mX9_stiffBy ∈ ev_TB := ev_in (List.mem_of_getElem? (i := 644) (by decide +kernel)) rfl
theorem imX9_stiffBy : Cond.instanceMethod yX9_stiffBy ∈ ev_TB := ev_in (List.mem_of_getElem? (i := 642) (by decide +kernel)) rfl
theorem seX9_stiffBy : Cond.selects RX9 yX9_stiffBy yX9_stiffBy ∈ ev_TB := ev_in (List.mem_of_getElem? (i := 643) (by decide +kernel)) rfl
theorem kX6_find_67 : ev_K mX6_find 67 mX9_stiffBy (some RX9) 2 := ev_kV dX6_find_67 ⟨ev_in (List.mem_of_getElem? (i := 641) (by decide +kernel)) rfl, imX9_stiffBy, seX9_stiffBy, ini_X9, cdX9_stiffBy⟩ ⟨rfl, by decide +kernel, by decide +kernel, by decide +kernel⟩
theorem cdX6_isFewer : ev_code mX6_isFewer ∈ ev_TB := ev_in (List.mem_of_getElem? (i := 648) (by decide +kernel)) rfl
theorem ini_X6 : Cond.initialized RX6 ∈ ev_TB := ev_in (List.mem_of_getElem? (i := 49) (by decide +kernel)) rfl
theorem imX6_isFewer : Cond.instanceMethod yX6_isFewer ∈ ev_TB := ev_in (List.mem_of_getElem? (i := 647) (by decide +kernel)) rfl
theorem seX6_isFewer : Cond.selects RX6 yX6_isFewer yX6_isFewer ∈ ev_TB := ev_in (List.mem_of_getElem? (i := 9) (by decide +kernel)) rfl
theorem kX6_find_114 : ev_K mX6_find 114 mX6_isFewer (some RX6) 2 := ev_kV dX6_find_114 ⟨ev_in (List.mem_of_getElem? (i := 645) (by decide +kernel)) rfl, imX6_isFewer, seX6_isFewer, ini_X6, cdX6_isFewer⟩ ⟨rfl, by decide +kernel, by decide +kernel, by decide +kernel⟩
theorem flX6_56 : ev_FL RX6 56 9 0 := ⟨(RX9, TX9, 7), rfl, by decide, ev_in (List.mem_of_getElem? (i := 230) (by decide +kernel)) rfl, in_X9, rfl⟩
theorem flX6_59 : ev_FL RX6 59 9 4 := ⟨(RX9, TX9, 7), rfl, by decide, ev_in (List.mem_of_getElem? (i := 244) (by decide +kernel)) rfl, in_X9, rfl⟩
theorem cdX12_spineOf : ev_code mX12_spineOf ∈ ev_TB := ev_in (List.mem_of_getElem? (i := 651) (by decide +kernel)) rfl
theorem smX12_spineOf : Cond.static yX12_spineOf ∈ ev_TB := ev_in (List.mem_of_getElem? (i := 650) (by decide +kernel)) rfl
theorem kX6_find_141 : ev_K mX6_find 141 mX12_spineOf none 3 := ev_kSN (host := "AlikeArrows") dX6_find_141 (List.mem_filter.mpr ⟨List.mem_of_getElem? (i := 649) (by decide +kernel), rfl⟩) ⟨smX12_spineOf, ini_X12, cdX12_spineOf⟩ ⟨by decide +kernel, by decide +kernel, by decide +kernel⟩
theorem kX6_find_149 : ev_K mX6_find 149 mX9_mass (some RX9) 1 := ev_kV dX6_find_149 ⟨ev_in (List.mem_of_getElem? (i := 655) (by decide +kernel)) rfl, imX9_mass, seX9_mass, ini_X9, cdX9_mass⟩ ⟨rfl, by decide +kernel, by decide +kernel, by decide +kernel⟩
theorem cdX11_isClean : ev_code mX11_isClean ∈ ev_TB := ev_in (List.mem_of_getElem? (i := 662) (by decide +kernel)) rfl
theorem imX11_isClean : Cond.instanceMethod yX11_isClean ∈ ev_TB := ev_in (List.mem_of_getElem? (i := 660) (by decide +kernel)) rfl
theorem seX11_isClean : Cond.selects RX11 yX11_isClean yX11_isClean ∈ ev_TB := ev_in (List.mem_of_getElem? (i := 661) (by decide +kernel)) rfl
theorem kX6_find_167 : ev_K mX6_find 167 mX11_isClean (some RX11) 2 := ev_kV dX6_find_167 ⟨ev_in (List.mem_of_getElem? (i := 659) (by decide +kernel)) rfl, imX11_isClean, seX11_isClean, ini_X11, cdX11_isClean⟩ ⟨rfl, by decide +kernel, by decide +kernel, by decide +kernel⟩
theorem kX6_find_179 : ev_K mX6_find 179 mX12_within none 3 := ev_kSN (host := "AlikeArrows") dX6_find_179 (List.mem_filter.mpr ⟨List.mem_of_getElem? (i := 666) (by decide +kernel), rfl⟩) ⟨smX12_within, ini_X12, cdX12_within⟩ ⟨by decide +kernel, by decide +kernel, by decide +kernel⟩
theorem cdX6_note : ev_code mX6_note ∈ ev_TB := ev_in (List.mem_of_getElem? (i := 670) (by decide +kernel)) rfl
theorem imX6_note : Cond.instanceMethod yX6_note ∈ ev_TB := ev_in (List.mem_of_getElem? (i := 669) (by decide +kernel)) rfl
theorem seX6_note : Cond.selects RX6 yX6_note yX6_note ∈ ev_TB := ev_in (List.mem_of_getElem? (i := 10) (by decide +kernel)) rfl
theorem kX6_find_194 : ev_K mX6_find 194 mX6_note (some RX6) 5 := ev_kV dX6_find_194 ⟨ev_in (List.mem_of_getElem? (i := 667) (by decide +kernel)) rfl, imX6_note, seX6_note, ini_X6, cdX6_note⟩ ⟨rfl, by decide +kernel, by decide +kernel, by decide +kernel⟩
theorem fpX6_24 : ev_FP RX6 24 6 4 .int false := ⟨(RX6, TX6, 5), tyX6, rfl, by decide, ev_in (List.mem_of_getElem? (i := 188) (by decide +kernel)) rfl, in_X6, rfl, tyX6_ok, nmX6, by decide +kernel, rfl, fun h => by first | rfl | cases h⟩
theorem fpX6_15 : ev_FP RX6 15 6 1 .int false := ⟨(RX6, TX6, 5), tyX6, rfl, by decide, ev_in (List.mem_of_getElem? (i := 185) (by decide +kernel)) rfl, in_X6, rfl, tyX6_ok, nmX6, by decide +kernel, rfl, fun h => by first | rfl | cases h⟩
theorem fpX6_18 : ev_FP RX6 18 6 2 .int false := ⟨(RX6, TX6, 5), tyX6, rfl, by decide, ev_in (List.mem_of_getElem? (i := 186) (by decide +kernel)) rfl, in_X6, rfl, tyX6_ok, nmX6, by decide +kernel, rfl, fun h => by first | rfl | cases h⟩
theorem fpX6_21 : ev_FP RX6 21 6 3 .int false := ⟨(RX6, TX6, 5), tyX6, rfl, by decide, ev_in (List.mem_of_getElem? (i := 187) (by decide +kernel)) rfl, in_X6, rfl, tyX6_ok, nmX6, by decide +kernel, rfl, fun h => by first | rfl | cases h⟩
theorem obX7_3 : Cond.methodLink RX7 3 objectInit ∈ ev_TB ∧ Cond.instanceMethod objectInit ∈ ev_TB ∧ Cond.code objectInit ⟨#[0xb1]⟩ 1 none ∈ ev_TB := ⟨ev_in (List.mem_of_getElem? (i := 92) (by decide +kernel)) rfl, imOb, cdOb⟩
theorem fpX7_9 : ev_FP RX7 9 7 1 (.array .int) true := ⟨(RX7, TX7, 3), tyX7, rfl, by decide, ev_in (List.mem_of_getElem? (i := 94) (by decide +kernel)) rfl, in_X7, rfl, tyX7_ok, nmX7, by decide +kernel, rfl, fun h => by first | rfl | cases h⟩
theorem fpX7_15 : ev_FP RX7 15 7 0 (.object RX10) true := ⟨(RX7, TX7, 3), tyX7, rfl, by decide, ev_in (List.mem_of_getElem? (i := 93) (by decide +kernel)) rfl, in_X7, rfl, tyX7_ok, nmX7, by decide +kernel, rfl, fun h => by first | rfl | cases h⟩
theorem cdX3_empty : ev_code mX3_empty ∈ ev_TB := ev_in (List.mem_of_getElem? (i := 427) (by decide +kernel)) rfl
theorem ini_X3 : Cond.initialized RX3 ∈ ev_TB := ev_in (List.mem_of_getElem? (i := 53) (by decide +kernel)) rfl
theorem imX3_empty : Cond.instanceMethod yX3_empty ∈ ev_TB := ev_in (List.mem_of_getElem? (i := 425) (by decide +kernel)) rfl
theorem seX3_empty : Cond.selects RX3 yX3_empty yX3_empty ∈ ev_TB := ev_in (List.mem_of_getElem? (i := 426) (by decide +kernel)) rfl
theorem kX7_readAll_1 : ev_K mX7_readAll 1 mX3_empty (some RX3) 1 := ev_kV dX7_readAll_1 ⟨ev_in (List.mem_of_getElem? (i := 424) (by decide +kernel)) rfl, imX3_empty, seX3_empty, ini_X3, cdX3_empty⟩ ⟨rfl, by decide +kernel, by decide +kernel, by decide +kernel⟩
theorem fpX7_24 : ev_FP RX7 24 7 2 .int false := ⟨(RX7, TX7, 3), tyX7, rfl, by decide, ev_in (List.mem_of_getElem? (i := 95) (by decide +kernel)) rfl, in_X7, rfl, tyX7_ok, nmX7, by decide +kernel, rfl, fun h => by first | rfl | cases h⟩
theorem cdX7_skipBlanks : ev_code mX7_skipBlanks ∈ ev_TB := ev_in (List.mem_of_getElem? (i := 431) (by decide +kernel)) rfl
theorem ini_X7 : Cond.initialized RX7 ∈ ev_TB := ev_in (List.mem_of_getElem? (i := 45) (by decide +kernel)) rfl
theorem imX7_skipBlanks : Cond.instanceMethod yX7_skipBlanks ∈ ev_TB := ev_in (List.mem_of_getElem? (i := 430) (by decide +kernel)) rfl
theorem seX7_skipBlanks : Cond.selects RX7 yX7_skipBlanks yX7_skipBlanks ∈ ev_TB := ev_in (List.mem_of_getElem? (i := 0) (by decide +kernel)) rfl
theorem kX7_readAll_12 : ev_K mX7_readAll 12 mX7_skipBlanks (some RX7) 1 := ev_kV dX7_readAll_12 ⟨ev_in (List.mem_of_getElem? (i := 428) (by decide +kernel)) rfl, imX7_skipBlanks, seX7_skipBlanks, ini_X7, cdX7_skipBlanks⟩ ⟨rfl, by decide +kernel, by decide +kernel, by decide +kernel⟩
theorem flX7_24 : ev_FL RX7 24 7 2 := ⟨(RX7, TX7, 3), rfl, by decide, ev_in (List.mem_of_getElem? (i := 95) (by decide +kernel)) rfl, in_X7, rfl⟩
theorem flX7_15 : ev_FL RX7 15 7 0 := ⟨(RX7, TX7, 3), rfl, by decide, ev_in (List.mem_of_getElem? (i := 93) (by decide +kernel)) rfl, in_X7, rfl⟩
theorem flX7_31 : ev_FL RX7 31 10 1 := ⟨(RX10, TX10, 2), rfl, by decide, ev_in (List.mem_of_getElem? (i := 80) (by decide +kernel)) rfl, in_X10, rfl⟩
theorem cdX7_readItem : ev_code mX7_readItem ∈ ev_TB := ev_in (List.mem_of_getElem? (i := 439) (by decide +kernel)) rfl
theorem imX7_readItem : Cond.instanceMethod yX7_readItem ∈ ev_TB := ev_in (List.mem_of_getElem? (i := 438) (by decide +kernel)) rfl
theorem seX7_readItem : Cond.selects RX7 yX7_readItem yX7_readItem ∈ ev_TB := ev_in (List.mem_of_getElem? (i := 1) (by decide +kernel)) rfl
theorem kX7_readAll_38 : ev_K mX7_readAll 38 mX7_readItem (some RX7) 2 := ev_kV dX7_readAll_38 ⟨ev_in (List.mem_of_getElem? (i := 436) (by decide +kernel)) rfl, imX7_readItem, seX7_readItem, ini_X7, cdX7_readItem⟩ ⟨rfl, by decide +kernel, by decide +kernel, by decide +kernel⟩
theorem kX7_readAll_56 : ev_K mX7_readAll 56 mX7_skipBlanks (some RX7) 1 := ev_kV dX7_readAll_56 ⟨ev_in (List.mem_of_getElem? (i := 428) (by decide +kernel)) rfl, imX7_skipBlanks, seX7_skipBlanks, ini_X7, cdX7_skipBlanks⟩ ⟨rfl, by decide +kernel, by decide +kernel, by decide +kernel⟩
theorem flX7_40 : ev_FL RX7 40 3 3 := ⟨(RX3, TX3, 6), rfl, by decide, ev_in (List.mem_of_getElem? (i := 339) (by decide +kernel)) rfl, in_X3, rfl⟩
theorem cdX7_takeWord : ev_code mX7_takeWord ∈ ev_TB := ev_in (List.mem_of_getElem? (i := 444) (by decide +kernel)) rfl
theorem imX7_takeWord : Cond.instanceMethod yX7_takeWord ∈ ev_TB := ev_in (List.mem_of_getElem? (i := 443) (by decide +kernel)) rfl
theorem seX7_takeWord : Cond.selects RX7 yX7_takeWord yX7_takeWord ∈ ev_TB := ev_in (List.mem_of_getElem? (i := 2) (by decide +kernel)) rfl
theorem kX7_readItem_12 : ev_K mX7_readItem 12 mX7_takeWord (some RX7) 2 := ev_kV dX7_readItem_12 ⟨ev_in (List.mem_of_getElem? (i := 441) (by decide +kernel)) rfl, imX7_takeWord, seX7_takeWord, ini_X7, cdX7_takeWord⟩ ⟨rfl, by decide +kernel, by decide +kernel, by decide +kernel⟩
theorem cdX7_readStick : ev_code mX7_readStick ∈ ev_TB := ev_in (List.mem_of_getElem? (i := 497) (by decide +kernel)) rfl
theorem imX7_readStick : Cond.instanceMethod yX7_readStick ∈ ev_TB := ev_in (List.mem_of_getElem? (i := 496) (by decide +kernel)) rfl
theorem seX7_readStick : Cond.selects RX7 yX7_readStick yX7_readStick ∈ ev_TB := ev_in (List.mem_of_getElem? (i := 3) (by decide +kernel)) rfl
theorem kX7_readItem_20 : ev_K mX7_readItem 20 mX7_readStick (some RX7) 2 := ev_kV dX7_readItem_20 ⟨ev_in (List.mem_of_getElem? (i := 494) (by decide +kernel)) rfl, imX7_readStick, seX7_readStick, ini_X7, cdX7_readStick⟩ ⟨rfl, by decide +kernel, by decide +kernel, by decide +kernel⟩
theorem flX7_52 : ev_FL RX7 52 3 4 := ⟨(RX3, TX3, 6), rfl, by decide, ev_in (List.mem_of_getElem? (i := 342) (by decide +kernel)) rfl, in_X3, rfl⟩
theorem kX7_readItem_35 : ev_K mX7_readItem 35 mX7_takeWord (some RX7) 2 := ev_kV dX7_readItem_35 ⟨ev_in (List.mem_of_getElem? (i := 441) (by decide +kernel)) rfl, imX7_takeWord, seX7_takeWord, ini_X7, cdX7_takeWord⟩ ⟨rfl, by decide +kernel, by decide +kernel, by decide +kernel⟩
theorem cdX7_readBow : ev_code mX7_readBow ∈ ev_TB := ev_in (List.mem_of_getElem? (i := 525) (by decide +kernel)) rfl
theorem imX7_readBow : Cond.instanceMethod yX7_readBow ∈ ev_TB := ev_in (List.mem_of_getElem? (i := 524) (by decide +kernel)) rfl
theorem seX7_readBow : Cond.selects RX7 yX7_readBow yX7_readBow ∈ ev_TB := ev_in (List.mem_of_getElem? (i := 7) (by decide +kernel)) rfl
theorem kX7_readItem_43 : ev_K mX7_readItem 43 mX7_readBow (some RX7) 2 := ev_kV dX7_readItem_43 ⟨ev_in (List.mem_of_getElem? (i := 522) (by decide +kernel)) rfl, imX7_readBow, seX7_readBow, ini_X7, cdX7_readBow⟩ ⟨rfl, by decide +kernel, by decide +kernel, by decide +kernel⟩
theorem flX7_60 : ev_FL RX7 60 3 5 := ⟨(RX3, TX3, 6), rfl, by decide, ev_in (List.mem_of_getElem? (i := 345) (by decide +kernel)) rfl, in_X3, rfl⟩
theorem kX7_readItem_58 : ev_K mX7_readItem 58 mX7_takeWord (some RX7) 2 := ev_kV dX7_readItem_58 ⟨ev_in (List.mem_of_getElem? (i := 441) (by decide +kernel)) rfl, imX7_takeWord, seX7_takeWord, ini_X7, cdX7_takeWord⟩ ⟨rfl, by decide +kernel, by decide +kernel, by decide +kernel⟩
theorem cdX7_readArcher : ev_code mX7_readArcher ∈ ev_TB := ev_in (List.mem_of_getElem? (i := 538) (by decide +kernel)) rfl
theorem imX7_readArcher : Cond.instanceMethod yX7_readArcher ∈ ev_TB := ev_in (List.mem_of_getElem? (i := 537) (by decide +kernel)) rfl
theorem seX7_readArcher : Cond.selects RX7 yX7_readArcher yX7_readArcher ∈ ev_TB := ev_in (List.mem_of_getElem? (i := 8) (by decide +kernel)) rfl
theorem kX7_readItem_66 : ev_K mX7_readItem 66 mX7_readArcher (some RX7) 2 := ev_kV dX7_readItem_66 ⟨ev_in (List.mem_of_getElem? (i := 535) (by decide +kernel)) rfl, imX7_readArcher, seX7_readArcher, ini_X7, cdX7_readArcher⟩ ⟨rfl, by decide +kernel, by decide +kernel, by decide +kernel⟩
theorem fwX7_68 : Cond.fieldLink RX7 68 "AlikeArrows$Reader" "STICK_LEASTS" "[I" ∈ ev_TB := ev_in (List.mem_of_getElem? (i := 498) (by decide +kernel)) rfl
theorem fwX7_71 : Cond.fieldLink RX7 71 "AlikeArrows$Reader" "STICK_MOSTS" "[I" ∈ ev_TB := ev_in (List.mem_of_getElem? (i := 500) (by decide +kernel)) rfl
theorem cdX7_takeNumbers : ev_code mX7_takeNumbers ∈ ev_TB := ev_in (List.mem_of_getElem? (i := 505) (by decide +kernel)) rfl
theorem imX7_takeNumbers : Cond.instanceMethod yX7_takeNumbers ∈ ev_TB := ev_in (List.mem_of_getElem? (i := 504) (by decide +kernel)) rfl
theorem seX7_takeNumbers : Cond.selects RX7 yX7_takeNumbers yX7_takeNumbers ∈ ev_TB := ev_in (List.mem_of_getElem? (i := 4) (by decide +kernel)) rfl
theorem kX7_readStick_7 : ev_K mX7_readStick 7 mX7_takeNumbers (some RX7) 3 := ev_kV dX7_readStick_7 ⟨ev_in (List.mem_of_getElem? (i := 502) (by decide +kernel)) rfl, imX7_takeNumbers, seX7_takeNumbers, ini_X7, cdX7_takeNumbers⟩ ⟨rfl, by decide +kernel, by decide +kernel, by decide +kernel⟩
theorem cdX7_takeEnd : ev_code mX7_takeEnd ∈ ev_TB := ev_in (List.mem_of_getElem? (i := 516) (by decide +kernel)) rfl
theorem imX7_takeEnd : Cond.instanceMethod yX7_takeEnd ∈ ev_TB := ev_in (List.mem_of_getElem? (i := 515) (by decide +kernel)) rfl
theorem seX7_takeEnd : Cond.selects RX7 yX7_takeEnd yX7_takeEnd ∈ ev_TB := ev_in (List.mem_of_getElem? (i := 6) (by decide +kernel)) rfl
theorem kX7_readStick_14 : ev_K mX7_readStick 14 mX7_takeEnd (some RX7) 1 := ev_kV dX7_readStick_14 ⟨ev_in (List.mem_of_getElem? (i := 513) (by decide +kernel)) rfl, imX7_takeEnd, seX7_takeEnd, ini_X7, cdX7_takeEnd⟩ ⟨rfl, by decide +kernel, by decide +kernel, by decide +kernel⟩
theorem cdX3_addStick : ev_code mX3_addStick ∈ ev_TB := ev_in (List.mem_of_getElem? (i := 520) (by decide +kernel)) rfl
theorem imX3_addStick : Cond.instanceMethod yX3_addStick ∈ ev_TB := ev_in (List.mem_of_getElem? (i := 518) (by decide +kernel)) rfl
theorem seX3_addStick : Cond.selects RX3 yX3_addStick yX3_addStick ∈ ev_TB := ev_in (List.mem_of_getElem? (i := 519) (by decide +kernel)) rfl
theorem kX7_readStick_23 : ev_K mX7_readStick 23 mX3_addStick (some RX3) 1 := ev_kV dX7_readStick_23 ⟨ev_in (List.mem_of_getElem? (i := 517) (by decide +kernel)) rfl, imX3_addStick, seX3_addStick, ini_X3, cdX3_addStick⟩ ⟨rfl, by decide +kernel, by decide +kernel, by decide +kernel⟩
theorem flX7_9 : ev_FL RX7 9 7 1 := ⟨(RX7, TX7, 3), rfl, by decide, ev_in (List.mem_of_getElem? (i := 94) (by decide +kernel)) rfl, in_X7, rfl⟩
theorem fpX7_86 : ev_FP RX7 86 9 0 .int false := ⟨(RX9, TX9, 7), tyX9, rfl, by decide, ev_in (List.mem_of_getElem? (i := 231) (by decide +kernel)) rfl, in_X9, rfl, tyX9_ok, nmX9, by decide +kernel, rfl, fun h => by first | rfl | cases h⟩
theorem fpX7_91 : ev_FP RX7 91 9 1 .int false := ⟨(RX9, TX9, 7), tyX9, rfl, by decide, ev_in (List.mem_of_getElem? (i := 235) (by decide +kernel)) rfl, in_X9, rfl, tyX9_ok, nmX9, by decide +kernel, rfl, fun h => by first | rfl | cases h⟩
theorem fpX7_94 : ev_FP RX7 94 9 2 .int false := ⟨(RX9, TX9, 7), tyX9, rfl, by decide, ev_in (List.mem_of_getElem? (i := 238) (by decide +kernel)) rfl, in_X9, rfl, tyX9_ok, nmX9, by decide +kernel, rfl, fun h => by first | rfl | cases h⟩
theorem fpX7_97 : ev_FP RX7 97 9 3 .int false := ⟨(RX9, TX9, 7), tyX9, rfl, by decide, ev_in (List.mem_of_getElem? (i := 241) (by decide +kernel)) rfl, in_X9, rfl, tyX9_ok, nmX9, by decide +kernel, rfl, fun h => by first | rfl | cases h⟩
theorem fpX7_100 : ev_FP RX7 100 9 4 .int false := ⟨(RX9, TX9, 7), tyX9, rfl, by decide, ev_in (List.mem_of_getElem? (i := 245) (by decide +kernel)) rfl, in_X9, rfl, tyX9_ok, nmX9, by decide +kernel, rfl, fun h => by first | rfl | cases h⟩
theorem fpX7_103 : ev_FP RX7 103 9 5 .int false := ⟨(RX9, TX9, 7), tyX9, rfl, by decide, ev_in (List.mem_of_getElem? (i := 250) (by decide +kernel)) rfl, in_X9, rfl, tyX9_ok, nmX9, by decide +kernel, rfl, fun h => by first | rfl | cases h⟩
theorem fpX7_106 : ev_FP RX7 106 9 6 .int false := ⟨(RX9, TX9, 7), tyX9, rfl, by decide, ev_in (List.mem_of_getElem? (i := 256) (by decide +kernel)) rfl, in_X9, rfl, tyX9_ok, nmX9, by decide +kernel, rfl, fun h => by first | rfl | cases h⟩
theorem fwX7_109 : Cond.fieldLink RX7 109 "AlikeArrows$Reader" "BOW_LEASTS" "[I" ∈ ev_TB := ev_in (List.mem_of_getElem? (i := 526) (by decide +kernel)) rfl
theorem fwX7_112 : Cond.fieldLink RX7 112 "AlikeArrows$Reader" "BOW_MOSTS" "[I" ∈ ev_TB := ev_in (List.mem_of_getElem? (i := 528) (by decide +kernel)) rfl
theorem kX7_readBow_7 : ev_K mX7_readBow 7 mX7_takeNumbers (some RX7) 3 := ev_kV dX7_readBow_7 ⟨ev_in (List.mem_of_getElem? (i := 502) (by decide +kernel)) rfl, imX7_takeNumbers, seX7_takeNumbers, ini_X7, cdX7_takeNumbers⟩ ⟨rfl, by decide +kernel, by decide +kernel, by decide +kernel⟩
theorem kX7_readBow_14 : ev_K mX7_readBow 14 mX7_takeEnd (some RX7) 1 := ev_kV dX7_readBow_14 ⟨ev_in (List.mem_of_getElem? (i := 513) (by decide +kernel)) rfl, imX7_takeEnd, seX7_takeEnd, ini_X7, cdX7_takeEnd⟩ ⟨rfl, by decide +kernel, by decide +kernel, by decide +kernel⟩
theorem cdX3_addBow : ev_code mX3_addBow ∈ ev_TB := ev_in (List.mem_of_getElem? (i := 533) (by decide +kernel)) rfl
theorem imX3_addBow : Cond.instanceMethod yX3_addBow ∈ ev_TB := ev_in (List.mem_of_getElem? (i := 531) (by decide +kernel)) rfl
theorem seX3_addBow : Cond.selects RX3 yX3_addBow yX3_addBow ∈ ev_TB := ev_in (List.mem_of_getElem? (i := 532) (by decide +kernel)) rfl
theorem kX7_readBow_23 : ev_K mX7_readBow 23 mX3_addBow (some RX3) 1 := ev_kV dX7_readBow_23 ⟨ev_in (List.mem_of_getElem? (i := 530) (by decide +kernel)) rfl, imX3_addBow, seX3_addBow, ini_X3, cdX3_addBow⟩ ⟨rfl, by decide +kernel, by decide +kernel, by decide +kernel⟩
theorem fpX7_119 : ev_FP RX7 119 1 0 .int false := ⟨(RX1, TX1, 2), tyX1, rfl, by decide, ev_in (List.mem_of_getElem? (i := 306) (by decide +kernel)) rfl, in_X1, rfl, tyX1_ok, nmX1, by decide +kernel, rfl, fun h => by first | rfl | cases h⟩
theorem fpX7_124 : ev_FP RX7 124 1 1 .int false := ⟨(RX1, TX1, 2), tyX1, rfl, by decide, ev_in (List.mem_of_getElem? (i := 309) (by decide +kernel)) rfl, in_X1, rfl, tyX1_ok, nmX1, by decide +kernel, rfl, fun h => by first | rfl | cases h⟩
theorem kX7_readArcher_3 : ev_K mX7_readArcher 3 mX7_takeWord (some RX7) 2 := ev_kV dX7_readArcher_3 ⟨ev_in (List.mem_of_getElem? (i := 441) (by decide +kernel)) rfl, imX7_takeWord, seX7_takeWord, ini_X7, cdX7_takeWord⟩ ⟨rfl, by decide +kernel, by decide +kernel, by decide +kernel⟩
theorem kX7_readArcher_14 : ev_K mX7_readArcher 14 mX7_takeWord (some RX7) 2 := ev_kV dX7_readArcher_14 ⟨ev_in (List.mem_of_getElem? (i := 441) (by decide +kernel)) rfl, imX7_takeWord, seX7_takeWord, ini_X7, cdX7_takeWord⟩ ⟨rfl, by decide +kernel, by decide +kernel, by decide +kernel⟩
theorem fwX7_131 : Cond.fieldLink RX7 131 "AlikeArrows$Reader" "ARCHER_LEASTS" "[I" ∈ ev_TB := ev_in (List.mem_of_getElem? (i := 541) (by decide +kernel)) rfl
theorem fwX7_134 : Cond.fieldLink RX7 134 "AlikeArrows$Reader" "ARCHER_MOSTS" "[I" ∈ ev_TB := ev_in (List.mem_of_getElem? (i := 543) (by decide +kernel)) rfl
theorem kX7_readArcher_29 : ev_K mX7_readArcher 29 mX7_takeNumbers (some RX7) 3 := ev_kV dX7_readArcher_29 ⟨ev_in (List.mem_of_getElem? (i := 502) (by decide +kernel)) rfl, imX7_takeNumbers, seX7_takeNumbers, ini_X7, cdX7_takeNumbers⟩ ⟨rfl, by decide +kernel, by decide +kernel, by decide +kernel⟩
theorem kX7_readArcher_36 : ev_K mX7_readArcher 36 mX7_takeEnd (some RX7) 1 := ev_kV dX7_readArcher_36 ⟨ev_in (List.mem_of_getElem? (i := 513) (by decide +kernel)) rfl, imX7_takeEnd, seX7_takeEnd, ini_X7, cdX7_takeEnd⟩ ⟨rfl, by decide +kernel, by decide +kernel, by decide +kernel⟩
theorem cdX3_addArcher : ev_code mX3_addArcher ∈ ev_TB := ev_in (List.mem_of_getElem? (i := 548) (by decide +kernel)) rfl
theorem imX3_addArcher : Cond.instanceMethod yX3_addArcher ∈ ev_TB := ev_in (List.mem_of_getElem? (i := 546) (by decide +kernel)) rfl
theorem seX3_addArcher : Cond.selects RX3 yX3_addArcher yX3_addArcher ∈ ev_TB := ev_in (List.mem_of_getElem? (i := 547) (by decide +kernel)) rfl
theorem kX7_readArcher_45 : ev_K mX7_readArcher 45 mX3_addArcher (some RX3) 1 := ev_kV dX7_readArcher_45 ⟨ev_in (List.mem_of_getElem? (i := 545) (by decide +kernel)) rfl, imX3_addArcher, seX3_addArcher, ini_X3, cdX3_addArcher⟩ ⟨rfl, by decide +kernel, by decide +kernel, by decide +kernel⟩
theorem fpX7_141 : ev_FP RX7 141 0 0 .int false := ⟨(RX0, TX0, 2), tyX0, rfl, by decide, ev_in (List.mem_of_getElem? (i := 321) (by decide +kernel)) rfl, in_X0, rfl, tyX0_ok, nmX0, by decide +kernel, rfl, fun h => by first | rfl | cases h⟩
theorem fpX7_146 : ev_FP RX7 146 0 1 .int false := ⟨(RX0, TX0, 2), tyX0, rfl, by decide, ev_in (List.mem_of_getElem? (i := 323) (by decide +kernel)) rfl, in_X0, rfl, tyX0_ok, nmX0, by decide +kernel, rfl, fun h => by first | rfl | cases h⟩
theorem cdX10_at : ev_code mX10_at ∈ ev_TB := ev_in (List.mem_of_getElem? (i := 435) (by decide +kernel)) rfl
theorem ini_X10 : Cond.initialized RX10 ∈ ev_TB := ev_in (List.mem_of_getElem? (i := 44) (by decide +kernel)) rfl
theorem imX10_at : Cond.instanceMethod yX10_at ∈ ev_TB := ev_in (List.mem_of_getElem? (i := 433) (by decide +kernel)) rfl
theorem seX10_at : Cond.selects RX10 yX10_at yX10_at ∈ ev_TB := ev_in (List.mem_of_getElem? (i := 434) (by decide +kernel)) rfl
theorem kX7_skipBlanks_22 : ev_K mX7_skipBlanks 22 mX10_at (some RX10) 2 := ev_kV dX7_skipBlanks_22 ⟨ev_in (List.mem_of_getElem? (i := 432) (by decide +kernel)) rfl, imX10_at, seX10_at, ini_X10, cdX10_at⟩ ⟨rfl, by decide +kernel, by decide +kernel, by decide +kernel⟩
theorem kX7_takeWord_1 : ev_K mX7_takeWord 1 mX7_skipBlanks (some RX7) 1 := ev_kV dX7_takeWord_1 ⟨ev_in (List.mem_of_getElem? (i := 428) (by decide +kernel)) rfl, imX7_skipBlanks, seX7_skipBlanks, ini_X7, cdX7_skipBlanks⟩ ⟨rfl, by decide +kernel, by decide +kernel, by decide +kernel⟩
theorem cdJ0_length_8abf5 : ev_code mJ0_length_8abf5 ∈ ev_TB := ev_in (List.mem_of_getElem? (i := 448) (by decide +kernel)) rfl
theorem ini_J0 : Cond.initialized RJ0 ∈ ev_TB := ev_in (List.mem_of_getElem? (i := 57) (by decide +kernel)) rfl
theorem imJ0_length_8abf5 : Cond.instanceMethod yJ0_length_8abf5 ∈ ev_TB := ev_in (List.mem_of_getElem? (i := 446) (by decide +kernel)) rfl
theorem seJ0_length_8abf5 : Cond.selects RJ0 yJ0_length_8abf5 yJ0_length_8abf5 ∈ ev_TB := ev_in (List.mem_of_getElem? (i := 447) (by decide +kernel)) rfl
theorem kX7_takeWord_5 : ev_K mX7_takeWord 5 mJ0_length_8abf5 (some RJ0) 1 := ev_kV dX7_takeWord_5 ⟨ev_in (List.mem_of_getElem? (i := 445) (by decide +kernel)) rfl, imJ0_length_8abf5, seJ0_length_8abf5, ini_J0, cdJ0_length_8abf5⟩ ⟨rfl, by decide +kernel, by decide +kernel, by decide +kernel⟩
theorem kX7_takeWord_26 : ev_K mX7_takeWord 26 mX10_at (some RX10) 2 := ev_kV dX7_takeWord_26 ⟨ev_in (List.mem_of_getElem? (i := 432) (by decide +kernel)) rfl, imX10_at, seX10_at, ini_X10, cdX10_at⟩ ⟨rfl, by decide +kernel, by decide +kernel, by decide +kernel⟩
theorem cdJ0_charAt_5068e : ev_code mJ0_charAt_5068e ∈ ev_TB := ev_in (List.mem_of_getElem? (i := 458) (by decide +kernel)) rfl
theorem imJ0_charAt_5068e : Cond.instanceMethod yJ0_charAt_5068e ∈ ev_TB := ev_in (List.mem_of_getElem? (i := 456) (by decide +kernel)) rfl
theorem seJ0_charAt_5068e : Cond.selects RJ0 yJ0_charAt_5068e yJ0_charAt_5068e ∈ ev_TB := ev_in (List.mem_of_getElem? (i := 457) (by decide +kernel)) rfl
theorem kX7_takeWord_31 : ev_K mX7_takeWord 31 mJ0_charAt_5068e (some RJ0) 2 := ev_kV dX7_takeWord_31 ⟨ev_in (List.mem_of_getElem? (i := 455) (by decide +kernel)) rfl, imJ0_charAt_5068e, seJ0_charAt_5068e, ini_J0, cdJ0_charAt_5068e⟩ ⟨rfl, by decide +kernel, by decide +kernel, by decide +kernel⟩
theorem kX7_takeWord_55 : ev_K mX7_takeWord 55 mX10_at (some RX10) 2 := ev_kV dX7_takeWord_55 ⟨ev_in (List.mem_of_getElem? (i := 432) (by decide +kernel)) rfl, imX10_at, seX10_at, ini_X10, cdX10_at⟩ ⟨rfl, by decide +kernel, by decide +kernel, by decide +kernel⟩
theorem kX7_takeWord_62 : ev_K mX7_takeWord 62 mX12_within none 3 := ev_kSN (host := "AlikeArrows") dX7_takeWord_62 (List.mem_filter.mpr ⟨List.mem_of_getElem? (i := 493) (by decide +kernel), rfl⟩) ⟨smX12_within, ini_X12, cdX12_within⟩ ⟨by decide +kernel, by decide +kernel, by decide +kernel⟩
theorem kX7_takeNumbers_24 : ev_K mX7_takeNumbers 24 mX7_skipBlanks (some RX7) 1 := ev_kV dX7_takeNumbers_24 ⟨ev_in (List.mem_of_getElem? (i := 428) (by decide +kernel)) rfl, imX7_skipBlanks, seX7_skipBlanks, ini_X7, cdX7_skipBlanks⟩ ⟨rfl, by decide +kernel, by decide +kernel, by decide +kernel⟩
theorem cdX7_takeNumber : ev_code mX7_takeNumber ∈ ev_TB := ev_in (List.mem_of_getElem? (i := 509) (by decide +kernel)) rfl
theorem imX7_takeNumber : Cond.instanceMethod yX7_takeNumber ∈ ev_TB := ev_in (List.mem_of_getElem? (i := 508) (by decide +kernel)) rfl
theorem seX7_takeNumber : Cond.selects RX7 yX7_takeNumber yX7_takeNumber ∈ ev_TB := ev_in (List.mem_of_getElem? (i := 5) (by decide +kernel)) rfl
theorem kX7_takeNumbers_39 : ev_K mX7_takeNumbers 39 mX7_takeNumber (some RX7) 3 := ev_kV dX7_takeNumbers_39 ⟨ev_in (List.mem_of_getElem? (i := 506) (by decide +kernel)) rfl, imX7_takeNumber, seX7_takeNumber, ini_X7, cdX7_takeNumber⟩ ⟨rfl, by decide +kernel, by decide +kernel, by decide +kernel⟩
theorem kX7_takeNumber_26 : ev_K mX7_takeNumber 26 mX10_at (some RX10) 2 := ev_kV dX7_takeNumber_26 ⟨ev_in (List.mem_of_getElem? (i := 432) (by decide +kernel)) rfl, imX10_at, seX10_at, ini_X10, cdX10_at⟩ ⟨rfl, by decide +kernel, by decide +kernel, by decide +kernel⟩
theorem kX7_takeNumber_33 : ev_K mX7_takeNumber 33 mX12_within none 3 := ev_kSN (host := "AlikeArrows") dX7_takeNumber_33 (List.mem_filter.mpr ⟨List.mem_of_getElem? (i := 493) (by decide +kernel), rfl⟩) ⟨smX12_within, ini_X12, cdX12_within⟩ ⟨by decide +kernel, by decide +kernel, by decide +kernel⟩
theorem kX7_takeNumber_52 : ev_K mX7_takeNumber 52 mX10_at (some RX10) 2 := ev_kV dX7_takeNumber_52 ⟨ev_in (List.mem_of_getElem? (i := 432) (by decide +kernel)) rfl, imX10_at, seX10_at, ini_X10, cdX10_at⟩ ⟨rfl, by decide +kernel, by decide +kernel, by decide +kernel⟩
theorem maX7_170 : Cond.methodLink RX7 170 Lib.Math.min.name ∈ ev_TB ∧ Cond.static Lib.Math.min.name ∈ ev_TB ∧ Cond.initialized "java/lang/Math" ∈ ev_TB ∧ Cond.code Lib.Math.min.name Lib.Math.min.code 2 (some .int) ∈ ev_TB := ⟨ev_in (List.mem_of_getElem? (i := 510) (by decide +kernel)) rfl, sMath_min⟩
theorem kX7_takeNumber_88 : ev_K mX7_takeNumber 88 mX10_at (some RX10) 2 := ev_kV dX7_takeNumber_88 ⟨ev_in (List.mem_of_getElem? (i := 432) (by decide +kernel)) rfl, imX10_at, seX10_at, ini_X10, cdX10_at⟩ ⟨rfl, by decide +kernel, by decide +kernel, by decide +kernel⟩
theorem kX7_takeNumber_120 : ev_K mX7_takeNumber 120 mX12_within none 3 := ev_kSN (host := "AlikeArrows") dX7_takeNumber_120 (List.mem_filter.mpr ⟨List.mem_of_getElem? (i := 493) (by decide +kernel), rfl⟩) ⟨smX12_within, ini_X12, cdX12_within⟩ ⟨by decide +kernel, by decide +kernel, by decide +kernel⟩
theorem kX7_takeEnd_1 : ev_K mX7_takeEnd 1 mX7_skipBlanks (some RX7) 1 := ev_kV dX7_takeEnd_1 ⟨ev_in (List.mem_of_getElem? (i := 428) (by decide +kernel)) rfl, imX7_skipBlanks, seX7_skipBlanks, ini_X7, cdX7_skipBlanks⟩ ⟨rfl, by decide +kernel, by decide +kernel, by decide +kernel⟩
theorem kX7_takeEnd_12 : ev_K mX7_takeEnd 12 mX10_at (some RX10) 2 := ev_kV dX7_takeEnd_12 ⟨ev_in (List.mem_of_getElem? (i := 432) (by decide +kernel)) rfl, imX10_at, seX10_at, ini_X10, cdX10_at⟩ ⟨rfl, by decide +kernel, by decide +kernel, by decide +kernel⟩
theorem obX8_3 : Cond.methodLink RX8 3 objectInit ∈ ev_TB ∧ Cond.instanceMethod objectInit ∈ ev_TB ∧ Cond.code objectInit ⟨#[0xb1]⟩ 1 none ∈ ev_TB := ⟨ev_in (List.mem_of_getElem? (i := 118) (by decide +kernel)) rfl, imOb, cdOb⟩
theorem fpX8_9 : ev_FP RX8 9 8 0 (.array .int) true := ⟨(RX8, TX8, 10), tyX8, rfl, by decide, ev_in (List.mem_of_getElem? (i := 119) (by decide +kernel)) rfl, in_X8, rfl, tyX8_ok, nmX8, by decide +kernel, rfl, fun h => by first | rfl | cases h⟩
theorem fpX8_15 : ev_FP RX8 15 8 1 (.array .int) true := ⟨(RX8, TX8, 10), tyX8, rfl, by decide, ev_in (List.mem_of_getElem? (i := 120) (by decide +kernel)) rfl, in_X8, rfl, tyX8_ok, nmX8, by decide +kernel, rfl, fun h => by first | rfl | cases h⟩
theorem fpX8_18 : ev_FP RX8 18 8 2 (.array .int) true := ⟨(RX8, TX8, 10), tyX8, rfl, by decide, ev_in (List.mem_of_getElem? (i := 121) (by decide +kernel)) rfl, in_X8, rfl, tyX8_ok, nmX8, by decide +kernel, rfl, fun h => by first | rfl | cases h⟩
theorem fpX8_21 : ev_FP RX8 21 8 3 (.array .int) true := ⟨(RX8, TX8, 10), tyX8, rfl, by decide, ev_in (List.mem_of_getElem? (i := 122) (by decide +kernel)) rfl, in_X8, rfl, tyX8_ok, nmX8, by decide +kernel, rfl, fun h => by first | rfl | cases h⟩
theorem fpX8_24 : ev_FP RX8 24 8 4 (.array .int) true := ⟨(RX8, TX8, 10), tyX8, rfl, by decide, ev_in (List.mem_of_getElem? (i := 123) (by decide +kernel)) rfl, in_X8, rfl, tyX8_ok, nmX8, by decide +kernel, rfl, fun h => by first | rfl | cases h⟩
theorem fpX8_27 : ev_FP RX8 27 8 5 (.array .int) true := ⟨(RX8, TX8, 10), tyX8, rfl, by decide, ev_in (List.mem_of_getElem? (i := 124) (by decide +kernel)) rfl, in_X8, rfl, tyX8_ok, nmX8, by decide +kernel, rfl, fun h => by first | rfl | cases h⟩
theorem fpX8_30 : ev_FP RX8 30 8 6 (.array .int) true := ⟨(RX8, TX8, 10), tyX8, rfl, by decide, ev_in (List.mem_of_getElem? (i := 125) (by decide +kernel)) rfl, in_X8, rfl, tyX8_ok, nmX8, by decide +kernel, rfl, fun h => by first | rfl | cases h⟩
theorem flX8_33 : ev_FL RX8 33 8 9 := ⟨(RX8, TX8, 10), rfl, by decide, ev_in (List.mem_of_getElem? (i := 128) (by decide +kernel)) rfl, in_X8, rfl⟩
theorem flX8_9 : ev_FL RX8 9 8 0 := ⟨(RX8, TX8, 10), rfl, by decide, ev_in (List.mem_of_getElem? (i := 119) (by decide +kernel)) rfl, in_X8, rfl⟩
theorem flX8_15 : ev_FL RX8 15 8 1 := ⟨(RX8, TX8, 10), rfl, by decide, ev_in (List.mem_of_getElem? (i := 120) (by decide +kernel)) rfl, in_X8, rfl⟩
theorem flX8_18 : ev_FL RX8 18 8 2 := ⟨(RX8, TX8, 10), rfl, by decide, ev_in (List.mem_of_getElem? (i := 121) (by decide +kernel)) rfl, in_X8, rfl⟩
theorem flX8_21 : ev_FL RX8 21 8 3 := ⟨(RX8, TX8, 10), rfl, by decide, ev_in (List.mem_of_getElem? (i := 122) (by decide +kernel)) rfl, in_X8, rfl⟩
theorem flX8_24 : ev_FL RX8 24 8 4 := ⟨(RX8, TX8, 10), rfl, by decide, ev_in (List.mem_of_getElem? (i := 123) (by decide +kernel)) rfl, in_X8, rfl⟩
theorem fpX8_33 : ev_FP RX8 33 8 9 .int false := ⟨(RX8, TX8, 10), tyX8, rfl, by decide, ev_in (List.mem_of_getElem? (i := 128) (by decide +kernel)) rfl, in_X8, rfl, tyX8_ok, nmX8, by decide +kernel, rfl, fun h => by first | rfl | cases h⟩
theorem coX8_37 : Cond.constant RX8 37 (-1000000) ∈ ev_TB := ev_in (List.mem_of_getElem? (i := 799) (by decide +kernel)) rfl
theorem cdX8_weigh : ev_code mX8_weigh ∈ ev_TB := ev_in (List.mem_of_getElem? (i := 815) (by decide +kernel)) rfl
theorem imX8_weigh : Cond.instanceMethod yX8_weigh ∈ ev_TB := ev_in (List.mem_of_getElem? (i := 814) (by decide +kernel)) rfl
theorem seX8_weigh : Cond.selects RX8 yX8_weigh yX8_weigh ∈ ev_TB := ev_in (List.mem_of_getElem? (i := 12) (by decide +kernel)) rfl
theorem kX8_partedBy_56 : ev_K mX8_partedBy 56 mX8_weigh (some RX8) 2 := ev_kV dX8_partedBy_56 ⟨ev_in (List.mem_of_getElem? (i := 812) (by decide +kernel)) rfl, imX8_weigh, seX8_weigh, ini_X8, cdX8_weigh⟩ ⟨rfl, by decide +kernel, by decide +kernel, by decide +kernel⟩
theorem flX8_42 : ev_FL RX8 42 8 7 := ⟨(RX8, TX8, 10), rfl, by decide, ev_in (List.mem_of_getElem? (i := 126) (by decide +kernel)) rfl, in_X8, rfl⟩
theorem flX8_46 : ev_FL RX8 46 8 8 := ⟨(RX8, TX8, 10), rfl, by decide, ev_in (List.mem_of_getElem? (i := 127) (by decide +kernel)) rfl, in_X8, rfl⟩
theorem cdX8_addUp : ev_code mX8_addUp ∈ ev_TB := ev_in (List.mem_of_getElem? (i := 819) (by decide +kernel)) rfl
theorem imX8_addUp : Cond.instanceMethod yX8_addUp ∈ ev_TB := ev_in (List.mem_of_getElem? (i := 818) (by decide +kernel)) rfl
theorem seX8_addUp : Cond.selects RX8 yX8_addUp yX8_addUp ∈ ev_TB := ev_in (List.mem_of_getElem? (i := 13) (by decide +kernel)) rfl
theorem kX8_weigh_2 : ev_K mX8_weigh 2 mX8_addUp (some RX8) 2 := ev_kV dX8_weigh_2 ⟨ev_in (List.mem_of_getElem? (i := 816) (by decide +kernel)) rfl, imX8_addUp, seX8_addUp, ini_X8, cdX8_addUp⟩ ⟨rfl, by decide +kernel, by decide +kernel, by decide +kernel⟩
theorem fpX8_42 : ev_FP RX8 42 8 7 .long false := ⟨(RX8, TX8, 10), tyX8, rfl, by decide, ev_in (List.mem_of_getElem? (i := 126) (by decide +kernel)) rfl, in_X8, rfl, tyX8_ok, nmX8, by decide +kernel, rfl, fun h => by first | rfl | cases h⟩
theorem fpX8_46 : ev_FP RX8 46 8 8 .long false := ⟨(RX8, TX8, 10), tyX8, rfl, by decide, ev_in (List.mem_of_getElem? (i := 127) (by decide +kernel)) rfl, in_X8, rfl, tyX8_ok, nmX8, by decide +kernel, rfl, fun h => by first | rfl | cases h⟩
theorem flX8_30 : ev_FL RX8 30 8 6 := ⟨(RX8, TX8, 10), rfl, by decide, ev_in (List.mem_of_getElem? (i := 125) (by decide +kernel)) rfl, in_X8, rfl⟩
theorem flX8_27 : ev_FL RX8 27 8 5 := ⟨(RX8, TX8, 10), rfl, by decide, ev_in (List.mem_of_getElem? (i := 124) (by decide +kernel)) rfl, in_X8, rfl⟩
theorem cdX8_addFraction : ev_code mX8_addFraction ∈ ev_TB := ev_in (List.mem_of_getElem? (i := 823) (by decide +kernel)) rfl
theorem imX8_addFraction : Cond.instanceMethod yX8_addFraction ∈ ev_TB := ev_in (List.mem_of_getElem? (i := 822) (by decide +kernel)) rfl
theorem seX8_addFraction : Cond.selects RX8 yX8_addFraction yX8_addFraction ∈ ev_TB := ev_in (List.mem_of_getElem? (i := 14) (by decide +kernel)) rfl
theorem kX8_weigh_58 : ev_K mX8_weigh 58 mX8_addFraction (some RX8) 3 := ev_kV dX8_weigh_58 ⟨ev_in (List.mem_of_getElem? (i := 820) (by decide +kernel)) rfl, imX8_addFraction, seX8_addFraction, ini_X8, cdX8_addFraction⟩ ⟨rfl, by decide +kernel, by decide +kernel, by decide +kernel⟩
theorem cdX8_commonDivisor : ev_code mX8_commonDivisor ∈ ev_TB := ev_in (List.mem_of_getElem? (i := 826) (by decide +kernel)) rfl
theorem smX8_commonDivisor : Cond.static yX8_commonDivisor ∈ ev_TB := ev_in (List.mem_of_getElem? (i := 825) (by decide +kernel)) rfl
theorem kX8_addFraction_5 : ev_K mX8_addFraction 5 mX8_commonDivisor none 2 := ev_kS dX8_addFraction_5 ⟨ev_in (List.mem_of_getElem? (i := 824) (by decide +kernel)) rfl, smX8_commonDivisor, ini_X8, cdX8_commonDivisor⟩ ⟨by decide +kernel, by decide +kernel, by decide +kernel⟩
theorem maX8_60 : Cond.methodLink RX8 60 Lib.Math.min.name ∈ ev_TB ∧ Cond.static Lib.Math.min.name ∈ ev_TB ∧ Cond.initialized "java/lang/Math" ∈ ev_TB ∧ Cond.code Lib.Math.min.name Lib.Math.min.code 2 (some .int) ∈ ev_TB := ⟨ev_in (List.mem_of_getElem? (i := 835) (by decide +kernel)) rfl, sMath_min⟩
theorem sMath_max : Cond.static Lib.Math.max.name ∈ ev_TB ∧ Cond.initialized "java/lang/Math" ∈ ev_TB ∧ Cond.code Lib.Math.max.name Lib.Math.max.code 2 (some .int) ∈ ev_TB := ⟨ev_in (List.mem_of_getElem? (i := 777) (by decide +kernel)) rfl, iniMath, ev_in (List.mem_of_getElem? (i := 778) (by decide +kernel)) rfl⟩
theorem maX8_66 : Cond.methodLink RX8 66 Lib.Math.max.name ∈ ev_TB ∧ Cond.static Lib.Math.max.name ∈ ev_TB ∧ Cond.initialized "java/lang/Math" ∈ ev_TB ∧ Cond.code Lib.Math.max.name Lib.Math.max.code 2 (some .int) ∈ ev_TB := ⟨ev_in (List.mem_of_getElem? (i := 836) (by decide +kernel)) rfl, sMath_max⟩
theorem sMath_absL : Cond.static Lib.MathLoose.abs_long.x ∈ ev_TB ∧ Cond.initialized "java/lang/Math" ∈ ev_TB ∧ Cond.code Lib.MathLoose.abs_long.x Lib.MathLoose.abs_long.code 2 (some .long) ∈ ev_TB := ⟨ev_in (List.mem_of_getElem? (i := 846) (by decide +kernel)) rfl, iniMath, ev_in (List.mem_of_getElem? (i := 847) (by decide +kernel)) rfl⟩
theorem maX8_69 : Cond.methodLink RX8 69 Lib.MathLoose.abs_long.x ∈ ev_TB ∧ Cond.static Lib.MathLoose.abs_long.x ∈ ev_TB ∧ Cond.initialized "java/lang/Math" ∈ ev_TB ∧ Cond.code Lib.MathLoose.abs_long.x Lib.MathLoose.abs_long.code 2 (some .long) ∈ ev_TB := ⟨ev_in (List.mem_of_getElem? (i := 845) (by decide +kernel)) rfl, sMath_absL⟩
theorem coX8_73 : Cond.constantLong RX8 73 (3) ∈ ev_TB := ev_in (List.mem_of_getElem? (i := 848) (by decide +kernel)) rfl
theorem obX9_3 : Cond.methodLink RX9 3 objectInit ∈ ev_TB ∧ Cond.instanceMethod objectInit ∈ ev_TB ∧ Cond.code objectInit ⟨#[0xb1]⟩ 1 none ∈ ev_TB := ⟨ev_in (List.mem_of_getElem? (i := 228) (by decide +kernel)) rfl, imOb, cdOb⟩
theorem flX9_9 : ev_FL RX9 9 9 0 := ⟨(RX9, TX9, 7), rfl, by decide, ev_in (List.mem_of_getElem? (i := 229) (by decide +kernel)) rfl, in_X9, rfl⟩
theorem fpX9_9 : ev_FP RX9 9 9 0 .int false := ⟨(RX9, TX9, 7), tyX9, rfl, by decide, ev_in (List.mem_of_getElem? (i := 229) (by decide +kernel)) rfl, in_X9, rfl, tyX9_ok, nmX9, by decide +kernel, rfl, fun h => by first | rfl | cases h⟩
theorem flX9_15 : ev_FL RX9 15 9 1 := ⟨(RX9, TX9, 7), rfl, by decide, ev_in (List.mem_of_getElem? (i := 233) (by decide +kernel)) rfl, in_X9, rfl⟩
theorem fpX9_15 : ev_FP RX9 15 9 1 .int false := ⟨(RX9, TX9, 7), tyX9, rfl, by decide, ev_in (List.mem_of_getElem? (i := 233) (by decide +kernel)) rfl, in_X9, rfl, tyX9_ok, nmX9, by decide +kernel, rfl, fun h => by first | rfl | cases h⟩
theorem flX9_18 : ev_FL RX9 18 9 2 := ⟨(RX9, TX9, 7), rfl, by decide, ev_in (List.mem_of_getElem? (i := 237) (by decide +kernel)) rfl, in_X9, rfl⟩
theorem fpX9_18 : ev_FP RX9 18 9 2 .int false := ⟨(RX9, TX9, 7), tyX9, rfl, by decide, ev_in (List.mem_of_getElem? (i := 237) (by decide +kernel)) rfl, in_X9, rfl, tyX9_ok, nmX9, by decide +kernel, rfl, fun h => by first | rfl | cases h⟩
theorem flX9_21 : ev_FL RX9 21 9 3 := ⟨(RX9, TX9, 7), rfl, by decide, ev_in (List.mem_of_getElem? (i := 240) (by decide +kernel)) rfl, in_X9, rfl⟩
theorem fpX9_21 : ev_FP RX9 21 9 3 .int false := ⟨(RX9, TX9, 7), tyX9, rfl, by decide, ev_in (List.mem_of_getElem? (i := 240) (by decide +kernel)) rfl, in_X9, rfl, tyX9_ok, nmX9, by decide +kernel, rfl, fun h => by first | rfl | cases h⟩
theorem flX9_24 : ev_FL RX9 24 9 4 := ⟨(RX9, TX9, 7), rfl, by decide, ev_in (List.mem_of_getElem? (i := 243) (by decide +kernel)) rfl, in_X9, rfl⟩
theorem fpX9_24 : ev_FP RX9 24 9 4 .int false := ⟨(RX9, TX9, 7), tyX9, rfl, by decide, ev_in (List.mem_of_getElem? (i := 243) (by decide +kernel)) rfl, in_X9, rfl, tyX9_ok, nmX9, by decide +kernel, rfl, fun h => by first | rfl | cases h⟩
theorem flX9_27 : ev_FL RX9 27 9 5 := ⟨(RX9, TX9, 7), rfl, by decide, ev_in (List.mem_of_getElem? (i := 248) (by decide +kernel)) rfl, in_X9, rfl⟩
theorem fpX9_27 : ev_FP RX9 27 9 5 .int false := ⟨(RX9, TX9, 7), tyX9, rfl, by decide, ev_in (List.mem_of_getElem? (i := 248) (by decide +kernel)) rfl, in_X9, rfl, tyX9_ok, nmX9, by decide +kernel, rfl, fun h => by first | rfl | cases h⟩
theorem flX9_30 : ev_FL RX9 30 9 6 := ⟨(RX9, TX9, 7), rfl, by decide, ev_in (List.mem_of_getElem? (i := 254) (by decide +kernel)) rfl, in_X9, rfl⟩
theorem fpX9_30 : ev_FP RX9 30 9 6 .int false := ⟨(RX9, TX9, 7), tyX9, rfl, by decide, ev_in (List.mem_of_getElem? (i := 254) (by decide +kernel)) rfl, in_X9, rfl, tyX9_ok, nmX9, by decide +kernel, rfl, fun h => by first | rfl | cases h⟩
theorem kX9_spine_5 : ev_K mX9_spine 5 mX9_spineBy (some RX9) 2 := ev_kV dX9_spine_5 ⟨ev_in (List.mem_of_getElem? (i := 683) (by decide +kernel)) rfl, imX9_spineBy, seX9_spineBy, ini_X9, cdX9_spineBy⟩ ⟨rfl, by decide +kernel, by decide +kernel, by decide +kernel⟩
theorem kX9_spineBy_2 : ev_K mX9_spineBy 2 mX9_stiffBy (some RX9) 2 := ev_kV dX9_spineBy_2 ⟨ev_in (List.mem_of_getElem? (i := 687) (by decide +kernel)) rfl, imX9_stiffBy, seX9_stiffBy, ini_X9, cdX9_stiffBy⟩ ⟨rfl, by decide +kernel, by decide +kernel, by decide +kernel⟩
theorem kX9_spineBy_13 : ev_K mX9_spineBy 13 mX12_spineOf none 3 := ev_kSN (host := "AlikeArrows") dX9_spineBy_13 (List.mem_filter.mpr ⟨List.mem_of_getElem? (i := 688) (by decide +kernel), rfl⟩) ⟨smX12_spineOf, ini_X12, cdX12_spineOf⟩ ⟨by decide +kernel, by decide +kernel, by decide +kernel⟩
theorem maX9_44 : Cond.methodLink RX9 44 Lib.Math.min.name ∈ ev_TB ∧ Cond.static Lib.Math.min.name ∈ ev_TB ∧ Cond.initialized "java/lang/Math" ∈ ev_TB ∧ Cond.code Lib.Math.min.name Lib.Math.min.code 2 (some .int) ∈ ev_TB := ⟨ev_in (List.mem_of_getElem? (i := 616) (by decide +kernel)) rfl, sMath_min⟩
theorem obX10_3 : Cond.methodLink RX10 3 objectInit ∈ ev_TB ∧ Cond.instanceMethod objectInit ∈ ev_TB ∧ Cond.code objectInit ⟨#[0xb1]⟩ 1 none ∈ ev_TB := ⟨ev_in (List.mem_of_getElem? (i := 76) (by decide +kernel)) rfl, imOb, cdOb⟩
theorem fpX10_9 : ev_FP RX10 9 10 0 (.array .int) true := ⟨(RX10, TX10, 2), tyX10, rfl, by decide, ev_in (List.mem_of_getElem? (i := 77) (by decide +kernel)) rfl, in_X10, rfl, tyX10_ok, nmX10, by decide +kernel, rfl, fun h => by first | rfl | cases h⟩
theorem flX10_15 : ev_FL RX10 15 10 1 := ⟨(RX10, TX10, 2), rfl, by decide, ev_in (List.mem_of_getElem? (i := 78) (by decide +kernel)) rfl, in_X10, rfl⟩
theorem flX10_9 : ev_FL RX10 9 10 0 := ⟨(RX10, TX10, 2), rfl, by decide, ev_in (List.mem_of_getElem? (i := 77) (by decide +kernel)) rfl, in_X10, rfl⟩
theorem fpX10_15 : ev_FP RX10 15 10 1 .int false := ⟨(RX10, TX10, 2), tyX10, rfl, by decide, ev_in (List.mem_of_getElem? (i := 78) (by decide +kernel)) rfl, in_X10, rfl, tyX10_ok, nmX10, by decide +kernel, rfl, fun h => by first | rfl | cases h⟩
theorem obX11_3 : Cond.methodLink RX11 3 objectInit ∈ ev_TB ∧ Cond.instanceMethod objectInit ∈ ev_TB ∧ Cond.code objectInit ⟨#[0xb1]⟩ 1 none ∈ ev_TB := ⟨ev_in (List.mem_of_getElem? (i := 108) (by decide +kernel)) rfl, imOb, cdOb⟩
theorem fpX11_9 : ev_FP RX11 9 11 0 (.array .int) true := ⟨(RX11, TX11, 1), tyX11, rfl, by decide, ev_in (List.mem_of_getElem? (i := 109) (by decide +kernel)) rfl, in_X11, rfl, tyX11_ok, nmX11, by decide +kernel, rfl, fun h => by first | rfl | cases h⟩
theorem coX11_15 : Cond.constant RX11 15 (-1000000) ∈ ev_TB := ev_in (List.mem_of_getElem? (i := 594) (by decide +kernel)) rfl
theorem fwX11_16 : Cond.fieldLink RX11 16 "AlikeArrows$Tunes" "LEASTS" "[I" ∈ ev_TB := ev_in (List.mem_of_getElem? (i := 595) (by decide +kernel)) rfl
theorem fwX11_19 : Cond.fieldLink RX11 19 "AlikeArrows$Tunes" "MOSTS" "[I" ∈ ev_TB := ev_in (List.mem_of_getElem? (i := 597) (by decide +kernel)) rfl
theorem kX11_change_23 : ev_K mX11_change 23 mX12_within none 3 := ev_kSN (host := "AlikeArrows") dX11_change_23 (List.mem_filter.mpr ⟨List.mem_of_getElem? (i := 599) (by decide +kernel), rfl⟩) ⟨smX12_within, ini_X12, cdX12_within⟩ ⟨by decide +kernel, by decide +kernel, by decide +kernel⟩
theorem flX11_9 : ev_FL RX11 9 11 0 := ⟨(RX11, TX11, 1), rfl, by decide, ev_in (List.mem_of_getElem? (i := 109) (by decide +kernel)) rfl, in_X11, rfl⟩
theorem sMath_abs : Cond.static Lib.Math.abs.name ∈ ev_TB ∧ Cond.initialized "java/lang/Math" ∈ ev_TB ∧ Cond.code Lib.Math.abs.name Lib.Math.abs.code 1 (some .int) ∈ ev_TB := ⟨ev_in (List.mem_of_getElem? (i := 664) (by decide +kernel)) rfl, iniMath, ev_in (List.mem_of_getElem? (i := 665) (by decide +kernel)) rfl⟩
theorem maX11_26 : Cond.methodLink RX11 26 Lib.Math.abs.name ∈ ev_TB ∧ Cond.static Lib.Math.abs.name ∈ ev_TB ∧ Cond.initialized "java/lang/Math" ∈ ev_TB ∧ Cond.code Lib.Math.abs.name Lib.Math.abs.code 1 (some .int) ∈ ev_TB := ⟨ev_in (List.mem_of_getElem? (i := 663) (by decide +kernel)) rfl, sMath_abs⟩
theorem kX11_flightOf_2 : ev_K mX11_flightOf 2 mX11_isClean (some RX11) 2 := ev_kV dX11_flightOf_2 ⟨ev_in (List.mem_of_getElem? (i := 697) (by decide +kernel)) rfl, imX11_isClean, seX11_isClean, ini_X11, cdX11_isClean⟩ ⟨rfl, by decide +kernel, by decide +kernel, by decide +kernel⟩
theorem cdX11_flightOf : ev_code mX11_flightOf ∈ ev_TB := ev_in (List.mem_of_getElem? (i := 696) (by decide +kernel)) rfl
theorem imX11_flightOf : Cond.instanceMethod yX11_flightOf ∈ ev_TB := ev_in (List.mem_of_getElem? (i := 694) (by decide +kernel)) rfl
theorem seX11_flightOf : Cond.selects RX11 yX11_flightOf yX11_flightOf ∈ ev_TB := ev_in (List.mem_of_getElem? (i := 695) (by decide +kernel)) rfl
theorem kX11_bareOf_15 : ev_K mX11_bareOf 15 mX11_flightOf (some RX11) 2 := ev_kV dX11_bareOf_15 ⟨ev_in (List.mem_of_getElem? (i := 693) (by decide +kernel)) rfl, imX11_flightOf, seX11_flightOf, ini_X11, cdX11_flightOf⟩ ⟨rfl, by decide +kernel, by decide +kernel, by decide +kernel⟩
theorem cdX11_bareOf : ev_code mX11_bareOf ∈ ev_TB := ev_in (List.mem_of_getElem? (i := 692) (by decide +kernel)) rfl
theorem imX11_bareOf : Cond.instanceMethod yX11_bareOf ∈ ev_TB := ev_in (List.mem_of_getElem? (i := 690) (by decide +kernel)) rfl
theorem seX11_bareOf : Cond.selects RX11 yX11_bareOf yX11_bareOf ∈ ev_TB := ev_in (List.mem_of_getElem? (i := 691) (by decide +kernel)) rfl
theorem kX11_feathered_2 : ev_K mX11_feathered 2 mX11_bareOf (some RX11) 2 := ev_kV dX11_feathered_2 ⟨ev_in (List.mem_of_getElem? (i := 706) (by decide +kernel)) rfl, imX11_bareOf, seX11_bareOf, ini_X11, cdX11_bareOf⟩ ⟨rfl, by decide +kernel, by decide +kernel, by decide +kernel⟩
theorem cdX11_feathered : ev_code mX11_feathered ∈ ev_TB := ev_in (List.mem_of_getElem? (i := 705) (by decide +kernel)) rfl
theorem imX11_feathered : Cond.instanceMethod yX11_feathered ∈ ev_TB := ev_in (List.mem_of_getElem? (i := 703) (by decide +kernel)) rfl
theorem seX11_feathered : Cond.selects RX11 yX11_feathered yX11_feathered ∈ ev_TB := ev_in (List.mem_of_getElem? (i := 704) (by decide +kernel)) rfl
theorem kX11_goesOf_3 : ev_K mX11_goesOf 3 mX11_feathered (some RX11) 3 := ev_kV dX11_goesOf_3 ⟨ev_in (List.mem_of_getElem? (i := 702) (by decide +kernel)) rfl, imX11_feathered, seX11_feathered, ini_X11, cdX11_feathered⟩ ⟨rfl, by decide +kernel, by decide +kernel, by decide +kernel⟩
theorem kX11_goesOf_7 : ev_K mX11_goesOf 7 mX11_wind (some RX11) 1 := ev_kV dX11_goesOf_7 ⟨ev_in (List.mem_of_getElem? (i := 707) (by decide +kernel)) rfl, imX11_wind, seX11_wind, ini_X11, cdX11_wind⟩ ⟨rfl, by decide +kernel, by decide +kernel, by decide +kernel⟩
theorem kX11_goesOf_15 : ev_K mX11_goesOf 15 mX9_mass (some RX9) 1 := ev_kV dX11_goesOf_15 ⟨ev_in (List.mem_of_getElem? (i := 711) (by decide +kernel)) rfl, imX9_mass, seX9_mass, ini_X9, cdX9_mass⟩ ⟨rfl, by decide +kernel, by decide +kernel, by decide +kernel⟩
theorem kX11_goesOf_18 : ev_K mX11_goesOf 18 mX12_divided none 2 := ev_kSN (host := "AlikeArrows") dX11_goesOf_18 (List.mem_filter.mpr ⟨List.mem_of_getElem? (i := 712) (by decide +kernel), rfl⟩) ⟨smX12_divided, ini_X12, cdX12_divided⟩ ⟨by decide +kernel, by decide +kernel, by decide +kernel⟩
theorem obX12_1 : Cond.methodLink RX12 1 objectInit ∈ ev_TB ∧ Cond.instanceMethod objectInit ∈ ev_TB ∧ Cond.code objectInit ⟨#[0xb1]⟩ 1 none ∈ ev_TB := ⟨ev_in (List.mem_of_getElem? (i := 68) (by decide +kernel)) rfl, imOb, cdOb⟩
theorem nwX12_7 : ev_NW RX12 7 10 [.null, .int 0] 2 := ⟨(RX10, TX10, 2), tyX10, rfl, rfl, ev_in (List.mem_of_getElem? (i := 71) (by decide +kernel)) rfl, ev_in (List.mem_of_getElem? (i := 72) (by decide +kernel)) rfl, ini_X10, in_X10, tyX10_ok, fun j hj => by
  match j, hj with
  | 0, _ => exact ⟨rfl, fun _ => rfl⟩
  | 1, _ => exact ⟨rfl, fun _ => rfl⟩
  | j + 2, hj => exact absurd hj (by show ¬ j + 2 < 2; omega)⟩
theorem cdX10_init : ev_code mX10_init ∈ ev_TB := ev_in (List.mem_of_getElem? (i := 75) (by decide +kernel)) rfl
theorem imX10_init : Cond.instanceMethod yX10_init ∈ ev_TB := ev_in (List.mem_of_getElem? (i := 74) (by decide +kernel)) rfl
theorem kX12_init_9 : ev_K mX12_init 9 mX10_init (some RX10) 1 := ev_kIN (host := "AlikeArrows") dX12_init_9 rfl (List.mem_filter.mpr ⟨List.mem_of_getElem? (i := 73) (by decide +kernel), rfl⟩) ⟨imX10_init, ini_X10, cdX10_init⟩ rfl ⟨by decide +kernel, by decide +kernel, by decide +kernel⟩
theorem fpX12_10 : ev_FP RX12 10 12 0 (.object RX10) true := ⟨(RX12, TX12, 12), tyX12, rfl, by decide, ev_in (List.mem_of_getElem? (i := 360) (by decide +kernel)) rfl, in_X12, rfl, tyX12_ok, nmX12, by decide +kernel, rfl, fun h => by first | rfl | cases h⟩
theorem nwX12_16 : ev_NW RX12 16 7 [.null, .null, .int 0] 3 := ⟨(RX7, TX7, 3), tyX7, rfl, rfl, ev_in (List.mem_of_getElem? (i := 87) (by decide +kernel)) rfl, ev_in (List.mem_of_getElem? (i := 88) (by decide +kernel)) rfl, ini_X7, in_X7, tyX7_ok, fun j hj => by
  match j, hj with
  | 0, _ => exact ⟨rfl, fun _ => rfl⟩
  | 1, _ => exact ⟨rfl, fun _ => rfl⟩
  | 2, _ => exact ⟨rfl, fun _ => rfl⟩
  | j + 3, hj => exact absurd hj (by show ¬ j + 3 < 3; omega)⟩
theorem flX12_10 : ev_FL RX12 10 12 0 := ⟨(RX12, TX12, 12), rfl, by decide, ev_in (List.mem_of_getElem? (i := 360) (by decide +kernel)) rfl, in_X12, rfl⟩
theorem cdX7_init : ev_code mX7_init ∈ ev_TB := ev_in (List.mem_of_getElem? (i := 91) (by decide +kernel)) rfl
theorem imX7_init : Cond.instanceMethod yX7_init ∈ ev_TB := ev_in (List.mem_of_getElem? (i := 90) (by decide +kernel)) rfl
theorem kX12_init_24 : ev_K mX12_init 24 mX7_init (some RX7) 2 := ev_kI dX12_init_24 rfl ⟨ev_in (List.mem_of_getElem? (i := 89) (by decide +kernel)) rfl, imX7_init, ini_X7, cdX7_init⟩ rfl ⟨by decide +kernel, by decide +kernel, by decide +kernel⟩
theorem fpX12_21 : ev_FP RX12 21 12 1 (.object RX7) true := ⟨(RX12, TX12, 12), tyX12, rfl, by decide, ev_in (List.mem_of_getElem? (i := 361) (by decide +kernel)) rfl, in_X12, rfl, tyX12_ok, nmX12, by decide +kernel, rfl, fun h => by first | rfl | cases h⟩
theorem nwX12_25 : ev_NW RX12 25 11 [.null] 1 := ⟨(RX11, TX11, 1), tyX11, rfl, rfl, ev_in (List.mem_of_getElem? (i := 103) (by decide +kernel)) rfl, ev_in (List.mem_of_getElem? (i := 104) (by decide +kernel)) rfl, ini_X11, in_X11, tyX11_ok, fun j hj => by
  match j, hj with
  | 0, _ => exact ⟨rfl, fun _ => rfl⟩
  | j + 1, hj => exact absurd hj (by show ¬ j + 1 < 1; omega)⟩
theorem cdX11_init : ev_code mX11_init ∈ ev_TB := ev_in (List.mem_of_getElem? (i := 107) (by decide +kernel)) rfl
theorem imX11_init : Cond.instanceMethod yX11_init ∈ ev_TB := ev_in (List.mem_of_getElem? (i := 106) (by decide +kernel)) rfl
theorem kX12_init_35 : ev_K mX12_init 35 mX11_init (some RX11) 1 := ev_kIN (host := "AlikeArrows") dX12_init_35 rfl (List.mem_filter.mpr ⟨List.mem_of_getElem? (i := 105) (by decide +kernel), rfl⟩) ⟨imX11_init, ini_X11, cdX11_init⟩ rfl ⟨by decide +kernel, by decide +kernel, by decide +kernel⟩
theorem fpX12_28 : ev_FP RX12 28 12 2 (.object RX11) true := ⟨(RX12, TX12, 12), tyX12, rfl, by decide, ev_in (List.mem_of_getElem? (i := 362) (by decide +kernel)) rfl, in_X12, rfl, tyX12_ok, nmX12, by decide +kernel, rfl, fun h => by first | rfl | cases h⟩
theorem nwX12_32 : ev_NW RX12 32 8 [.null, .null, .null, .null, .null, .null, .null, .long 0, .long 0, .int 0] 10 := ⟨(RX8, TX8, 10), tyX8, rfl, rfl, ev_in (List.mem_of_getElem? (i := 113) (by decide +kernel)) rfl, ev_in (List.mem_of_getElem? (i := 114) (by decide +kernel)) rfl, ini_X8, in_X8, tyX8_ok, fun j hj => by
  match j, hj with
  | 0, _ => exact ⟨rfl, fun _ => rfl⟩
  | 1, _ => exact ⟨rfl, fun _ => rfl⟩
  | 2, _ => exact ⟨rfl, fun _ => rfl⟩
  | 3, _ => exact ⟨rfl, fun _ => rfl⟩
  | 4, _ => exact ⟨rfl, fun _ => rfl⟩
  | 5, _ => exact ⟨rfl, fun _ => rfl⟩
  | 6, _ => exact ⟨rfl, fun _ => rfl⟩
  | 7, _ => exact ⟨rfl, fun _ => rfl⟩
  | 8, _ => exact ⟨rfl, fun _ => rfl⟩
  | 9, _ => exact ⟨rfl, fun _ => rfl⟩
  | j + 10, hj => exact absurd hj (by show ¬ j + 10 < 10; omega)⟩
theorem kX12_init_46 : ev_K mX12_init 46 mX8_init (some RX8) 1 := ev_kIN (host := "AlikeArrows") dX12_init_46 rfl (List.mem_filter.mpr ⟨List.mem_of_getElem? (i := 115) (by decide +kernel), rfl⟩) ⟨imX8_init, ini_X8, cdX8_init⟩ rfl ⟨by decide +kernel, by decide +kernel, by decide +kernel⟩
theorem fpX12_35 : ev_FP RX12 35 12 3 (.object RX8) true := ⟨(RX12, TX12, 12), tyX12, rfl, by decide, ev_in (List.mem_of_getElem? (i := 363) (by decide +kernel)) rfl, in_X12, rfl, tyX12_ok, nmX12, by decide +kernel, rfl, fun h => by first | rfl | cases h⟩
theorem nwX12_39 : ev_NW RX12 39 2 [.null, .null, .null, .int 0, .int 0, .int 0] 6 := ⟨(RX2, TX2, 6), tyX2, rfl, rfl, ev_in (List.mem_of_getElem? (i := 151) (by decide +kernel)) rfl, ev_in (List.mem_of_getElem? (i := 152) (by decide +kernel)) rfl, ini_X2, in_X2, tyX2_ok, fun j hj => by
  match j, hj with
  | 0, _ => exact ⟨rfl, fun _ => rfl⟩
  | 1, _ => exact ⟨rfl, fun _ => rfl⟩
  | 2, _ => exact ⟨rfl, fun _ => rfl⟩
  | 3, _ => exact ⟨rfl, fun _ => rfl⟩
  | 4, _ => exact ⟨rfl, fun _ => rfl⟩
  | 5, _ => exact ⟨rfl, fun _ => rfl⟩
  | j + 6, hj => exact absurd hj (by show ¬ j + 6 < 6; omega)⟩
theorem cdX2_init : ev_code mX2_init ∈ ev_TB := ev_in (List.mem_of_getElem? (i := 155) (by decide +kernel)) rfl
theorem imX2_init : Cond.instanceMethod yX2_init ∈ ev_TB := ev_in (List.mem_of_getElem? (i := 154) (by decide +kernel)) rfl
theorem kX12_init_57 : ev_K mX12_init 57 mX2_init (some RX2) 1 := ev_kIN (host := "AlikeArrows") dX12_init_57 rfl (List.mem_filter.mpr ⟨List.mem_of_getElem? (i := 153) (by decide +kernel), rfl⟩) ⟨imX2_init, ini_X2, cdX2_init⟩ rfl ⟨by decide +kernel, by decide +kernel, by decide +kernel⟩
theorem fpX12_42 : ev_FP RX12 42 12 4 (.object RX2) true := ⟨(RX12, TX12, 12), tyX12, rfl, by decide, ev_in (List.mem_of_getElem? (i := 364) (by decide +kernel)) rfl, in_X12, rfl, tyX12_ok, nmX12, by decide +kernel, rfl, fun h => by first | rfl | cases h⟩
theorem nwX12_46 : ev_NW RX12 46 6 [.int 0, .int 0, .int 0, .int 0, .int 0] 5 := ⟨(RX6, TX6, 5), tyX6, rfl, rfl, ev_in (List.mem_of_getElem? (i := 178) (by decide +kernel)) rfl, ev_in (List.mem_of_getElem? (i := 179) (by decide +kernel)) rfl, ini_X6, in_X6, tyX6_ok, fun j hj => by
  match j, hj with
  | 0, _ => exact ⟨rfl, fun _ => rfl⟩
  | 1, _ => exact ⟨rfl, fun _ => rfl⟩
  | 2, _ => exact ⟨rfl, fun _ => rfl⟩
  | 3, _ => exact ⟨rfl, fun _ => rfl⟩
  | 4, _ => exact ⟨rfl, fun _ => rfl⟩
  | j + 5, hj => exact absurd hj (by show ¬ j + 5 < 5; omega)⟩
theorem cdX6_init : ev_code mX6_init ∈ ev_TB := ev_in (List.mem_of_getElem? (i := 182) (by decide +kernel)) rfl
theorem imX6_init : Cond.instanceMethod yX6_init ∈ ev_TB := ev_in (List.mem_of_getElem? (i := 181) (by decide +kernel)) rfl
theorem kX12_init_68 : ev_K mX12_init 68 mX6_init (some RX6) 1 := ev_kIN (host := "AlikeArrows") dX12_init_68 rfl (List.mem_filter.mpr ⟨List.mem_of_getElem? (i := 180) (by decide +kernel), rfl⟩) ⟨imX6_init, ini_X6, cdX6_init⟩ rfl ⟨by decide +kernel, by decide +kernel, by decide +kernel⟩
theorem fpX12_49 : ev_FP RX12 49 12 5 (.object RX6) true := ⟨(RX12, TX12, 12), tyX12, rfl, by decide, ev_in (List.mem_of_getElem? (i := 365) (by decide +kernel)) rfl, in_X12, rfl, tyX12_ok, nmX12, by decide +kernel, rfl, fun h => by first | rfl | cases h⟩
theorem nwX12_53 : ev_NW RX12 53 5 [.null, .long 0] 2 := ⟨(RX5, TX5, 2), tyX5, rfl, rfl, ev_in (List.mem_of_getElem? (i := 200) (by decide +kernel)) rfl, ev_in (List.mem_of_getElem? (i := 201) (by decide +kernel)) rfl, ini_X5, in_X5, tyX5_ok, fun j hj => by
  match j, hj with
  | 0, _ => exact ⟨rfl, fun _ => rfl⟩
  | 1, _ => exact ⟨rfl, fun _ => rfl⟩
  | j + 2, hj => exact absurd hj (by show ¬ j + 2 < 2; omega)⟩
theorem flX12_28 : ev_FL RX12 28 12 2 := ⟨(RX12, TX12, 12), rfl, by decide, ev_in (List.mem_of_getElem? (i := 362) (by decide +kernel)) rfl, in_X12, rfl⟩
theorem cdX5_init : ev_code mX5_init ∈ ev_TB := ev_in (List.mem_of_getElem? (i := 204) (by decide +kernel)) rfl
theorem imX5_init : Cond.instanceMethod yX5_init ∈ ev_TB := ev_in (List.mem_of_getElem? (i := 203) (by decide +kernel)) rfl
theorem kX12_init_83 : ev_K mX12_init 83 mX5_init (some RX5) 2 := ev_kI dX12_init_83 rfl ⟨ev_in (List.mem_of_getElem? (i := 202) (by decide +kernel)) rfl, imX5_init, ini_X5, cdX5_init⟩ rfl ⟨by decide +kernel, by decide +kernel, by decide +kernel⟩
theorem fpX12_58 : ev_FP RX12 58 12 6 (.object RX5) true := ⟨(RX12, TX12, 12), tyX12, rfl, by decide, ev_in (List.mem_of_getElem? (i := 366) (by decide +kernel)) rfl, in_X12, rfl, tyX12_ok, nmX12, by decide +kernel, rfl, fun h => by first | rfl | cases h⟩
theorem ini_X4 : Cond.initialized RX4 ∈ ev_TB := ev_in (List.mem_of_getElem? (i := 51) (by decide +kernel)) rfl
theorem nwX12_62 : ev_NW RX12 62 4 [.null, .null, .int 0, .int 0] 4 := ⟨(RX4, TX4, 4), tyX4, rfl, rfl, ev_in (List.mem_of_getElem? (i := 214) (by decide +kernel)) rfl, ev_in (List.mem_of_getElem? (i := 215) (by decide +kernel)) rfl, ini_X4, in_X4, tyX4_ok, fun j hj => by
  match j, hj with
  | 0, _ => exact ⟨rfl, fun _ => rfl⟩
  | 1, _ => exact ⟨rfl, fun _ => rfl⟩
  | 2, _ => exact ⟨rfl, fun _ => rfl⟩
  | 3, _ => exact ⟨rfl, fun _ => rfl⟩
  | j + 4, hj => exact absurd hj (by show ¬ j + 4 < 4; omega)⟩
theorem cdX4_init : ev_code mX4_init ∈ ev_TB := ev_in (List.mem_of_getElem? (i := 218) (by decide +kernel)) rfl
theorem imX4_init : Cond.instanceMethod yX4_init ∈ ev_TB := ev_in (List.mem_of_getElem? (i := 217) (by decide +kernel)) rfl
theorem kX12_init_94 : ev_K mX12_init 94 mX4_init (some RX4) 1 := ev_kI dX12_init_94 rfl ⟨ev_in (List.mem_of_getElem? (i := 216) (by decide +kernel)) rfl, imX4_init, ini_X4, cdX4_init⟩ rfl ⟨by decide +kernel, by decide +kernel, by decide +kernel⟩
theorem fpX12_65 : ev_FP RX12 65 12 7 (.object RX4) true := ⟨(RX12, TX12, 12), tyX12, rfl, by decide, ev_in (List.mem_of_getElem? (i := 367) (by decide +kernel)) rfl, in_X12, rfl, tyX12_ok, nmX12, by decide +kernel, rfl, fun h => by first | rfl | cases h⟩
theorem kX12_init_105 : ev_K mX12_init 105 mX4_init (some RX4) 1 := ev_kI dX12_init_105 rfl ⟨ev_in (List.mem_of_getElem? (i := 216) (by decide +kernel)) rfl, imX4_init, ini_X4, cdX4_init⟩ rfl ⟨by decide +kernel, by decide +kernel, by decide +kernel⟩
theorem fpX12_69 : ev_FP RX12 69 12 8 (.object RX4) true := ⟨(RX12, TX12, 12), tyX12, rfl, by decide, ev_in (List.mem_of_getElem? (i := 368) (by decide +kernel)) rfl, in_X12, rfl, tyX12_ok, nmX12, by decide +kernel, rfl, fun h => by first | rfl | cases h⟩
theorem nwX12_72 : ev_NW RX12 72 3 [.null, .null, .null, .int 0, .int 0, .int 0] 6 := ⟨(RX3, TX3, 6), tyX3, rfl, rfl, ev_in (List.mem_of_getElem? (i := 288) (by decide +kernel)) rfl, ev_in (List.mem_of_getElem? (i := 289) (by decide +kernel)) rfl, ini_X3, in_X3, tyX3_ok, fun j hj => by
  match j, hj with
  | 0, _ => exact ⟨rfl, fun _ => rfl⟩
  | 1, _ => exact ⟨rfl, fun _ => rfl⟩
  | 2, _ => exact ⟨rfl, fun _ => rfl⟩
  | 3, _ => exact ⟨rfl, fun _ => rfl⟩
  | 4, _ => exact ⟨rfl, fun _ => rfl⟩
  | 5, _ => exact ⟨rfl, fun _ => rfl⟩
  | j + 6, hj => exact absurd hj (by show ¬ j + 6 < 6; omega)⟩
theorem cdX3_init : ev_code mX3_init ∈ ev_TB := ev_in (List.mem_of_getElem? (i := 292) (by decide +kernel)) rfl
theorem imX3_init : Cond.instanceMethod yX3_init ∈ ev_TB := ev_in (List.mem_of_getElem? (i := 291) (by decide +kernel)) rfl
theorem kX12_init_116 : ev_K mX12_init 116 mX3_init (some RX3) 1 := ev_kI dX12_init_116 rfl ⟨ev_in (List.mem_of_getElem? (i := 290) (by decide +kernel)) rfl, imX3_init, ini_X3, cdX3_init⟩ rfl ⟨by decide +kernel, by decide +kernel, by decide +kernel⟩
theorem fpX12_75 : ev_FP RX12 75 12 9 (.object RX3) false := ⟨(RX12, TX12, 12), tyX12, rfl, by decide, ev_in (List.mem_of_getElem? (i := 369) (by decide +kernel)) rfl, in_X12, rfl, tyX12_ok, nmX12, by decide +kernel, rfl, fun h => by first | rfl | cases h⟩
theorem kX12_init_127 : ev_K mX12_init 127 mX3_init (some RX3) 1 := ev_kI dX12_init_127 rfl ⟨ev_in (List.mem_of_getElem? (i := 290) (by decide +kernel)) rfl, imX3_init, ini_X3, cdX3_init⟩ rfl ⟨by decide +kernel, by decide +kernel, by decide +kernel⟩
theorem fpX12_79 : ev_FP RX12 79 12 10 (.object RX3) false := ⟨(RX12, TX12, 12), tyX12, rfl, by decide, ev_in (List.mem_of_getElem? (i := 370) (by decide +kernel)) rfl, in_X12, rfl, tyX12_ok, nmX12, by decide +kernel, rfl, fun h => by first | rfl | cases h⟩
theorem fpX12_82 : ev_FP RX12 82 12 11 .int false := ⟨(RX12, TX12, 12), tyX12, rfl, by decide, ev_in (List.mem_of_getElem? (i := 371) (by decide +kernel)) rfl, in_X12, rfl, tyX12_ok, nmX12, by decide +kernel, rfl, fun h => by first | rfl | cases h⟩
theorem kX12_type_4 : ev_K mX12_type 4 mX12_within none 3 := ev_kS dX12_type_4 ⟨ev_in (List.mem_of_getElem? (i := 401) (by decide +kernel)) rfl, smX12_within, ini_X12, cdX12_within⟩ ⟨by decide +kernel, by decide +kernel, by decide +kernel⟩
theorem flX12_90 : ev_FL RX12 90 10 1 := ⟨(RX10, TX10, 2), rfl, by decide, ev_in (List.mem_of_getElem? (i := 79) (by decide +kernel)) rfl, in_X10, rfl⟩
theorem cdX10_add : ev_code mX10_add ∈ ev_TB := ev_in (List.mem_of_getElem? (i := 407) (by decide +kernel)) rfl
theorem imX10_add : Cond.instanceMethod yX10_add ∈ ev_TB := ev_in (List.mem_of_getElem? (i := 405) (by decide +kernel)) rfl
theorem seX10_add : Cond.selects RX10 yX10_add yX10_add ∈ ev_TB := ev_in (List.mem_of_getElem? (i := 406) (by decide +kernel)) rfl
theorem kX12_type_56 : ev_K mX12_type 56 mX10_add (some RX10) 2 := ev_kV dX12_type_56 ⟨ev_in (List.mem_of_getElem? (i := 404) (by decide +kernel)) rfl, imX10_add, seX10_add, ini_X10, cdX10_add⟩ ⟨rfl, by decide +kernel, by decide +kernel, by decide +kernel⟩
theorem cdX10_empty : ev_code mX10_empty ∈ ev_TB := ev_in (List.mem_of_getElem? (i := 415) (by decide +kernel)) rfl
theorem imX10_empty : Cond.instanceMethod yX10_empty ∈ ev_TB := ev_in (List.mem_of_getElem? (i := 413) (by decide +kernel)) rfl
theorem seX10_empty : Cond.selects RX10 yX10_empty yX10_empty ∈ ev_TB := ev_in (List.mem_of_getElem? (i := 414) (by decide +kernel)) rfl
theorem kX12_clear_4 : ev_K mX12_clear 4 mX10_empty (some RX10) 1 := ev_kV dX12_clear_4 ⟨ev_in (List.mem_of_getElem? (i := 412) (by decide +kernel)) rfl, imX10_empty, seX10_empty, ini_X10, cdX10_empty⟩ ⟨rfl, by decide +kernel, by decide +kernel, by decide +kernel⟩
theorem flX12_21 : ev_FL RX12 21 12 1 := ⟨(RX12, TX12, 12), rfl, by decide, ev_in (List.mem_of_getElem? (i := 361) (by decide +kernel)) rfl, in_X12, rfl⟩
theorem flX12_79 : ev_FL RX12 79 12 10 := ⟨(RX12, TX12, 12), rfl, by decide, ev_in (List.mem_of_getElem? (i := 370) (by decide +kernel)) rfl, in_X12, rfl⟩
theorem cdX7_readAll : ev_code mX7_readAll ∈ ev_TB := ev_in (List.mem_of_getElem? (i := 423) (by decide +kernel)) rfl
theorem imX7_readAll : Cond.instanceMethod yX7_readAll ∈ ev_TB := ev_in (List.mem_of_getElem? (i := 421) (by decide +kernel)) rfl
theorem seX7_readAll : Cond.selects RX7 yX7_readAll yX7_readAll ∈ ev_TB := ev_in (List.mem_of_getElem? (i := 422) (by decide +kernel)) rfl
theorem kX12_arrows_8 : ev_K mX12_arrows 8 mX7_readAll (some RX7) 2 := ev_kV dX12_arrows_8 ⟨ev_in (List.mem_of_getElem? (i := 420) (by decide +kernel)) rfl, imX7_readAll, seX7_readAll, ini_X7, cdX7_readAll⟩ ⟨rfl, by decide +kernel, by decide +kernel, by decide +kernel⟩
theorem flX12_75 : ev_FL RX12 75 12 9 := ⟨(RX12, TX12, 12), rfl, by decide, ev_in (List.mem_of_getElem? (i := 369) (by decide +kernel)) rfl, in_X12, rfl⟩
theorem kX12_arrows_40 : ev_K mX12_arrows 40 mX10_empty (some RX10) 1 := ev_kV dX12_arrows_40 ⟨ev_in (List.mem_of_getElem? (i := 412) (by decide +kernel)) rfl, imX10_empty, seX10_empty, ini_X10, cdX10_empty⟩ ⟨rfl, by decide +kernel, by decide +kernel, by decide +kernel⟩
theorem flX12_35 : ev_FL RX12 35 12 3 := ⟨(RX12, TX12, 12), rfl, by decide, ev_in (List.mem_of_getElem? (i := 363) (by decide +kernel)) rfl, in_X12, rfl⟩
theorem cdX8_empty : ev_code mX8_empty ∈ ev_TB := ev_in (List.mem_of_getElem? (i := 552) (by decide +kernel)) rfl
theorem imX8_empty : Cond.instanceMethod yX8_empty ∈ ev_TB := ev_in (List.mem_of_getElem? (i := 550) (by decide +kernel)) rfl
theorem seX8_empty : Cond.selects RX8 yX8_empty yX8_empty ∈ ev_TB := ev_in (List.mem_of_getElem? (i := 551) (by decide +kernel)) rfl
theorem kX12_arrows_48 : ev_K mX12_arrows 48 mX8_empty (some RX8) 1 := ev_kV dX12_arrows_48 ⟨ev_in (List.mem_of_getElem? (i := 549) (by decide +kernel)) rfl, imX8_empty, seX8_empty, ini_X8, cdX8_empty⟩ ⟨rfl, by decide +kernel, by decide +kernel, by decide +kernel⟩
theorem flX12_65 : ev_FL RX12 65 12 7 := ⟨(RX12, TX12, 12), rfl, by decide, ev_in (List.mem_of_getElem? (i := 367) (by decide +kernel)) rfl, in_X12, rfl⟩
theorem fpX12_106 : ev_FP RX12 106 4 3 .boolean false := ⟨(RX4, TX4, 4), tyX4, rfl, by decide, ev_in (List.mem_of_getElem? (i := 278) (by decide +kernel)) rfl, in_X4, rfl, tyX4_ok, nmX4, by decide +kernel, rfl, fun h => by first | rfl | cases h⟩
theorem flX12_69 : ev_FL RX12 69 12 8 := ⟨(RX12, TX12, 12), rfl, by decide, ev_in (List.mem_of_getElem? (i := 368) (by decide +kernel)) rfl, in_X12, rfl⟩
theorem cdX3_stickAt : ev_code mX3_stickAt ∈ ev_TB := ev_in (List.mem_of_getElem? (i := 561) (by decide +kernel)) rfl
theorem imX3_stickAt : Cond.instanceMethod yX3_stickAt ∈ ev_TB := ev_in (List.mem_of_getElem? (i := 559) (by decide +kernel)) rfl
theorem seX3_stickAt : Cond.selects RX3 yX3_stickAt yX3_stickAt ∈ ev_TB := ev_in (List.mem_of_getElem? (i := 560) (by decide +kernel)) rfl
theorem kX12_stick_5 : ev_K mX12_stick 5 mX3_stickAt (some RX3) 2 := ev_kV dX12_stick_5 ⟨ev_in (List.mem_of_getElem? (i := 558) (by decide +kernel)) rfl, imX3_stickAt, seX3_stickAt, ini_X3, cdX3_stickAt⟩ ⟨rfl, by decide +kernel, by decide +kernel, by decide +kernel⟩
theorem flX12_114 : ev_FL RX12 114 9 0 := ⟨(RX9, TX9, 7), rfl, by decide, ev_in (List.mem_of_getElem? (i := 232) (by decide +kernel)) rfl, in_X9, rfl⟩
theorem flX12_119 : ev_FL RX12 119 9 1 := ⟨(RX9, TX9, 7), rfl, by decide, ev_in (List.mem_of_getElem? (i := 236) (by decide +kernel)) rfl, in_X9, rfl⟩
theorem flX12_122 : ev_FL RX12 122 9 2 := ⟨(RX9, TX9, 7), rfl, by decide, ev_in (List.mem_of_getElem? (i := 239) (by decide +kernel)) rfl, in_X9, rfl⟩
theorem flX12_125 : ev_FL RX12 125 9 3 := ⟨(RX9, TX9, 7), rfl, by decide, ev_in (List.mem_of_getElem? (i := 242) (by decide +kernel)) rfl, in_X9, rfl⟩
theorem flX12_128 : ev_FL RX12 128 9 4 := ⟨(RX9, TX9, 7), rfl, by decide, ev_in (List.mem_of_getElem? (i := 246) (by decide +kernel)) rfl, in_X9, rfl⟩
theorem flX12_131 : ev_FL RX12 131 9 5 := ⟨(RX9, TX9, 7), rfl, by decide, ev_in (List.mem_of_getElem? (i := 252) (by decide +kernel)) rfl, in_X9, rfl⟩
theorem flX12_134 : ev_FL RX12 134 9 6 := ⟨(RX9, TX9, 7), rfl, by decide, ev_in (List.mem_of_getElem? (i := 257) (by decide +kernel)) rfl, in_X9, rfl⟩
theorem cdX3_bowAt : ev_code mX3_bowAt ∈ ev_TB := ev_in (List.mem_of_getElem? (i := 569) (by decide +kernel)) rfl
theorem imX3_bowAt : Cond.instanceMethod yX3_bowAt ∈ ev_TB := ev_in (List.mem_of_getElem? (i := 567) (by decide +kernel)) rfl
theorem seX3_bowAt : Cond.selects RX3 yX3_bowAt yX3_bowAt ∈ ev_TB := ev_in (List.mem_of_getElem? (i := 568) (by decide +kernel)) rfl
theorem kX12_bow_5 : ev_K mX12_bow 5 mX3_bowAt (some RX3) 2 := ev_kV dX12_bow_5 ⟨ev_in (List.mem_of_getElem? (i := 566) (by decide +kernel)) rfl, imX3_bowAt, seX3_bowAt, ini_X3, cdX3_bowAt⟩ ⟨rfl, by decide +kernel, by decide +kernel, by decide +kernel⟩
theorem flX12_141 : ev_FL RX12 141 1 0 := ⟨(RX1, TX1, 2), rfl, by decide, ev_in (List.mem_of_getElem? (i := 307) (by decide +kernel)) rfl, in_X1, rfl⟩
theorem flX12_146 : ev_FL RX12 146 1 1 := ⟨(RX1, TX1, 2), rfl, by decide, ev_in (List.mem_of_getElem? (i := 310) (by decide +kernel)) rfl, in_X1, rfl⟩
theorem kX12_bow_55 : ev_K mX12_bow 55 mX1_need (some RX1) 1 := ev_kV dX12_bow_55 ⟨ev_in (List.mem_of_getElem? (i := 570) (by decide +kernel)) rfl, imX1_need, seX1_need, ini_X1, cdX1_need⟩ ⟨rfl, by decide +kernel, by decide +kernel, by decide +kernel⟩
theorem cdX3_archerAt : ev_code mX3_archerAt ∈ ev_TB := ev_in (List.mem_of_getElem? (i := 584) (by decide +kernel)) rfl
theorem imX3_archerAt : Cond.instanceMethod yX3_archerAt ∈ ev_TB := ev_in (List.mem_of_getElem? (i := 582) (by decide +kernel)) rfl
theorem seX3_archerAt : Cond.selects RX3 yX3_archerAt yX3_archerAt ∈ ev_TB := ev_in (List.mem_of_getElem? (i := 583) (by decide +kernel)) rfl
theorem kX12_archer_5 : ev_K mX12_archer 5 mX3_archerAt (some RX3) 2 := ev_kV dX12_archer_5 ⟨ev_in (List.mem_of_getElem? (i := 581) (by decide +kernel)) rfl, imX3_archerAt, seX3_archerAt, ini_X3, cdX3_archerAt⟩ ⟨rfl, by decide +kernel, by decide +kernel, by decide +kernel⟩
theorem coX12_156 : Cond.constant RX12 156 (-1000000) ∈ ev_TB := ev_in (List.mem_of_getElem? (i := 585) (by decide +kernel)) rfl
theorem flX12_157 : ev_FL RX12 157 0 0 := ⟨(RX0, TX0, 2), rfl, by decide, ev_in (List.mem_of_getElem? (i := 322) (by decide +kernel)) rfl, in_X0, rfl⟩
theorem flX12_162 : ev_FL RX12 162 0 1 := ⟨(RX0, TX0, 2), rfl, by decide, ev_in (List.mem_of_getElem? (i := 324) (by decide +kernel)) rfl, in_X0, rfl⟩
theorem cdX11_change : ev_code mX11_change ∈ ev_TB := ev_in (List.mem_of_getElem? (i := 593) (by decide +kernel)) rfl
theorem imX11_change : Cond.instanceMethod yX11_change ∈ ev_TB := ev_in (List.mem_of_getElem? (i := 591) (by decide +kernel)) rfl
theorem seX11_change : Cond.selects RX11 yX11_change yX11_change ∈ ev_TB := ev_in (List.mem_of_getElem? (i := 592) (by decide +kernel)) rfl
theorem kX12_tune_6 : ev_K mX12_tune 6 mX11_change (some RX11) 3 := ev_kV dX12_tune_6 ⟨ev_in (List.mem_of_getElem? (i := 590) (by decide +kernel)) rfl, imX11_change, seX11_change, ini_X11, cdX11_change⟩ ⟨rfl, by decide +kernel, by decide +kernel, by decide +kernel⟩
theorem kX12_cut_5 : ev_K mX12_cut 5 mX3_stickAt (some RX3) 2 := ev_kV dX12_cut_5 ⟨ev_in (List.mem_of_getElem? (i := 558) (by decide +kernel)) rfl, imX3_stickAt, seX3_stickAt, ini_X3, cdX3_stickAt⟩ ⟨rfl, by decide +kernel, by decide +kernel, by decide +kernel⟩
theorem kX12_cut_16 : ev_K mX12_cut 16 mX9_mostCuts (some RX9) 1 := ev_kV dX12_cut_16 ⟨ev_in (List.mem_of_getElem? (i := 604) (by decide +kernel)) rfl, imX9_mostCuts, seX9_mostCuts, ini_X9, cdX9_mostCuts⟩ ⟨rfl, by decide +kernel, by decide +kernel, by decide +kernel⟩
theorem fpX12_114 : ev_FP RX12 114 9 0 .int false := ⟨(RX9, TX9, 7), tyX9, rfl, by decide, ev_in (List.mem_of_getElem? (i := 232) (by decide +kernel)) rfl, in_X9, rfl, tyX9_ok, nmX9, by decide +kernel, rfl, fun h => by first | rfl | cases h⟩
theorem kX12_scrape_5 : ev_K mX12_scrape 5 mX3_stickAt (some RX3) 2 := ev_kV dX12_scrape_5 ⟨ev_in (List.mem_of_getElem? (i := 558) (by decide +kernel)) rfl, imX3_stickAt, seX3_stickAt, ini_X3, cdX3_stickAt⟩ ⟨rfl, by decide +kernel, by decide +kernel, by decide +kernel⟩
theorem kX12_scrape_16 : ev_K mX12_scrape 16 mX9_mostScrapes (some RX9) 1 := ev_kV dX12_scrape_16 ⟨ev_in (List.mem_of_getElem? (i := 612) (by decide +kernel)) rfl, imX9_mostScrapes, seX9_mostScrapes, ini_X9, cdX9_mostScrapes⟩ ⟨rfl, by decide +kernel, by decide +kernel, by decide +kernel⟩
theorem fpX12_122 : ev_FP RX12 122 9 2 .int false := ⟨(RX9, TX9, 7), tyX9, rfl, by decide, ev_in (List.mem_of_getElem? (i := 239) (by decide +kernel)) rfl, in_X9, rfl, tyX9_ok, nmX9, by decide +kernel, rfl, fun h => by first | rfl | cases h⟩
theorem fpX12_125 : ev_FP RX12 125 9 3 .int false := ⟨(RX9, TX9, 7), tyX9, rfl, by decide, ev_in (List.mem_of_getElem? (i := 242) (by decide +kernel)) rfl, in_X9, rfl, tyX9_ok, nmX9, by decide +kernel, rfl, fun h => by first | rfl | cases h⟩
theorem fpX12_119 : ev_FP RX12 119 9 1 .int false := ⟨(RX9, TX9, 7), tyX9, rfl, by decide, ev_in (List.mem_of_getElem? (i := 236) (by decide +kernel)) rfl, in_X9, rfl, tyX9_ok, nmX9, by decide +kernel, rfl, fun h => by first | rfl | cases h⟩
theorem kX12_load_5 : ev_K mX12_load 5 mX3_stickAt (some RX3) 2 := ev_kV dX12_load_5 ⟨ev_in (List.mem_of_getElem? (i := 558) (by decide +kernel)) rfl, imX3_stickAt, seX3_stickAt, ini_X3, cdX3_stickAt⟩ ⟨rfl, by decide +kernel, by decide +kernel, by decide +kernel⟩
theorem kX12_load_16 : ev_K mX12_load 16 mX9_mostLoads (some RX9) 1 := ev_kV dX12_load_16 ⟨ev_in (List.mem_of_getElem? (i := 621) (by decide +kernel)) rfl, imX9_mostLoads, seX9_mostLoads, ini_X9, cdX9_mostLoads⟩ ⟨rfl, by decide +kernel, by decide +kernel, by decide +kernel⟩
theorem fpX12_128 : ev_FP RX12 128 9 4 .int false := ⟨(RX9, TX9, 7), tyX9, rfl, by decide, ev_in (List.mem_of_getElem? (i := 246) (by decide +kernel)) rfl, in_X9, rfl, tyX9_ok, nmX9, by decide +kernel, rfl, fun h => by first | rfl | cases h⟩
theorem kX12_turn_5 : ev_K mX12_turn 5 mX3_stickAt (some RX3) 2 := ev_kV dX12_turn_5 ⟨ev_in (List.mem_of_getElem? (i := 558) (by decide +kernel)) rfl, imX3_stickAt, seX3_stickAt, ini_X3, cdX3_stickAt⟩ ⟨rfl, by decide +kernel, by decide +kernel, by decide +kernel⟩
theorem fpX12_134 : ev_FP RX12 134 9 6 .int false := ⟨(RX9, TX9, 7), tyX9, rfl, by decide, ev_in (List.mem_of_getElem? (i := 257) (by decide +kernel)) rfl, in_X9, rfl, tyX9_ok, nmX9, by decide +kernel, rfl, fun h => by first | rfl | cases h⟩
theorem kX12_least_5 : ev_K mX12_least 5 mX3_stickAt (some RX3) 2 := ev_kV dX12_least_5 ⟨ev_in (List.mem_of_getElem? (i := 558) (by decide +kernel)) rfl, imX3_stickAt, seX3_stickAt, ini_X3, cdX3_stickAt⟩ ⟨rfl, by decide +kernel, by decide +kernel, by decide +kernel⟩
theorem kX12_least_15 : ev_K mX12_least 15 mX3_bowAt (some RX3) 2 := ev_kV dX12_least_15 ⟨ev_in (List.mem_of_getElem? (i := 566) (by decide +kernel)) rfl, imX3_bowAt, seX3_bowAt, ini_X3, cdX3_bowAt⟩ ⟨rfl, by decide +kernel, by decide +kernel, by decide +kernel⟩
theorem kX12_least_34 : ev_K mX12_least 34 mX12_within none 3 := ev_kS dX12_least_34 ⟨ev_in (List.mem_of_getElem? (i := 401) (by decide +kernel)) rfl, smX12_within, ini_X12, cdX12_within⟩ ⟨by decide +kernel, by decide +kernel, by decide +kernel⟩
theorem flX12_49 : ev_FL RX12 49 12 5 := ⟨(RX12, TX12, 12), rfl, by decide, ev_in (List.mem_of_getElem? (i := 365) (by decide +kernel)) rfl, in_X12, rfl⟩
theorem kX12_least_73 : ev_K mX12_least 73 mX1_need (some RX1) 1 := ev_kV dX12_least_73 ⟨ev_in (List.mem_of_getElem? (i := 570) (by decide +kernel)) rfl, imX1_need, seX1_need, ini_X1, cdX1_need⟩ ⟨rfl, by decide +kernel, by decide +kernel, by decide +kernel⟩
theorem cdX6_find : ev_code mX6_find ∈ ev_TB := ev_in (List.mem_of_getElem? (i := 636) (by decide +kernel)) rfl
theorem imX6_find : Cond.instanceMethod yX6_find ∈ ev_TB := ev_in (List.mem_of_getElem? (i := 634) (by decide +kernel)) rfl
theorem seX6_find : Cond.selects RX6 yX6_find yX6_find ∈ ev_TB := ev_in (List.mem_of_getElem? (i := 635) (by decide +kernel)) rfl
theorem kX12_least_83 : ev_K mX12_least 83 mX6_find (some RX6) 6 := ev_kV dX12_least_83 ⟨ev_in (List.mem_of_getElem? (i := 633) (by decide +kernel)) rfl, imX6_find, seX6_find, ini_X6, cdX6_find⟩ ⟨rfl, by decide +kernel, by decide +kernel, by decide +kernel⟩
theorem cdX6_tell : ev_code mX6_tell ∈ ev_TB := ev_in (List.mem_of_getElem? (i := 674) (by decide +kernel)) rfl
theorem imX6_tell : Cond.instanceMethod yX6_tell ∈ ev_TB := ev_in (List.mem_of_getElem? (i := 672) (by decide +kernel)) rfl
theorem seX6_tell : Cond.selects RX6 yX6_tell yX6_tell ∈ ev_TB := ev_in (List.mem_of_getElem? (i := 673) (by decide +kernel)) rfl
theorem kX12_least_92 : ev_K mX12_least 92 mX6_tell (some RX6) 2 := ev_kV dX12_least_92 ⟨ev_in (List.mem_of_getElem? (i := 671) (by decide +kernel)) rfl, imX6_tell, seX6_tell, ini_X6, cdX6_tell⟩ ⟨rfl, by decide +kernel, by decide +kernel, by decide +kernel⟩
theorem kX12_flight_5 : ev_K mX12_flight 5 mX3_stickAt (some RX3) 2 := ev_kV dX12_flight_5 ⟨ev_in (List.mem_of_getElem? (i := 558) (by decide +kernel)) rfl, imX3_stickAt, seX3_stickAt, ini_X3, cdX3_stickAt⟩ ⟨rfl, by decide +kernel, by decide +kernel, by decide +kernel⟩
theorem kX12_flight_15 : ev_K mX12_flight 15 mX3_bowAt (some RX3) 2 := ev_kV dX12_flight_15 ⟨ev_in (List.mem_of_getElem? (i := 566) (by decide +kernel)) rfl, imX3_bowAt, seX3_bowAt, ini_X3, cdX3_bowAt⟩ ⟨rfl, by decide +kernel, by decide +kernel, by decide +kernel⟩
theorem kX12_flight_35 : ev_K mX12_flight 35 mX9_spine (some RX9) 1 := ev_kV dX12_flight_35 ⟨ev_in (List.mem_of_getElem? (i := 679) (by decide +kernel)) rfl, imX9_spine, seX9_spine, ini_X9, cdX9_spine⟩ ⟨rfl, by decide +kernel, by decide +kernel, by decide +kernel⟩
theorem kX12_flight_40 : ev_K mX12_flight 40 mX1_need (some RX1) 1 := ev_kV dX12_flight_40 ⟨ev_in (List.mem_of_getElem? (i := 570) (by decide +kernel)) rfl, imX1_need, seX1_need, ini_X1, cdX1_need⟩ ⟨rfl, by decide +kernel, by decide +kernel, by decide +kernel⟩
theorem kX12_flight_86 : ev_K mX12_flight 86 mX9_spine (some RX9) 1 := ev_kV dX12_flight_86 ⟨ev_in (List.mem_of_getElem? (i := 679) (by decide +kernel)) rfl, imX9_spine, seX9_spine, ini_X9, cdX9_spine⟩ ⟨rfl, by decide +kernel, by decide +kernel, by decide +kernel⟩
theorem kX12_flight_99 : ev_K mX12_flight 99 mX11_bareOf (some RX11) 2 := ev_kV dX12_flight_99 ⟨ev_in (List.mem_of_getElem? (i := 689) (by decide +kernel)) rfl, imX11_bareOf, seX11_bareOf, ini_X11, cdX11_bareOf⟩ ⟨rfl, by decide +kernel, by decide +kernel, by decide +kernel⟩
theorem kX12_flight_116 : ev_K mX12_flight 116 mX11_goesOf (some RX11) 4 := ev_kV dX12_flight_116 ⟨ev_in (List.mem_of_getElem? (i := 698) (by decide +kernel)) rfl, imX11_goesOf, seX11_goesOf, ini_X11, cdX11_goesOf⟩ ⟨rfl, by decide +kernel, by decide +kernel, by decide +kernel⟩
theorem kX12_flight_129 : ev_K mX12_flight 129 mX1_dropOf (some RX1) 3 := ev_kV dX12_flight_129 ⟨ev_in (List.mem_of_getElem? (i := 713) (by decide +kernel)) rfl, imX1_dropOf, seX1_dropOf, ini_X1, cdX1_dropOf⟩ ⟨rfl, by decide +kernel, by decide +kernel, by decide +kernel⟩
theorem kX12_flight_139 : ev_K mX12_flight 139 mX11_flightOf (some RX11) 2 := ev_kV dX12_flight_139 ⟨ev_in (List.mem_of_getElem? (i := 719) (by decide +kernel)) rfl, imX11_flightOf, seX11_flightOf, ini_X11, cdX11_flightOf⟩ ⟨rfl, by decide +kernel, by decide +kernel, by decide +kernel⟩
theorem kX12_band_5 : ev_K mX12_band 5 mX3_bowAt (some RX3) 2 := ev_kV dX12_band_5 ⟨ev_in (List.mem_of_getElem? (i := 566) (by decide +kernel)) rfl, imX3_bowAt, seX3_bowAt, ini_X3, cdX3_bowAt⟩ ⟨rfl, by decide +kernel, by decide +kernel, by decide +kernel⟩
theorem kX12_band_21 : ev_K mX12_band 21 mX12_within none 3 := ev_kS dX12_band_21 ⟨ev_in (List.mem_of_getElem? (i := 401) (by decide +kernel)) rfl, smX12_within, ini_X12, cdX12_within⟩ ⟨by decide +kernel, by decide +kernel, by decide +kernel⟩
theorem kX12_band_34 : ev_K mX12_band 34 mX12_within none 3 := ev_kS dX12_band_34 ⟨ev_in (List.mem_of_getElem? (i := 401) (by decide +kernel)) rfl, smX12_within, ini_X12, cdX12_within⟩ ⟨by decide +kernel, by decide +kernel, by decide +kernel⟩
theorem kX12_band_44 : ev_K mX12_band 44 mX12_within none 3 := ev_kS dX12_band_44 ⟨ev_in (List.mem_of_getElem? (i := 401) (by decide +kernel)) rfl, smX12_within, ini_X12, cdX12_within⟩ ⟨by decide +kernel, by decide +kernel, by decide +kernel⟩
theorem kX12_band_75 : ev_K mX12_band 75 mX12_spineOf none 3 := ev_kS dX12_band_75 ⟨ev_in (List.mem_of_getElem? (i := 724) (by decide +kernel)) rfl, smX12_spineOf, ini_X12, cdX12_spineOf⟩ ⟨by decide +kernel, by decide +kernel, by decide +kernel⟩
theorem kX12_band_80 : ev_K mX12_band 80 mX1_need (some RX1) 1 := ev_kV dX12_band_80 ⟨ev_in (List.mem_of_getElem? (i := 570) (by decide +kernel)) rfl, imX1_need, seX1_need, ini_X1, cdX1_need⟩ ⟨rfl, by decide +kernel, by decide +kernel, by decide +kernel⟩
theorem kX12_band_84 : ev_K mX12_band 84 mX11_isClean (some RX11) 2 := ev_kV dX12_band_84 ⟨ev_in (List.mem_of_getElem? (i := 725) (by decide +kernel)) rfl, imX11_isClean, seX11_isClean, ini_X11, cdX11_isClean⟩ ⟨rfl, by decide +kernel, by decide +kernel, by decide +kernel⟩
theorem kX12_says_7 : ev_K mX12_says 7 mX12_within none 3 := ev_kS dX12_says_7 ⟨ev_in (List.mem_of_getElem? (i := 401) (by decide +kernel)) rfl, smX12_within, ini_X12, cdX12_within⟩ ⟨by decide +kernel, by decide +kernel, by decide +kernel⟩
theorem kX12_says_17 : ev_K mX12_says 17 mX12_within none 3 := ev_kS dX12_says_17 ⟨ev_in (List.mem_of_getElem? (i := 401) (by decide +kernel)) rfl, smX12_within, ini_X12, cdX12_within⟩ ⟨by decide +kernel, by decide +kernel, by decide +kernel⟩
theorem kX12_says_26 : ev_K mX12_says 26 mX12_within none 3 := ev_kS dX12_says_26 ⟨ev_in (List.mem_of_getElem? (i := 401) (by decide +kernel)) rfl, smX12_within, ini_X12, cdX12_within⟩ ⟨by decide +kernel, by decide +kernel, by decide +kernel⟩
theorem kX12_says_57 : ev_K mX12_says 57 mX11_feathered (some RX11) 3 := ev_kV dX12_says_57 ⟨ev_in (List.mem_of_getElem? (i := 730) (by decide +kernel)) rfl, imX11_feathered, seX11_feathered, ini_X11, cdX11_feathered⟩ ⟨rfl, by decide +kernel, by decide +kernel, by decide +kernel⟩
theorem kX12_says_66 : ev_K mX12_says 66 mX11_bareOf (some RX11) 2 := ev_kV dX12_says_66 ⟨ev_in (List.mem_of_getElem? (i := 689) (by decide +kernel)) rfl, imX11_bareOf, seX11_bareOf, ini_X11, cdX11_bareOf⟩ ⟨rfl, by decide +kernel, by decide +kernel, by decide +kernel⟩
theorem kX12_alike_5 : ev_K mX12_alike 5 mX3_bowAt (some RX3) 2 := ev_kV dX12_alike_5 ⟨ev_in (List.mem_of_getElem? (i := 566) (by decide +kernel)) rfl, imX3_bowAt, seX3_bowAt, ini_X3, cdX3_bowAt⟩ ⟨rfl, by decide +kernel, by decide +kernel, by decide +kernel⟩
theorem kX12_alike_20 : ev_K mX12_alike 20 mX12_within none 3 := ev_kS dX12_alike_20 ⟨ev_in (List.mem_of_getElem? (i := 401) (by decide +kernel)) rfl, smX12_within, ini_X12, cdX12_within⟩ ⟨by decide +kernel, by decide +kernel, by decide +kernel⟩
theorem kX12_alike_31 : ev_K mX12_alike 31 mX12_within none 3 := ev_kS dX12_alike_31 ⟨ev_in (List.mem_of_getElem? (i := 401) (by decide +kernel)) rfl, smX12_within, ini_X12, cdX12_within⟩ ⟨by decide +kernel, by decide +kernel, by decide +kernel⟩
theorem kX12_alike_41 : ev_K mX12_alike 41 mX12_within none 3 := ev_kS dX12_alike_41 ⟨ev_in (List.mem_of_getElem? (i := 401) (by decide +kernel)) rfl, smX12_within, ini_X12, cdX12_within⟩ ⟨by decide +kernel, by decide +kernel, by decide +kernel⟩
theorem flX12_42 : ev_FL RX12 42 12 4 := ⟨(RX12, TX12, 12), rfl, by decide, ev_in (List.mem_of_getElem? (i := 364) (by decide +kernel)) rfl, in_X12, rfl⟩
theorem cdX2_gather : ev_code mX2_gather ∈ ev_TB := ev_in (List.mem_of_getElem? (i := 738) (by decide +kernel)) rfl
theorem imX2_gather : Cond.instanceMethod yX2_gather ∈ ev_TB := ev_in (List.mem_of_getElem? (i := 736) (by decide +kernel)) rfl
theorem seX2_gather : Cond.selects RX2 yX2_gather yX2_gather ∈ ev_TB := ev_in (List.mem_of_getElem? (i := 737) (by decide +kernel)) rfl
theorem kX12_alike_64 : ev_K mX12_alike 64 mX2_gather (some RX2) 5 := ev_kV dX12_alike_64 ⟨ev_in (List.mem_of_getElem? (i := 735) (by decide +kernel)) rfl, imX2_gather, seX2_gather, ini_X2, cdX2_gather⟩ ⟨rfl, by decide +kernel, by decide +kernel, by decide +kernel⟩
theorem cdX2_find : ev_code mX2_find ∈ ev_TB := ev_in (List.mem_of_getElem? (i := 746) (by decide +kernel)) rfl
theorem imX2_find : Cond.instanceMethod yX2_find ∈ ev_TB := ev_in (List.mem_of_getElem? (i := 744) (by decide +kernel)) rfl
theorem seX2_find : Cond.selects RX2 yX2_find yX2_find ∈ ev_TB := ev_in (List.mem_of_getElem? (i := 745) (by decide +kernel)) rfl
theorem kX12_alike_73 : ev_K mX12_alike 73 mX2_find (some RX2) 3 := ev_kV dX12_alike_73 ⟨ev_in (List.mem_of_getElem? (i := 743) (by decide +kernel)) rfl, imX2_find, seX2_find, ini_X2, cdX2_find⟩ ⟨rfl, by decide +kernel, by decide +kernel, by decide +kernel⟩
theorem flX12_221 : ev_FL RX12 221 2 4 := ⟨(RX2, TX2, 6), rfl, by decide, ev_in (List.mem_of_getElem? (i := 162) (by decide +kernel)) rfl, in_X2, rfl⟩
theorem flX12_224 : ev_FL RX12 224 2 5 := ⟨(RX2, TX2, 6), rfl, by decide, ev_in (List.mem_of_getElem? (i := 164) (by decide +kernel)) rfl, in_X2, rfl⟩
theorem kX12_turned_5 : ev_K mX12_turned 5 mX3_bowAt (some RX3) 2 := ev_kV dX12_turned_5 ⟨ev_in (List.mem_of_getElem? (i := 566) (by decide +kernel)) rfl, imX3_bowAt, seX3_bowAt, ini_X3, cdX3_bowAt⟩ ⟨rfl, by decide +kernel, by decide +kernel, by decide +kernel⟩
theorem kX12_turned_20 : ev_K mX12_turned 20 mX12_within none 3 := ev_kS dX12_turned_20 ⟨ev_in (List.mem_of_getElem? (i := 401) (by decide +kernel)) rfl, smX12_within, ini_X12, cdX12_within⟩ ⟨by decide +kernel, by decide +kernel, by decide +kernel⟩
theorem kX12_turned_31 : ev_K mX12_turned 31 mX12_within none 3 := ev_kS dX12_turned_31 ⟨ev_in (List.mem_of_getElem? (i := 401) (by decide +kernel)) rfl, smX12_within, ini_X12, cdX12_within⟩ ⟨by decide +kernel, by decide +kernel, by decide +kernel⟩
theorem kX12_turned_54 : ev_K mX12_turned 54 mX2_gather (some RX2) 5 := ev_kV dX12_turned_54 ⟨ev_in (List.mem_of_getElem? (i := 735) (by decide +kernel)) rfl, imX2_gather, seX2_gather, ini_X2, cdX2_gather⟩ ⟨rfl, by decide +kernel, by decide +kernel, by decide +kernel⟩
theorem kX12_turned_63 : ev_K mX12_turned 63 mX2_find (some RX2) 3 := ev_kV dX12_turned_63 ⟨ev_in (List.mem_of_getElem? (i := 743) (by decide +kernel)) rfl, imX2_find, seX2_find, ini_X2, cdX2_find⟩ ⟨rfl, by decide +kernel, by decide +kernel, by decide +kernel⟩
theorem kX12_wreck_5 : ev_K mX12_wreck 5 mX3_stickAt (some RX3) 2 := ev_kV dX12_wreck_5 ⟨ev_in (List.mem_of_getElem? (i := 558) (by decide +kernel)) rfl, imX3_stickAt, seX3_stickAt, ini_X3, cdX3_stickAt⟩ ⟨rfl, by decide +kernel, by decide +kernel, by decide +kernel⟩
theorem kX12_wreck_19 : ev_K mX12_wreck 19 mX12_within none 3 := ev_kS dX12_wreck_19 ⟨ev_in (List.mem_of_getElem? (i := 401) (by decide +kernel)) rfl, smX12_within, ini_X12, cdX12_within⟩ ⟨by decide +kernel, by decide +kernel, by decide +kernel⟩
theorem kX12_wreck_28 : ev_K mX12_wreck 28 mX12_within none 3 := ev_kS dX12_wreck_28 ⟨ev_in (List.mem_of_getElem? (i := 401) (by decide +kernel)) rfl, smX12_within, ini_X12, cdX12_within⟩ ⟨by decide +kernel, by decide +kernel, by decide +kernel⟩
theorem kX12_wreck_57 : ev_K mX12_wreck 57 mX9_spine (some RX9) 1 := ev_kV dX12_wreck_57 ⟨ev_in (List.mem_of_getElem? (i := 679) (by decide +kernel)) rfl, imX9_spine, seX9_spine, ini_X9, cdX9_spine⟩ ⟨rfl, by decide +kernel, by decide +kernel, by decide +kernel⟩
theorem kX12_wreck_63 : ev_K mX12_wreck 63 mX12_needOf none 2 := ev_kS dX12_wreck_63 ⟨ev_in (List.mem_of_getElem? (i := 766) (by decide +kernel)) rfl, smX12_needOf, ini_X12, cdX12_needOf⟩ ⟨by decide +kernel, by decide +kernel, by decide +kernel⟩
theorem kX12_wreck_67 : ev_K mX12_wreck 67 mX11_isClean (some RX11) 2 := ev_kV dX12_wreck_67 ⟨ev_in (List.mem_of_getElem? (i := 725) (by decide +kernel)) rfl, imX11_isClean, seX11_isClean, ini_X11, cdX11_isClean⟩ ⟨rfl, by decide +kernel, by decide +kernel, by decide +kernel⟩
theorem kX12_feather_5 : ev_K mX12_feather 5 mX3_stickAt (some RX3) 2 := ev_kV dX12_feather_5 ⟨ev_in (List.mem_of_getElem? (i := 558) (by decide +kernel)) rfl, imX3_stickAt, seX3_stickAt, ini_X3, cdX3_stickAt⟩ ⟨rfl, by decide +kernel, by decide +kernel, by decide +kernel⟩
theorem kX12_feather_15 : ev_K mX12_feather 15 mX3_bowAt (some RX3) 2 := ev_kV dX12_feather_15 ⟨ev_in (List.mem_of_getElem? (i := 566) (by decide +kernel)) rfl, imX3_bowAt, seX3_bowAt, ini_X3, cdX3_bowAt⟩ ⟨rfl, by decide +kernel, by decide +kernel, by decide +kernel⟩
theorem kX12_feather_34 : ev_K mX12_feather 34 mX12_within none 3 := ev_kS dX12_feather_34 ⟨ev_in (List.mem_of_getElem? (i := 401) (by decide +kernel)) rfl, smX12_within, ini_X12, cdX12_within⟩ ⟨by decide +kernel, by decide +kernel, by decide +kernel⟩
theorem kX12_feather_44 : ev_K mX12_feather 44 mX9_spine (some RX9) 1 := ev_kV dX12_feather_44 ⟨ev_in (List.mem_of_getElem? (i := 679) (by decide +kernel)) rfl, imX9_spine, seX9_spine, ini_X9, cdX9_spine⟩ ⟨rfl, by decide +kernel, by decide +kernel, by decide +kernel⟩
theorem kX12_feather_49 : ev_K mX12_feather 49 mX1_need (some RX1) 1 := ev_kV dX12_feather_49 ⟨ev_in (List.mem_of_getElem? (i := 570) (by decide +kernel)) rfl, imX1_need, seX1_need, ini_X1, cdX1_need⟩ ⟨rfl, by decide +kernel, by decide +kernel, by decide +kernel⟩
theorem kX12_feather_81 : ev_K mX12_feather 81 mX11_goesOf (some RX11) 4 := ev_kV dX12_feather_81 ⟨ev_in (List.mem_of_getElem? (i := 698) (by decide +kernel)) rfl, imX11_goesOf, seX11_goesOf, ini_X11, cdX11_goesOf⟩ ⟨rfl, by decide +kernel, by decide +kernel, by decide +kernel⟩
theorem maX12_230 : Cond.methodLink RX12 230 Lib.Math.abs.name ∈ ev_TB ∧ Cond.static Lib.Math.abs.name ∈ ev_TB ∧ Cond.initialized "java/lang/Math" ∈ ev_TB ∧ Cond.code Lib.Math.abs.name Lib.Math.abs.code 1 (some .int) ∈ ev_TB := ⟨ev_in (List.mem_of_getElem? (i := 771) (by decide +kernel)) rfl, sMath_abs⟩
theorem kX12_feather_93 : ev_K mX12_feather 93 mX1_dropOf (some RX1) 3 := ev_kV dX12_feather_93 ⟨ev_in (List.mem_of_getElem? (i := 713) (by decide +kernel)) rfl, imX1_dropOf, seX1_dropOf, ini_X1, cdX1_dropOf⟩ ⟨rfl, by decide +kernel, by decide +kernel, by decide +kernel⟩
theorem kX12_warm_5 : ev_K mX12_warm 5 mX3_bowAt (some RX3) 2 := ev_kV dX12_warm_5 ⟨ev_in (List.mem_of_getElem? (i := 566) (by decide +kernel)) rfl, imX3_bowAt, seX3_bowAt, ini_X3, cdX3_bowAt⟩ ⟨rfl, by decide +kernel, by decide +kernel, by decide +kernel⟩
theorem kX12_warm_19 : ev_K mX12_warm 19 mX12_within none 3 := ev_kS dX12_warm_19 ⟨ev_in (List.mem_of_getElem? (i := 401) (by decide +kernel)) rfl, smX12_within, ini_X12, cdX12_within⟩ ⟨by decide +kernel, by decide +kernel, by decide +kernel⟩
theorem kX12_warm_28 : ev_K mX12_warm 28 mX12_within none 3 := ev_kS dX12_warm_28 ⟨ev_in (List.mem_of_getElem? (i := 401) (by decide +kernel)) rfl, smX12_within, ini_X12, cdX12_within⟩ ⟨by decide +kernel, by decide +kernel, by decide +kernel⟩
theorem maX12_235 : Cond.methodLink RX12 235 Lib.Math.max.name ∈ ev_TB ∧ Cond.static Lib.Math.max.name ∈ ev_TB ∧ Cond.initialized "java/lang/Math" ∈ ev_TB ∧ Cond.code Lib.Math.max.name Lib.Math.max.code 2 (some .int) ∈ ev_TB := ⟨ev_in (List.mem_of_getElem? (i := 776) (by decide +kernel)) rfl, sMath_max⟩
theorem kX12_warm_52 : ev_K mX12_warm 52 mX12_needOf none 2 := ev_kS dX12_warm_52 ⟨ev_in (List.mem_of_getElem? (i := 766) (by decide +kernel)) rfl, smX12_needOf, ini_X12, cdX12_needOf⟩ ⟨by decide +kernel, by decide +kernel, by decide +kernel⟩
theorem flX12_238 : ev_FL RX12 238 3 3 := ⟨(RX3, TX3, 6), rfl, by decide, ev_in (List.mem_of_getElem? (i := 340) (by decide +kernel)) rfl, in_X3, rfl⟩
theorem flX12_241 : ev_FL RX12 241 3 0 := ⟨(RX3, TX3, 6), rfl, by decide, ev_in (List.mem_of_getElem? (i := 333) (by decide +kernel)) rfl, in_X3, rfl⟩
theorem kX12_warm_85 : ev_K mX12_warm 85 mX9_spine (some RX9) 1 := ev_kV dX12_warm_85 ⟨ev_in (List.mem_of_getElem? (i := 679) (by decide +kernel)) rfl, imX9_spine, seX9_spine, ini_X9, cdX9_spine⟩ ⟨rfl, by decide +kernel, by decide +kernel, by decide +kernel⟩
theorem kX12_warm_98 : ev_K mX12_warm 98 mX1_need (some RX1) 1 := ev_kV dX12_warm_98 ⟨ev_in (List.mem_of_getElem? (i := 570) (by decide +kernel)) rfl, imX1_need, seX1_need, ini_X1, cdX1_need⟩ ⟨rfl, by decide +kernel, by decide +kernel, by decide +kernel⟩
theorem kX12_warm_102 : ev_K mX12_warm 102 mX11_isClean (some RX11) 2 := ev_kV dX12_warm_102 ⟨ev_in (List.mem_of_getElem? (i := 725) (by decide +kernel)) rfl, imX11_isClean, seX11_isClean, ini_X11, cdX11_isClean⟩ ⟨rfl, by decide +kernel, by decide +kernel, by decide +kernel⟩
theorem kX12_warm_116 : ev_K mX12_warm 116 mX11_isClean (some RX11) 2 := ev_kV dX12_warm_116 ⟨ev_in (List.mem_of_getElem? (i := 725) (by decide +kernel)) rfl, imX11_isClean, seX11_isClean, ini_X11, cdX11_isClean⟩ ⟨rfl, by decide +kernel, by decide +kernel, by decide +kernel⟩
theorem kX12_shoot_5 : ev_K mX12_shoot 5 mX3_stickAt (some RX3) 2 := ev_kV dX12_shoot_5 ⟨ev_in (List.mem_of_getElem? (i := 558) (by decide +kernel)) rfl, imX3_stickAt, seX3_stickAt, ini_X3, cdX3_stickAt⟩ ⟨rfl, by decide +kernel, by decide +kernel, by decide +kernel⟩
theorem kX12_shoot_15 : ev_K mX12_shoot 15 mX3_bowAt (some RX3) 2 := ev_kV dX12_shoot_15 ⟨ev_in (List.mem_of_getElem? (i := 566) (by decide +kernel)) rfl, imX3_bowAt, seX3_bowAt, ini_X3, cdX3_bowAt⟩ ⟨rfl, by decide +kernel, by decide +kernel, by decide +kernel⟩
theorem kX12_shoot_25 : ev_K mX12_shoot 25 mX3_archerAt (some RX3) 2 := ev_kV dX12_shoot_25 ⟨ev_in (List.mem_of_getElem? (i := 581) (by decide +kernel)) rfl, imX3_archerAt, seX3_archerAt, ini_X3, cdX3_archerAt⟩ ⟨rfl, by decide +kernel, by decide +kernel, by decide +kernel⟩
theorem flX12_245 : ev_FL RX12 245 8 9 := ⟨(RX8, TX8, 10), rfl, by decide, ev_in (List.mem_of_getElem? (i := 129) (by decide +kernel)) rfl, in_X8, rfl⟩
theorem flX12_82 : ev_FL RX12 82 12 11 := ⟨(RX12, TX12, 12), rfl, by decide, ev_in (List.mem_of_getElem? (i := 371) (by decide +kernel)) rfl, in_X12, rfl⟩
theorem coX12_246 : Cond.constant RX12 246 (1103515245) ∈ ev_TB := ev_in (List.mem_of_getElem? (i := 783) (by decide +kernel)) rfl
theorem cdX12_leftOver : ev_code mX12_leftOver ∈ ev_TB := ev_in (List.mem_of_getElem? (i := 786) (by decide +kernel)) rfl
theorem smX12_leftOver : Cond.static yX12_leftOver ∈ ev_TB := ev_in (List.mem_of_getElem? (i := 785) (by decide +kernel)) rfl
theorem kX12_shoot_91 : ev_K mX12_shoot 91 mX12_leftOver none 2 := ev_kS dX12_shoot_91 ⟨ev_in (List.mem_of_getElem? (i := 784) (by decide +kernel)) rfl, smX12_leftOver, ini_X12, cdX12_leftOver⟩ ⟨by decide +kernel, by decide +kernel, by decide +kernel⟩
theorem kX12_shoot_104 : ev_K mX12_shoot 104 mX9_spine (some RX9) 1 := ev_kV dX12_shoot_104 ⟨ev_in (List.mem_of_getElem? (i := 679) (by decide +kernel)) rfl, imX9_spine, seX9_spine, ini_X9, cdX9_spine⟩ ⟨rfl, by decide +kernel, by decide +kernel, by decide +kernel⟩
theorem kX12_shoot_109 : ev_K mX12_shoot 109 mX1_need (some RX1) 1 := ev_kV dX12_shoot_109 ⟨ev_in (List.mem_of_getElem? (i := 570) (by decide +kernel)) rfl, imX1_need, seX1_need, ini_X1, cdX1_need⟩ ⟨rfl, by decide +kernel, by decide +kernel, by decide +kernel⟩
theorem kX12_shoot_118 : ev_K mX12_shoot 118 mX11_goesOf (some RX11) 4 := ev_kV dX12_shoot_118 ⟨ev_in (List.mem_of_getElem? (i := 698) (by decide +kernel)) rfl, imX11_goesOf, seX11_goesOf, ini_X11, cdX11_goesOf⟩ ⟨rfl, by decide +kernel, by decide +kernel, by decide +kernel⟩
theorem kX12_shoot_160 : ev_K mX12_shoot 160 mX1_dropOf (some RX1) 3 := ev_kV dX12_shoot_160 ⟨ev_in (List.mem_of_getElem? (i := 713) (by decide +kernel)) rfl, imX1_dropOf, seX1_dropOf, ini_X1, cdX1_dropOf⟩ ⟨rfl, by decide +kernel, by decide +kernel, by decide +kernel⟩
theorem cdX8_add : ev_code mX8_add ∈ ev_TB := ev_in (List.mem_of_getElem? (i := 790) (by decide +kernel)) rfl
theorem imX8_add : Cond.instanceMethod yX8_add ∈ ev_TB := ev_in (List.mem_of_getElem? (i := 788) (by decide +kernel)) rfl
theorem seX8_add : Cond.selects RX8 yX8_add yX8_add ∈ ev_TB := ev_in (List.mem_of_getElem? (i := 789) (by decide +kernel)) rfl
theorem kX12_shoot_163 : ev_K mX12_shoot 163 mX8_add (some RX8) 6 := ev_kV dX12_shoot_163 ⟨ev_in (List.mem_of_getElem? (i := 787) (by decide +kernel)) rfl, imX8_add, seX8_add, ini_X8, cdX8_add⟩ ⟨rfl, by decide +kernel, by decide +kernel, by decide +kernel⟩
theorem cdX8_tell : ev_code mX8_tell ∈ ev_TB := ev_in (List.mem_of_getElem? (i := 798) (by decide +kernel)) rfl
theorem imX8_tell : Cond.instanceMethod yX8_tell ∈ ev_TB := ev_in (List.mem_of_getElem? (i := 796) (by decide +kernel)) rfl
theorem seX8_tell : Cond.selects RX8 yX8_tell yX8_tell ∈ ev_TB := ev_in (List.mem_of_getElem? (i := 797) (by decide +kernel)) rfl
theorem kX12_shot_6 : ev_K mX12_shot 6 mX8_tell (some RX8) 3 := ev_kV dX12_shot_6 ⟨ev_in (List.mem_of_getElem? (i := 795) (by decide +kernel)) rfl, imX8_tell, seX8_tell, ini_X8, cdX8_tell⟩ ⟨rfl, by decide +kernel, by decide +kernel, by decide +kernel⟩
theorem kX12_wipe_4 : ev_K mX12_wipe 4 mX8_empty (some RX8) 1 := ev_kV dX12_wipe_4 ⟨ev_in (List.mem_of_getElem? (i := 549) (by decide +kernel)) rfl, imX8_empty, seX8_empty, ini_X8, cdX8_empty⟩ ⟨rfl, by decide +kernel, by decide +kernel, by decide +kernel⟩
theorem cdX8_partedBy : ev_code mX8_partedBy ∈ ev_TB := ev_in (List.mem_of_getElem? (i := 811) (by decide +kernel)) rfl
theorem imX8_partedBy : Cond.instanceMethod yX8_partedBy ∈ ev_TB := ev_in (List.mem_of_getElem? (i := 809) (by decide +kernel)) rfl
theorem seX8_partedBy : Cond.selects RX8 yX8_partedBy yX8_partedBy ∈ ev_TB := ev_in (List.mem_of_getElem? (i := 810) (by decide +kernel)) rfl
theorem kX12_parted_4 : ev_K mX12_parted 4 mX8_partedBy (some RX8) 1 := ev_kV dX12_parted_4 ⟨ev_in (List.mem_of_getElem? (i := 808) (by decide +kernel)) rfl, imX8_partedBy, seX8_partedBy, ini_X8, cdX8_partedBy⟩ ⟨rfl, by decide +kernel, by decide +kernel, by decide +kernel⟩
theorem kX12_spread_5 : ev_K mX12_spread 5 mX3_stickAt (some RX3) 2 := ev_kV dX12_spread_5 ⟨ev_in (List.mem_of_getElem? (i := 558) (by decide +kernel)) rfl, imX3_stickAt, seX3_stickAt, ini_X3, cdX3_stickAt⟩ ⟨rfl, by decide +kernel, by decide +kernel, by decide +kernel⟩
theorem cdX8_spreadOf : ev_code mX8_spreadOf ∈ ev_TB := ev_in (List.mem_of_getElem? (i := 834) (by decide +kernel)) rfl
theorem imX8_spreadOf : Cond.instanceMethod yX8_spreadOf ∈ ev_TB := ev_in (List.mem_of_getElem? (i := 832) (by decide +kernel)) rfl
theorem seX8_spreadOf : Cond.selects RX8 yX8_spreadOf yX8_spreadOf ∈ ev_TB := ev_in (List.mem_of_getElem? (i := 833) (by decide +kernel)) rfl
theorem kX12_spread_18 : ev_K mX12_spread 18 mX8_spreadOf (some RX8) 2 := ev_kV dX12_spread_18 ⟨ev_in (List.mem_of_getElem? (i := 831) (by decide +kernel)) rfl, imX8_spreadOf, seX8_spreadOf, ini_X8, cdX8_spreadOf⟩ ⟨rfl, by decide +kernel, by decide +kernel, by decide +kernel⟩
theorem kX12_out_5 : ev_K mX12_out 5 mX3_stickAt (some RX3) 2 := ev_kV dX12_out_5 ⟨ev_in (List.mem_of_getElem? (i := 558) (by decide +kernel)) rfl, imX3_stickAt, seX3_stickAt, ini_X3, cdX3_stickAt⟩ ⟨rfl, by decide +kernel, by decide +kernel, by decide +kernel⟩
theorem kX12_out_15 : ev_K mX12_out 15 mX12_within none 3 := ev_kS dX12_out_15 ⟨ev_in (List.mem_of_getElem? (i := 401) (by decide +kernel)) rfl, smX12_within, ini_X12, cdX12_within⟩ ⟨by decide +kernel, by decide +kernel, by decide +kernel⟩
theorem cdX8_mayLeave : ev_code mX8_mayLeave ∈ ev_TB := ev_in (List.mem_of_getElem? (i := 844) (by decide +kernel)) rfl
theorem imX8_mayLeave : Cond.instanceMethod yX8_mayLeave ∈ ev_TB := ev_in (List.mem_of_getElem? (i := 842) (by decide +kernel)) rfl
theorem seX8_mayLeave : Cond.selects RX8 yX8_mayLeave yX8_mayLeave ∈ ev_TB := ev_in (List.mem_of_getElem? (i := 843) (by decide +kernel)) rfl
theorem kX12_out_29 : ev_K mX12_out 29 mX8_mayLeave (some RX8) 3 := ev_kV dX12_out_29 ⟨ev_in (List.mem_of_getElem? (i := 841) (by decide +kernel)) rfl, imX8_mayLeave, seX8_mayLeave, ini_X8, cdX8_mayLeave⟩ ⟨rfl, by decide +kernel, by decide +kernel, by decide +kernel⟩
theorem kX12_rate_5 : ev_K mX12_rate 5 mX3_stickAt (some RX3) 2 := ev_kV dX12_rate_5 ⟨ev_in (List.mem_of_getElem? (i := 558) (by decide +kernel)) rfl, imX3_stickAt, seX3_stickAt, ini_X3, cdX3_stickAt⟩ ⟨rfl, by decide +kernel, by decide +kernel, by decide +kernel⟩
theorem kX12_rate_14 : ev_K mX12_rate 14 mX3_bowAt (some RX3) 2 := ev_kV dX12_rate_14 ⟨ev_in (List.mem_of_getElem? (i := 566) (by decide +kernel)) rfl, imX3_bowAt, seX3_bowAt, ini_X3, cdX3_bowAt⟩ ⟨rfl, by decide +kernel, by decide +kernel, by decide +kernel⟩
theorem flX12_58 : ev_FL RX12 58 12 6 := ⟨(RX12, TX12, 12), rfl, by decide, ev_in (List.mem_of_getElem? (i := 366) (by decide +kernel)) rfl, in_X12, rfl⟩
theorem cdX5_rateAs : ev_code mX5_rateAs ∈ ev_TB := ev_in (List.mem_of_getElem? (i := 860) (by decide +kernel)) rfl
theorem imX5_rateAs : Cond.instanceMethod yX5_rateAs ∈ ev_TB := ev_in (List.mem_of_getElem? (i := 858) (by decide +kernel)) rfl
theorem seX5_rateAs : Cond.selects RX5 yX5_rateAs yX5_rateAs ∈ ev_TB := ev_in (List.mem_of_getElem? (i := 859) (by decide +kernel)) rfl
theorem kX12_rate_39 : ev_K mX12_rate 39 mX5_rateAs (some RX5) 4 := ev_kV dX12_rate_39 ⟨ev_in (List.mem_of_getElem? (i := 857) (by decide +kernel)) rfl, imX5_rateAs, seX5_rateAs, ini_X5, cdX5_rateAs⟩ ⟨rfl, by decide +kernel, by decide +kernel, by decide +kernel⟩
theorem cdX12_imageAt : ev_code mX12_imageAt ∈ ev_TB := ev_in (List.mem_of_getElem? (i := 901) (by decide +kernel)) rfl
theorem imX12_imageAt : Cond.instanceMethod yX12_imageAt ∈ ev_TB := ev_in (List.mem_of_getElem? (i := 900) (by decide +kernel)) rfl
theorem seX12_imageAt : Cond.selects RX12 yX12_imageAt yX12_imageAt ∈ ev_TB := ev_in (List.mem_of_getElem? (i := 21) (by decide +kernel)) rfl
theorem kX12_keep_2 : ev_K mX12_keep 2 mX12_imageAt (some RX12) 2 := ev_kV dX12_keep_2 ⟨ev_in (List.mem_of_getElem? (i := 898) (by decide +kernel)) rfl, imX12_imageAt, seX12_imageAt, ini_X12, cdX12_imageAt⟩ ⟨rfl, by decide +kernel, by decide +kernel, by decide +kernel⟩
theorem cdX4_take : ev_code mX4_take ∈ ev_TB := ev_in (List.mem_of_getElem? (i := 905) (by decide +kernel)) rfl
theorem imX4_take : Cond.instanceMethod yX4_take ∈ ev_TB := ev_in (List.mem_of_getElem? (i := 903) (by decide +kernel)) rfl
theorem seX4_take : Cond.selects RX4 yX4_take yX4_take ∈ ev_TB := ev_in (List.mem_of_getElem? (i := 904) (by decide +kernel)) rfl
theorem kX12_keep_25 : ev_K mX12_keep 25 mX4_take (some RX4) 4 := ev_kV dX12_keep_25 ⟨ev_in (List.mem_of_getElem? (i := 902) (by decide +kernel)) rfl, imX4_take, seX4_take, ini_X4, cdX4_take⟩ ⟨rfl, by decide +kernel, by decide +kernel, by decide +kernel⟩
theorem kX12_back_2 : ev_K mX12_back 2 mX12_imageAt (some RX12) 2 := ev_kV dX12_back_2 ⟨ev_in (List.mem_of_getElem? (i := 898) (by decide +kernel)) rfl, imX12_imageAt, seX12_imageAt, ini_X12, cdX12_imageAt⟩ ⟨rfl, by decide +kernel, by decide +kernel, by decide +kernel⟩
theorem flX12_106 : ev_FL RX12 106 4 3 := ⟨(RX4, TX4, 4), rfl, by decide, ev_in (List.mem_of_getElem? (i := 278) (by decide +kernel)) rfl, in_X4, rfl⟩
theorem cdX4_give : ev_code mX4_give ∈ ev_TB := ev_in (List.mem_of_getElem? (i := 921) (by decide +kernel)) rfl
theorem imX4_give : Cond.instanceMethod yX4_give ∈ ev_TB := ev_in (List.mem_of_getElem? (i := 919) (by decide +kernel)) rfl
theorem seX4_give : Cond.selects RX4 yX4_give yX4_give ∈ ev_TB := ev_in (List.mem_of_getElem? (i := 920) (by decide +kernel)) rfl
theorem kX12_back_31 : ev_K mX12_back 31 mX4_give (some RX4) 3 := ev_kV dX12_back_31 ⟨ev_in (List.mem_of_getElem? (i := 918) (by decide +kernel)) rfl, imX4_give, seX4_give, ini_X4, cdX4_give⟩ ⟨rfl, by decide +kernel, by decide +kernel, by decide +kernel⟩
theorem flX12_280 : ev_FL RX12 280 4 2 := ⟨(RX4, TX4, 4), rfl, by decide, ev_in (List.mem_of_getElem? (i := 276) (by decide +kernel)) rfl, in_X4, rfl⟩
theorem flX12_283 : ev_FL RX12 283 3 4 := ⟨(RX3, TX3, 6), rfl, by decide, ev_in (List.mem_of_getElem? (i := 343) (by decide +kernel)) rfl, in_X3, rfl⟩
theorem flX12_286 : ev_FL RX12 286 3 5 := ⟨(RX3, TX3, 6), rfl, by decide, ev_in (List.mem_of_getElem? (i := 346) (by decide +kernel)) rfl, in_X3, rfl⟩
theorem flX12_289 : ev_FL RX12 289 5 1 := ⟨(RX5, TX5, 2), rfl, by decide, ev_in (List.mem_of_getElem? (i := 208) (by decide +kernel)) rfl, in_X5, rfl⟩
theorem kX12_spineOf_5 : ev_K mX12_spineOf 5 mX12_divided none 2 := ev_kS dX12_spineOf_5 ⟨ev_in (List.mem_of_getElem? (i := 652) (by decide +kernel)) rfl, smX12_divided, ini_X12, cdX12_divided⟩ ⟨by decide +kernel, by decide +kernel, by decide +kernel⟩
theorem obX13_1 : Cond.methodLink RX13 1 objectInit ∈ ev_TB ∧ Cond.instanceMethod objectInit ∈ ev_TB ∧ Cond.code objectInit ⟨#[0xb1]⟩ 1 none ∈ ev_TB := ⟨ev_in (List.mem_of_getElem? (i := 935) (by decide +kernel)) rfl, imOb, cdOb⟩
theorem fpX13_7 : ev_FP RX13 7 13 2 (.array .int) true := ⟨(RX13, TX13, 36), tyX13, rfl, by decide, ev_in (List.mem_of_getElem? (i := 938) (by decide +kernel)) rfl, in_X13, rfl, tyX13_ok, nmX13, by decide +kernel, rfl, fun h => by first | rfl | cases h⟩
theorem fpX13_13 : ev_FP RX13 13 13 9 (.array .int) true := ⟨(RX13, TX13, 36), tyX13, rfl, by decide, ev_in (List.mem_of_getElem? (i := 945) (by decide +kernel)) rfl, in_X13, rfl, tyX13_ok, nmX13, by decide +kernel, rfl, fun h => by first | rfl | cases h⟩
theorem fpX13_16 : ev_FP RX13 16 13 10 (.array .int) true := ⟨(RX13, TX13, 36), tyX13, rfl, by decide, ev_in (List.mem_of_getElem? (i := 946) (by decide +kernel)) rfl, in_X13, rfl, tyX13_ok, nmX13, by decide +kernel, rfl, fun h => by first | rfl | cases h⟩
theorem fpX13_19 : ev_FP RX13 19 13 11 (.array .boolean) true := ⟨(RX13, TX13, 36), tyX13, rfl, by decide, ev_in (List.mem_of_getElem? (i := 947) (by decide +kernel)) rfl, in_X13, rfl, tyX13_ok, nmX13, by decide +kernel, rfl, fun h => by first | rfl | cases h⟩
theorem fpX13_23 : ev_FP RX13 23 13 15 (.array .int) true := ⟨(RX13, TX13, 36), tyX13, rfl, by decide, ev_in (List.mem_of_getElem? (i := 951) (by decide +kernel)) rfl, in_X13, rfl, tyX13_ok, nmX13, by decide +kernel, rfl, fun h => by first | rfl | cases h⟩
theorem fpX13_26 : ev_FP RX13 26 13 16 (.array .int) true := ⟨(RX13, TX13, 36), tyX13, rfl, by decide, ev_in (List.mem_of_getElem? (i := 952) (by decide +kernel)) rfl, in_X13, rfl, tyX13_ok, nmX13, by decide +kernel, rfl, fun h => by first | rfl | cases h⟩
theorem fpX13_29 : ev_FP RX13 29 13 17 (.array .int) true := ⟨(RX13, TX13, 36), tyX13, rfl, by decide, ev_in (List.mem_of_getElem? (i := 953) (by decide +kernel)) rfl, in_X13, rfl, tyX13_ok, nmX13, by decide +kernel, rfl, fun h => by first | rfl | cases h⟩
theorem fpX13_32 : ev_FP RX13 32 13 18 (.array .int) true := ⟨(RX13, TX13, 36), tyX13, rfl, by decide, ev_in (List.mem_of_getElem? (i := 954) (by decide +kernel)) rfl, in_X13, rfl, tyX13_ok, nmX13, by decide +kernel, rfl, fun h => by first | rfl | cases h⟩
theorem fpX13_35 : ev_FP RX13 35 13 19 (.array .int) true := ⟨(RX13, TX13, 36), tyX13, rfl, by decide, ev_in (List.mem_of_getElem? (i := 955) (by decide +kernel)) rfl, in_X13, rfl, tyX13_ok, nmX13, by decide +kernel, rfl, fun h => by first | rfl | cases h⟩
theorem fpX13_38 : ev_FP RX13 38 13 23 (.array .int) true := ⟨(RX13, TX13, 36), tyX13, rfl, by decide, ev_in (List.mem_of_getElem? (i := 959) (by decide +kernel)) rfl, in_X13, rfl, tyX13_ok, nmX13, by decide +kernel, rfl, fun h => by first | rfl | cases h⟩
theorem fpX13_41 : ev_FP RX13 41 13 24 (.array .int) true := ⟨(RX13, TX13, 36), tyX13, rfl, by decide, ev_in (List.mem_of_getElem? (i := 960) (by decide +kernel)) rfl, in_X13, rfl, tyX13_ok, nmX13, by decide +kernel, rfl, fun h => by first | rfl | cases h⟩
theorem fpX13_44 : ev_FP RX13 44 13 31 (.array .int) true := ⟨(RX13, TX13, 36), tyX13, rfl, by decide, ev_in (List.mem_of_getElem? (i := 967) (by decide +kernel)) rfl, in_X13, rfl, tyX13_ok, nmX13, by decide +kernel, rfl, fun h => by first | rfl | cases h⟩
theorem fpX13_47 : ev_FP RX13 47 13 32 (.array .int) true := ⟨(RX13, TX13, 36), tyX13, rfl, by decide, ev_in (List.mem_of_getElem? (i := 968) (by decide +kernel)) rfl, in_X13, rfl, tyX13_ok, nmX13, by decide +kernel, rfl, fun h => by first | rfl | cases h⟩
theorem fpX13_50 : ev_FP RX13 50 13 33 (.array .int) true := ⟨(RX13, TX13, 36), tyX13, rfl, by decide, ev_in (List.mem_of_getElem? (i := 969) (by decide +kernel)) rfl, in_X13, rfl, tyX13_ok, nmX13, by decide +kernel, rfl, fun h => by first | rfl | cases h⟩
theorem flX13_38 : ev_FL RX13 38 13 23 := ⟨(RX13, TX13, 36), rfl, by decide, ev_in (List.mem_of_getElem? (i := 959) (by decide +kernel)) rfl, in_X13, rfl⟩
theorem flX13_13 : ev_FL RX13 13 13 9 := ⟨(RX13, TX13, 36), rfl, by decide, ev_in (List.mem_of_getElem? (i := 945) (by decide +kernel)) rfl, in_X13, rfl⟩
theorem fpX13_53 : ev_FP RX13 53 13 0 .int false := ⟨(RX13, TX13, 36), tyX13, rfl, by decide, ev_in (List.mem_of_getElem? (i := 936) (by decide +kernel)) rfl, in_X13, rfl, tyX13_ok, nmX13, by decide +kernel, rfl, fun h => by first | rfl | cases h⟩
theorem cdX13_in : ev_code mX13_in ∈ ev_TB := ev_in (List.mem_of_getElem? (i := 1052) (by decide +kernel)) rfl
theorem ini_X13 : Cond.initialized RX13 ∈ ev_TB := ev_in (List.mem_of_getElem? (i := 56) (by decide +kernel)) rfl
theorem smX13_in : Cond.static yX13_in ∈ ev_TB := ev_in (List.mem_of_getElem? (i := 1051) (by decide +kernel)) rfl
theorem kX13_type_9 : ev_K mX13_type 9 mX13_in none 3 := ev_kS dX13_type_9 ⟨ev_in (List.mem_of_getElem? (i := 1050) (by decide +kernel)) rfl, smX13_in, ini_X13, cdX13_in⟩ ⟨by decide +kernel, by decide +kernel, by decide +kernel⟩
theorem flX13_61 : ev_FL RX13 61 13 3 := ⟨(RX13, TX13, 36), rfl, by decide, ev_in (List.mem_of_getElem? (i := 939) (by decide +kernel)) rfl, in_X13, rfl⟩
theorem flX13_7 : ev_FL RX13 7 13 2 := ⟨(RX13, TX13, 36), rfl, by decide, ev_in (List.mem_of_getElem? (i := 938) (by decide +kernel)) rfl, in_X13, rfl⟩
theorem coX13_64 : Cond.constantLong RX13 64 (255) ∈ ev_TB := ev_in (List.mem_of_getElem? (i := 1053) (by decide +kernel)) rfl
theorem fpX13_61 : ev_FP RX13 61 13 3 .int false := ⟨(RX13, TX13, 36), tyX13, rfl, by decide, ev_in (List.mem_of_getElem? (i := 939) (by decide +kernel)) rfl, in_X13, rfl, tyX13_ok, nmX13, by decide +kernel, rfl, fun h => by first | rfl | cases h⟩
theorem coX13_66 : Cond.constantLong RX13 66 (256) ∈ ev_TB := ev_in (List.mem_of_getElem? (i := 1073) (by decide +kernel)) rfl
theorem cdX13_add : ev_code mX13_add ∈ ev_TB := ev_in (List.mem_of_getElem? (i := 1072) (by decide +kernel)) rfl
theorem smX13_add : Cond.static yX13_add ∈ ev_TB := ev_in (List.mem_of_getElem? (i := 1071) (by decide +kernel)) rfl
theorem kX13_named_2 : ev_K mX13_named 2 mX13_add none 2 := ev_kS dX13_named_2 ⟨ev_in (List.mem_of_getElem? (i := 1070) (by decide +kernel)) rfl, smX13_add, ini_X13, cdX13_add⟩ ⟨by decide +kernel, by decide +kernel, by decide +kernel⟩
theorem kX13_named_6 : ev_K mX13_named 6 mX13_add none 2 := ev_kS dX13_named_6 ⟨ev_in (List.mem_of_getElem? (i := 1070) (by decide +kernel)) rfl, smX13_add, ini_X13, cdX13_add⟩ ⟨by decide +kernel, by decide +kernel, by decide +kernel⟩
theorem kX13_named_10 : ev_K mX13_named 10 mX13_add none 2 := ev_kS dX13_named_10 ⟨ev_in (List.mem_of_getElem? (i := 1070) (by decide +kernel)) rfl, smX13_add, ini_X13, cdX13_add⟩ ⟨by decide +kernel, by decide +kernel, by decide +kernel⟩
theorem kX13_named_14 : ev_K mX13_named 14 mX13_add none 2 := ev_kS dX13_named_14 ⟨ev_in (List.mem_of_getElem? (i := 1070) (by decide +kernel)) rfl, smX13_add, ini_X13, cdX13_add⟩ ⟨by decide +kernel, by decide +kernel, by decide +kernel⟩
theorem kX13_named_19 : ev_K mX13_named 19 mX13_add none 2 := ev_kS dX13_named_19 ⟨ev_in (List.mem_of_getElem? (i := 1070) (by decide +kernel)) rfl, smX13_add, ini_X13, cdX13_add⟩ ⟨by decide +kernel, by decide +kernel, by decide +kernel⟩
theorem kX13_named_24 : ev_K mX13_named 24 mX13_add none 2 := ev_kS dX13_named_24 ⟨ev_in (List.mem_of_getElem? (i := 1070) (by decide +kernel)) rfl, smX13_add, ini_X13, cdX13_add⟩ ⟨by decide +kernel, by decide +kernel, by decide +kernel⟩
theorem cdX13_named : ev_code mX13_named ∈ ev_TB := ev_in (List.mem_of_getElem? (i := 1079) (by decide +kernel)) rfl
theorem smX13_named : Cond.static yX13_named ∈ ev_TB := ev_in (List.mem_of_getElem? (i := 1078) (by decide +kernel)) rfl
theorem kX13_wordOf_12 : ev_K mX13_wordOf 12 mX13_named none 6 := ev_kS dX13_wordOf_12 ⟨ev_in (List.mem_of_getElem? (i := 1077) (by decide +kernel)) rfl, smX13_named, ini_X13, cdX13_named⟩ ⟨by decide +kernel, by decide +kernel, by decide +kernel⟩
theorem kX13_wordOf_33 : ev_K mX13_wordOf 33 mX13_named none 6 := ev_kS dX13_wordOf_33 ⟨ev_in (List.mem_of_getElem? (i := 1077) (by decide +kernel)) rfl, smX13_named, ini_X13, cdX13_named⟩ ⟨by decide +kernel, by decide +kernel, by decide +kernel⟩
theorem kX13_wordOf_57 : ev_K mX13_wordOf 57 mX13_named none 6 := ev_kS dX13_wordOf_57 ⟨ev_in (List.mem_of_getElem? (i := 1077) (by decide +kernel)) rfl, smX13_named, ini_X13, cdX13_named⟩ ⟨by decide +kernel, by decide +kernel, by decide +kernel⟩
theorem kX13_wordOf_92 : ev_K mX13_wordOf 92 mX13_named none 6 := ev_kS dX13_wordOf_92 ⟨ev_in (List.mem_of_getElem? (i := 1077) (by decide +kernel)) rfl, smX13_named, ini_X13, cdX13_named⟩ ⟨by decide +kernel, by decide +kernel, by decide +kernel⟩
theorem kX13_wordOf_115 : ev_K mX13_wordOf 115 mX13_named none 6 := ev_kS dX13_wordOf_115 ⟨ev_in (List.mem_of_getElem? (i := 1077) (by decide +kernel)) rfl, smX13_named, ini_X13, cdX13_named⟩ ⟨by decide +kernel, by decide +kernel, by decide +kernel⟩
theorem flX13_76 : ev_FL RX13 76 13 4 := ⟨(RX13, TX13, 36), rfl, by decide, ev_in (List.mem_of_getElem? (i := 940) (by decide +kernel)) rfl, in_X13, rfl⟩
theorem cdX13_byteAt : ev_code mX13_byteAt ∈ ev_TB := ev_in (List.mem_of_getElem? (i := 1069) (by decide +kernel)) rfl
theorem imX13_byteAt : Cond.instanceMethod yX13_byteAt ∈ ev_TB := ev_in (List.mem_of_getElem? (i := 1068) (by decide +kernel)) rfl
theorem seX13_byteAt : Cond.selects RX13 yX13_byteAt yX13_byteAt ∈ ev_TB := ev_in (List.mem_of_getElem? (i := 23) (by decide +kernel)) rfl
theorem kX13_advances_5 : ev_K mX13_advances 5 mX13_byteAt (some RX13) 2 := ev_kV dX13_advances_5 ⟨ev_in (List.mem_of_getElem? (i := 1066) (by decide +kernel)) rfl, imX13_byteAt, seX13_byteAt, ini_X13, cdX13_byteAt⟩ ⟨rfl, by decide +kernel, by decide +kernel, by decide +kernel⟩
theorem fpX13_76 : ev_FP RX13 76 13 4 .int false := ⟨(RX13, TX13, 36), tyX13, rfl, by decide, ev_in (List.mem_of_getElem? (i := 940) (by decide +kernel)) rfl, in_X13, rfl, tyX13_ok, nmX13, by decide +kernel, rfl, fun h => by first | rfl | cases h⟩
theorem fpX13_83 : ev_FP RX13 83 13 6 .int false := ⟨(RX13, TX13, 36), tyX13, rfl, by decide, ev_in (List.mem_of_getElem? (i := 942) (by decide +kernel)) rfl, in_X13, rfl, tyX13_ok, nmX13, by decide +kernel, rfl, fun h => by first | rfl | cases h⟩
theorem kX13_advances_39 : ev_K mX13_advances 39 mX13_byteAt (some RX13) 2 := ev_kV dX13_advances_39 ⟨ev_in (List.mem_of_getElem? (i := 1066) (by decide +kernel)) rfl, imX13_byteAt, seX13_byteAt, ini_X13, cdX13_byteAt⟩ ⟨rfl, by decide +kernel, by decide +kernel, by decide +kernel⟩
theorem fpX13_86 : ev_FP RX13 86 13 5 .int false := ⟨(RX13, TX13, 36), tyX13, rfl, by decide, ev_in (List.mem_of_getElem? (i := 941) (by decide +kernel)) rfl, in_X13, rfl, tyX13_ok, nmX13, by decide +kernel, rfl, fun h => by first | rfl | cases h⟩
theorem kX13_advances_60 : ev_K mX13_advances 60 mX13_in none 3 := ev_kS dX13_advances_60 ⟨ev_in (List.mem_of_getElem? (i := 1050) (by decide +kernel)) rfl, smX13_in, ini_X13, cdX13_in⟩ ⟨by decide +kernel, by decide +kernel, by decide +kernel⟩
theorem kX13_advances_73 : ev_K mX13_advances 73 mX13_byteAt (some RX13) 2 := ev_kV dX13_advances_73 ⟨ev_in (List.mem_of_getElem? (i := 1066) (by decide +kernel)) rfl, imX13_byteAt, seX13_byteAt, ini_X13, cdX13_byteAt⟩ ⟨rfl, by decide +kernel, by decide +kernel, by decide +kernel⟩
theorem kX13_advances_80 : ev_K mX13_advances 80 mX13_in none 3 := ev_kS dX13_advances_80 ⟨ev_in (List.mem_of_getElem? (i := 1050) (by decide +kernel)) rfl, smX13_in, ini_X13, cdX13_in⟩ ⟨by decide +kernel, by decide +kernel, by decide +kernel⟩
theorem flX13_83 : ev_FL RX13 83 13 6 := ⟨(RX13, TX13, 36), rfl, by decide, ev_in (List.mem_of_getElem? (i := 942) (by decide +kernel)) rfl, in_X13, rfl⟩
theorem kX13_advances_106 : ev_K mX13_advances 106 mX13_byteAt (some RX13) 2 := ev_kV dX13_advances_106 ⟨ev_in (List.mem_of_getElem? (i := 1066) (by decide +kernel)) rfl, imX13_byteAt, seX13_byteAt, ini_X13, cdX13_byteAt⟩ ⟨rfl, by decide +kernel, by decide +kernel, by decide +kernel⟩
theorem kX13_advances_109 : ev_K mX13_advances 109 mX13_add none 2 := ev_kS dX13_advances_109 ⟨ev_in (List.mem_of_getElem? (i := 1070) (by decide +kernel)) rfl, smX13_add, ini_X13, cdX13_add⟩ ⟨by decide +kernel, by decide +kernel, by decide +kernel⟩
theorem cdX13_wordOf : ev_code mX13_wordOf ∈ ev_TB := ev_in (List.mem_of_getElem? (i := 1076) (by decide +kernel)) rfl
theorem smX13_wordOf : Cond.static yX13_wordOf ∈ ev_TB := ev_in (List.mem_of_getElem? (i := 1075) (by decide +kernel)) rfl
theorem kX13_advances_132 : ev_K mX13_advances 132 mX13_wordOf none 1 := ev_kS dX13_advances_132 ⟨ev_in (List.mem_of_getElem? (i := 1074) (by decide +kernel)) rfl, smX13_wordOf, ini_X13, cdX13_wordOf⟩ ⟨by decide +kernel, by decide +kernel, by decide +kernel⟩
theorem fpX13_93 : ev_FP RX13 93 13 7 .int false := ⟨(RX13, TX13, 36), tyX13, rfl, by decide, ev_in (List.mem_of_getElem? (i := 943) (by decide +kernel)) rfl, in_X13, rfl, tyX13_ok, nmX13, by decide +kernel, rfl, fun h => by first | rfl | cases h⟩
theorem flX13_93 : ev_FL RX13 93 13 7 := ⟨(RX13, TX13, 36), rfl, by decide, ev_in (List.mem_of_getElem? (i := 943) (by decide +kernel)) rfl, in_X13, rfl⟩
theorem kX13_advances_164 : ev_K mX13_advances 164 mX13_in none 3 := ev_kS dX13_advances_164 ⟨ev_in (List.mem_of_getElem? (i := 1050) (by decide +kernel)) rfl, smX13_in, ini_X13, cdX13_in⟩ ⟨by decide +kernel, by decide +kernel, by decide +kernel⟩
theorem kX13_advances_180 : ev_K mX13_advances 180 mX13_byteAt (some RX13) 2 := ev_kV dX13_advances_180 ⟨ev_in (List.mem_of_getElem? (i := 1066) (by decide +kernel)) rfl, imX13_byteAt, seX13_byteAt, ini_X13, cdX13_byteAt⟩ ⟨rfl, by decide +kernel, by decide +kernel, by decide +kernel⟩
theorem kX13_advances_187 : ev_K mX13_advances 187 mX13_in none 3 := ev_kS dX13_advances_187 ⟨ev_in (List.mem_of_getElem? (i := 1050) (by decide +kernel)) rfl, smX13_in, ini_X13, cdX13_in⟩ ⟨by decide +kernel, by decide +kernel, by decide +kernel⟩
theorem kX13_advances_223 : ev_K mX13_advances 223 mX13_byteAt (some RX13) 2 := ev_kV dX13_advances_223 ⟨ev_in (List.mem_of_getElem? (i := 1066) (by decide +kernel)) rfl, imX13_byteAt, seX13_byteAt, ini_X13, cdX13_byteAt⟩ ⟨rfl, by decide +kernel, by decide +kernel, by decide +kernel⟩
theorem flX13_96 : ev_FL RX13 96 13 8 := ⟨(RX13, TX13, 36), rfl, by decide, ev_in (List.mem_of_getElem? (i := 944) (by decide +kernel)) rfl, in_X13, rfl⟩
theorem cdX13_isWell : ev_code mX13_isWell ∈ ev_TB := ev_in (List.mem_of_getElem? (i := 1083) (by decide +kernel)) rfl
theorem imX13_isWell : Cond.instanceMethod yX13_isWell ∈ ev_TB := ev_in (List.mem_of_getElem? (i := 1082) (by decide +kernel)) rfl
theorem seX13_isWell : Cond.selects RX13 yX13_isWell yX13_isWell ∈ ev_TB := ev_in (List.mem_of_getElem? (i := 24) (by decide +kernel)) rfl
theorem kX13_takes_1 : ev_K mX13_takes 1 mX13_isWell (some RX13) 1 := ev_kV dX13_takes_1 ⟨ev_in (List.mem_of_getElem? (i := 1080) (by decide +kernel)) rfl, imX13_isWell, seX13_isWell, ini_X13, cdX13_isWell⟩ ⟨rfl, by decide +kernel, by decide +kernel, by decide +kernel⟩
theorem fpX13_96 : ev_FP RX13 96 13 8 .int false := ⟨(RX13, TX13, 36), tyX13, rfl, by decide, ev_in (List.mem_of_getElem? (i := 944) (by decide +kernel)) rfl, in_X13, rfl, tyX13_ok, nmX13, by decide +kernel, rfl, fun h => by first | rfl | cases h⟩
theorem cdX13_advances : ev_code mX13_advances ∈ ev_TB := ev_in (List.mem_of_getElem? (i := 1065) (by decide +kernel)) rfl
theorem imX13_advances : Cond.instanceMethod yX13_advances ∈ ev_TB := ev_in (List.mem_of_getElem? (i := 1064) (by decide +kernel)) rfl
theorem seX13_advances : Cond.selects RX13 yX13_advances yX13_advances ∈ ev_TB := ev_in (List.mem_of_getElem? (i := 22) (by decide +kernel)) rfl
theorem kX13_takes_29 : ev_K mX13_takes 29 mX13_advances (some RX13) 1 := ev_kV dX13_takes_29 ⟨ev_in (List.mem_of_getElem? (i := 1062) (by decide +kernel)) rfl, imX13_advances, seX13_advances, ini_X13, cdX13_advances⟩ ⟨rfl, by decide +kernel, by decide +kernel, by decide +kernel⟩
theorem flX13_86 : ev_FL RX13 86 13 5 := ⟨(RX13, TX13, 36), rfl, by decide, ev_in (List.mem_of_getElem? (i := 941) (by decide +kernel)) rfl, in_X13, rfl⟩
theorem kX13_number_15 : ev_K mX13_number 15 mX13_in none 3 := ev_kS dX13_number_15 ⟨ev_in (List.mem_of_getElem? (i := 1050) (by decide +kernel)) rfl, smX13_in, ini_X13, cdX13_in⟩ ⟨by decide +kernel, by decide +kernel, by decide +kernel⟩
theorem cdX13_takes : ev_code mX13_takes ∈ ev_TB := ev_in (List.mem_of_getElem? (i := 1087) (by decide +kernel)) rfl
theorem imX13_takes : Cond.instanceMethod yX13_takes ∈ ev_TB := ev_in (List.mem_of_getElem? (i := 1086) (by decide +kernel)) rfl
theorem seX13_takes : Cond.selects RX13 yX13_takes yX13_takes ∈ ev_TB := ev_in (List.mem_of_getElem? (i := 25) (by decide +kernel)) rfl
theorem kX13_number_26 : ev_K mX13_number 26 mX13_takes (some RX13) 2 := ev_kV dX13_number_26 ⟨ev_in (List.mem_of_getElem? (i := 1084) (by decide +kernel)) rfl, imX13_takes, seX13_takes, ini_X13, cdX13_takes⟩ ⟨rfl, by decide +kernel, by decide +kernel, by decide +kernel⟩
theorem flX13_110 : ev_FL RX13 110 13 20 := ⟨(RX13, TX13, 36), rfl, by decide, ev_in (List.mem_of_getElem? (i := 956) (by decide +kernel)) rfl, in_X13, rfl⟩
theorem flX13_29 : ev_FL RX13 29 13 17 := ⟨(RX13, TX13, 36), rfl, by decide, ev_in (List.mem_of_getElem? (i := 953) (by decide +kernel)) rfl, in_X13, rfl⟩
theorem cdX13_number : ev_code mX13_number ∈ ev_TB := ev_in (List.mem_of_getElem? (i := 1095) (by decide +kernel)) rfl
theorem imX13_number : Cond.instanceMethod yX13_number ∈ ev_TB := ev_in (List.mem_of_getElem? (i := 1094) (by decide +kernel)) rfl
theorem seX13_number : Cond.selects RX13 yX13_number yX13_number ∈ ev_TB := ev_in (List.mem_of_getElem? (i := 27) (by decide +kernel)) rfl
theorem kX13_readsItem_25 : ev_K mX13_readsItem 25 mX13_number (some RX13) 3 := ev_kV dX13_readsItem_25 ⟨ev_in (List.mem_of_getElem? (i := 1092) (by decide +kernel)) rfl, imX13_number, seX13_number, ini_X13, cdX13_number⟩ ⟨rfl, by decide +kernel, by decide +kernel, by decide +kernel⟩
theorem kX13_readsItem_43 : ev_K mX13_readsItem 43 mX13_number (some RX13) 3 := ev_kV dX13_readsItem_43 ⟨ev_in (List.mem_of_getElem? (i := 1092) (by decide +kernel)) rfl, imX13_number, seX13_number, ini_X13, cdX13_number⟩ ⟨rfl, by decide +kernel, by decide +kernel, by decide +kernel⟩
theorem kX13_readsItem_59 : ev_K mX13_readsItem 59 mX13_number (some RX13) 3 := ev_kV dX13_readsItem_59 ⟨ev_in (List.mem_of_getElem? (i := 1092) (by decide +kernel)) rfl, imX13_number, seX13_number, ini_X13, cdX13_number⟩ ⟨rfl, by decide +kernel, by decide +kernel, by decide +kernel⟩
theorem kX13_readsItem_77 : ev_K mX13_readsItem 77 mX13_number (some RX13) 3 := ev_kV dX13_readsItem_77 ⟨ev_in (List.mem_of_getElem? (i := 1092) (by decide +kernel)) rfl, imX13_number, seX13_number, ini_X13, cdX13_number⟩ ⟨rfl, by decide +kernel, by decide +kernel, by decide +kernel⟩
theorem kX13_readsItem_93 : ev_K mX13_readsItem 93 mX13_number (some RX13) 3 := ev_kV dX13_readsItem_93 ⟨ev_in (List.mem_of_getElem? (i := 1092) (by decide +kernel)) rfl, imX13_number, seX13_number, ini_X13, cdX13_number⟩ ⟨rfl, by decide +kernel, by decide +kernel, by decide +kernel⟩
theorem kX13_readsItem_108 : ev_K mX13_readsItem 108 mX13_number (some RX13) 3 := ev_kV dX13_readsItem_108 ⟨ev_in (List.mem_of_getElem? (i := 1092) (by decide +kernel)) rfl, imX13_number, seX13_number, ini_X13, cdX13_number⟩ ⟨rfl, by decide +kernel, by decide +kernel, by decide +kernel⟩
theorem fpX13_110 : ev_FP RX13 110 13 20 .int false := ⟨(RX13, TX13, 36), tyX13, rfl, by decide, ev_in (List.mem_of_getElem? (i := 956) (by decide +kernel)) rfl, in_X13, rfl, tyX13_ok, nmX13, by decide +kernel, rfl, fun h => by first | rfl | cases h⟩
theorem flX13_32 : ev_FL RX13 32 13 18 := ⟨(RX13, TX13, 36), rfl, by decide, ev_in (List.mem_of_getElem? (i := 954) (by decide +kernel)) rfl, in_X13, rfl⟩
theorem flX13_117 : ev_FL RX13 117 13 21 := ⟨(RX13, TX13, 36), rfl, by decide, ev_in (List.mem_of_getElem? (i := 957) (by decide +kernel)) rfl, in_X13, rfl⟩
theorem kX13_readsItem_155 : ev_K mX13_readsItem 155 mX13_number (some RX13) 3 := ev_kV dX13_readsItem_155 ⟨ev_in (List.mem_of_getElem? (i := 1092) (by decide +kernel)) rfl, imX13_number, seX13_number, ini_X13, cdX13_number⟩ ⟨rfl, by decide +kernel, by decide +kernel, by decide +kernel⟩
theorem kX13_readsItem_175 : ev_K mX13_readsItem 175 mX13_number (some RX13) 3 := ev_kV dX13_readsItem_175 ⟨ev_in (List.mem_of_getElem? (i := 1092) (by decide +kernel)) rfl, imX13_number, seX13_number, ini_X13, cdX13_number⟩ ⟨rfl, by decide +kernel, by decide +kernel, by decide +kernel⟩
theorem fpX13_117 : ev_FP RX13 117 13 21 .int false := ⟨(RX13, TX13, 36), tyX13, rfl, by decide, ev_in (List.mem_of_getElem? (i := 957) (by decide +kernel)) rfl, in_X13, rfl, tyX13_ok, nmX13, by decide +kernel, rfl, fun h => by first | rfl | cases h⟩
theorem kX13_readsItem_207 : ev_K mX13_readsItem 207 mX13_in none 3 := ev_kS dX13_readsItem_207 ⟨ev_in (List.mem_of_getElem? (i := 1050) (by decide +kernel)) rfl, smX13_in, ini_X13, cdX13_in⟩ ⟨by decide +kernel, by decide +kernel, by decide +kernel⟩
theorem kX13_readsItem_218 : ev_K mX13_readsItem 218 mX13_takes (some RX13) 2 := ev_kV dX13_readsItem_218 ⟨ev_in (List.mem_of_getElem? (i := 1084) (by decide +kernel)) rfl, imX13_takes, seX13_takes, ini_X13, cdX13_takes⟩ ⟨rfl, by decide +kernel, by decide +kernel, by decide +kernel⟩
theorem kX13_readsItem_226 : ev_K mX13_readsItem 226 mX13_number (some RX13) 3 := ev_kV dX13_readsItem_226 ⟨ev_in (List.mem_of_getElem? (i := 1092) (by decide +kernel)) rfl, imX13_number, seX13_number, ini_X13, cdX13_number⟩ ⟨rfl, by decide +kernel, by decide +kernel, by decide +kernel⟩
theorem flX13_35 : ev_FL RX13 35 13 19 := ⟨(RX13, TX13, 36), rfl, by decide, ev_in (List.mem_of_getElem? (i := 955) (by decide +kernel)) rfl, in_X13, rfl⟩
theorem flX13_120 : ev_FL RX13 120 13 22 := ⟨(RX13, TX13, 36), rfl, by decide, ev_in (List.mem_of_getElem? (i := 958) (by decide +kernel)) rfl, in_X13, rfl⟩
theorem kX13_readsItem_268 : ev_K mX13_readsItem 268 mX13_number (some RX13) 3 := ev_kV dX13_readsItem_268 ⟨ev_in (List.mem_of_getElem? (i := 1092) (by decide +kernel)) rfl, imX13_number, seX13_number, ini_X13, cdX13_number⟩ ⟨rfl, by decide +kernel, by decide +kernel, by decide +kernel⟩
theorem fpX13_120 : ev_FP RX13 120 13 22 .int false := ⟨(RX13, TX13, 36), tyX13, rfl, by decide, ev_in (List.mem_of_getElem? (i := 958) (by decide +kernel)) rfl, in_X13, rfl, tyX13_ok, nmX13, by decide +kernel, rfl, fun h => by first | rfl | cases h⟩
theorem kX13_arrows_33 : ev_K mX13_arrows 33 mX13_advances (some RX13) 1 := ev_kV dX13_arrows_33 ⟨ev_in (List.mem_of_getElem? (i := 1062) (by decide +kernel)) rfl, imX13_advances, seX13_advances, ini_X13, cdX13_advances⟩ ⟨rfl, by decide +kernel, by decide +kernel, by decide +kernel⟩
theorem kX13_arrows_37 : ev_K mX13_arrows 37 mX13_isWell (some RX13) 1 := ev_kV dX13_arrows_37 ⟨ev_in (List.mem_of_getElem? (i := 1080) (by decide +kernel)) rfl, imX13_isWell, seX13_isWell, ini_X13, cdX13_isWell⟩ ⟨rfl, by decide +kernel, by decide +kernel, by decide +kernel⟩
theorem kX13_arrows_118 : ev_K mX13_arrows 118 mX13_takes (some RX13) 2 := ev_kV dX13_arrows_118 ⟨ev_in (List.mem_of_getElem? (i := 1084) (by decide +kernel)) rfl, imX13_takes, seX13_takes, ini_X13, cdX13_takes⟩ ⟨rfl, by decide +kernel, by decide +kernel, by decide +kernel⟩
theorem kX13_arrows_123 : ev_K mX13_arrows 123 mX13_isWell (some RX13) 1 := ev_kV dX13_arrows_123 ⟨ev_in (List.mem_of_getElem? (i := 1080) (by decide +kernel)) rfl, imX13_isWell, seX13_isWell, ini_X13, cdX13_isWell⟩ ⟨rfl, by decide +kernel, by decide +kernel, by decide +kernel⟩
theorem cdX13_readsItem : ev_code mX13_readsItem ∈ ev_TB := ev_in (List.mem_of_getElem? (i := 1091) (by decide +kernel)) rfl
theorem imX13_readsItem : Cond.instanceMethod yX13_readsItem ∈ ev_TB := ev_in (List.mem_of_getElem? (i := 1090) (by decide +kernel)) rfl
theorem seX13_readsItem : Cond.selects RX13 yX13_readsItem yX13_readsItem ∈ ev_TB := ev_in (List.mem_of_getElem? (i := 26) (by decide +kernel)) rfl
theorem kX13_arrows_131 : ev_K mX13_arrows 131 mX13_readsItem (some RX13) 2 := ev_kV dX13_arrows_131 ⟨ev_in (List.mem_of_getElem? (i := 1088) (by decide +kernel)) rfl, imX13_readsItem, seX13_readsItem, ini_X13, cdX13_readsItem⟩ ⟨rfl, by decide +kernel, by decide +kernel, by decide +kernel⟩
theorem kX13_arrows_148 : ev_K mX13_arrows 148 mX13_takes (some RX13) 2 := ev_kV dX13_arrows_148 ⟨ev_in (List.mem_of_getElem? (i := 1084) (by decide +kernel)) rfl, imX13_takes, seX13_takes, ini_X13, cdX13_takes⟩ ⟨rfl, by decide +kernel, by decide +kernel, by decide +kernel⟩
theorem kX13_arrows_159 : ev_K mX13_arrows 159 mX13_isWell (some RX13) 1 := ev_kV dX13_arrows_159 ⟨ev_in (List.mem_of_getElem? (i := 1080) (by decide +kernel)) rfl, imX13_isWell, seX13_isWell, ini_X13, cdX13_isWell⟩ ⟨rfl, by decide +kernel, by decide +kernel, by decide +kernel⟩
theorem flX13_23 : ev_FL RX13 23 13 15 := ⟨(RX13, TX13, 36), rfl, by decide, ev_in (List.mem_of_getElem? (i := 951) (by decide +kernel)) rfl, in_X13, rfl⟩
theorem flX13_26 : ev_FL RX13 26 13 16 := ⟨(RX13, TX13, 36), rfl, by decide, ev_in (List.mem_of_getElem? (i := 952) (by decide +kernel)) rfl, in_X13, rfl⟩
theorem fpX13_127 : ev_FP RX13 127 13 12 .int false := ⟨(RX13, TX13, 36), tyX13, rfl, by decide, ev_in (List.mem_of_getElem? (i := 948) (by decide +kernel)) rfl, in_X13, rfl, tyX13_ok, nmX13, by decide +kernel, rfl, fun h => by first | rfl | cases h⟩
theorem fpX13_130 : ev_FP RX13 130 13 13 .int false := ⟨(RX13, TX13, 36), tyX13, rfl, by decide, ev_in (List.mem_of_getElem? (i := 949) (by decide +kernel)) rfl, in_X13, rfl, tyX13_ok, nmX13, by decide +kernel, rfl, fun h => by first | rfl | cases h⟩
theorem fpX13_133 : ev_FP RX13 133 13 14 .int false := ⟨(RX13, TX13, 36), tyX13, rfl, by decide, ev_in (List.mem_of_getElem? (i := 950) (by decide +kernel)) rfl, in_X13, rfl, tyX13_ok, nmX13, by decide +kernel, rfl, fun h => by first | rfl | cases h⟩
theorem flX13_19 : ev_FL RX13 19 13 11 := ⟨(RX13, TX13, 36), rfl, by decide, ev_in (List.mem_of_getElem? (i := 947) (by decide +kernel)) rfl, in_X13, rfl⟩
theorem flX13_127 : ev_FL RX13 127 13 12 := ⟨(RX13, TX13, 36), rfl, by decide, ev_in (List.mem_of_getElem? (i := 948) (by decide +kernel)) rfl, in_X13, rfl⟩
theorem kX13_isStick_8 : ev_K mX13_isStick 8 mX13_in none 3 := ev_kS dX13_isStick_8 ⟨ev_in (List.mem_of_getElem? (i := 1050) (by decide +kernel)) rfl, smX13_in, ini_X13, cdX13_in⟩ ⟨by decide +kernel, by decide +kernel, by decide +kernel⟩
theorem flX13_130 : ev_FL RX13 130 13 13 := ⟨(RX13, TX13, 36), rfl, by decide, ev_in (List.mem_of_getElem? (i := 949) (by decide +kernel)) rfl, in_X13, rfl⟩
theorem kX13_isBow_8 : ev_K mX13_isBow 8 mX13_in none 3 := ev_kS dX13_isBow_8 ⟨ev_in (List.mem_of_getElem? (i := 1050) (by decide +kernel)) rfl, smX13_in, ini_X13, cdX13_in⟩ ⟨by decide +kernel, by decide +kernel, by decide +kernel⟩
theorem cdX13_isStick : ev_code mX13_isStick ∈ ev_TB := ev_in (List.mem_of_getElem? (i := 1103) (by decide +kernel)) rfl
theorem imX13_isStick : Cond.instanceMethod yX13_isStick ∈ ev_TB := ev_in (List.mem_of_getElem? (i := 1102) (by decide +kernel)) rfl
theorem seX13_isStick : Cond.selects RX13 yX13_isStick yX13_isStick ∈ ev_TB := ev_in (List.mem_of_getElem? (i := 28) (by decide +kernel)) rfl
theorem kX13_stick_7 : ev_K mX13_stick 7 mX13_isStick (some RX13) 2 := ev_kV dX13_stick_7 ⟨ev_in (List.mem_of_getElem? (i := 1100) (by decide +kernel)) rfl, imX13_isStick, seX13_isStick, ini_X13, cdX13_isStick⟩ ⟨rfl, by decide +kernel, by decide +kernel, by decide +kernel⟩
theorem kX13_stick_17 : ev_K mX13_stick 17 mX13_in none 3 := ev_kS dX13_stick_17 ⟨ev_in (List.mem_of_getElem? (i := 1050) (by decide +kernel)) rfl, smX13_in, ini_X13, cdX13_in⟩ ⟨by decide +kernel, by decide +kernel, by decide +kernel⟩
theorem cdX13_isBow : ev_code mX13_isBow ∈ ev_TB := ev_in (List.mem_of_getElem? (i := 1111) (by decide +kernel)) rfl
theorem imX13_isBow : Cond.instanceMethod yX13_isBow ∈ ev_TB := ev_in (List.mem_of_getElem? (i := 1110) (by decide +kernel)) rfl
theorem seX13_isBow : Cond.selects RX13 yX13_isBow yX13_isBow ∈ ev_TB := ev_in (List.mem_of_getElem? (i := 29) (by decide +kernel)) rfl
theorem kX13_bow_7 : ev_K mX13_bow 7 mX13_isBow (some RX13) 2 := ev_kV dX13_bow_7 ⟨ev_in (List.mem_of_getElem? (i := 1108) (by decide +kernel)) rfl, imX13_isBow, seX13_isBow, ini_X13, cdX13_isBow⟩ ⟨rfl, by decide +kernel, by decide +kernel, by decide +kernel⟩
theorem kX13_bow_16 : ev_K mX13_bow 16 mX13_in none 3 := ev_kS dX13_bow_16 ⟨ev_in (List.mem_of_getElem? (i := 1050) (by decide +kernel)) rfl, smX13_in, ini_X13, cdX13_in⟩ ⟨by decide +kernel, by decide +kernel, by decide +kernel⟩
theorem flX13_133 : ev_FL RX13 133 13 14 := ⟨(RX13, TX13, 36), rfl, by decide, ev_in (List.mem_of_getElem? (i := 950) (by decide +kernel)) rfl, in_X13, rfl⟩
theorem kX13_archer_13 : ev_K mX13_archer 13 mX13_in none 3 := ev_kS dX13_archer_13 ⟨ev_in (List.mem_of_getElem? (i := 1050) (by decide +kernel)) rfl, smX13_in, ini_X13, cdX13_in⟩ ⟨by decide +kernel, by decide +kernel, by decide +kernel⟩
theorem kX13_archer_22 : ev_K mX13_archer 22 mX13_in none 3 := ev_kS dX13_archer_22 ⟨ev_in (List.mem_of_getElem? (i := 1050) (by decide +kernel)) rfl, smX13_in, ini_X13, cdX13_in⟩ ⟨by decide +kernel, by decide +kernel, by decide +kernel⟩
theorem coX13_143 : Cond.constant RX13 143 (-1000000) ∈ ev_TB := ev_in (List.mem_of_getElem? (i := 1116) (by decide +kernel)) rfl
theorem kX13_tune_40 : ev_K mX13_tune 40 mX13_in none 3 := ev_kS dX13_tune_40 ⟨ev_in (List.mem_of_getElem? (i := 1050) (by decide +kernel)) rfl, smX13_in, ini_X13, cdX13_in⟩ ⟨by decide +kernel, by decide +kernel, by decide +kernel⟩
theorem kX13_tune_59 : ev_K mX13_tune 59 mX13_in none 3 := ev_kS dX13_tune_59 ⟨ev_in (List.mem_of_getElem? (i := 1050) (by decide +kernel)) rfl, smX13_in, ini_X13, cdX13_in⟩ ⟨by decide +kernel, by decide +kernel, by decide +kernel⟩
theorem kX13_cut_7 : ev_K mX13_cut 7 mX13_isStick (some RX13) 2 := ev_kV dX13_cut_7 ⟨ev_in (List.mem_of_getElem? (i := 1100) (by decide +kernel)) rfl, imX13_isStick, seX13_isStick, ini_X13, cdX13_isStick⟩ ⟨rfl, by decide +kernel, by decide +kernel, by decide +kernel⟩
theorem kX13_scrape_7 : ev_K mX13_scrape 7 mX13_isStick (some RX13) 2 := ev_kV dX13_scrape_7 ⟨ev_in (List.mem_of_getElem? (i := 1100) (by decide +kernel)) rfl, imX13_isStick, seX13_isStick, ini_X13, cdX13_isStick⟩ ⟨rfl, by decide +kernel, by decide +kernel, by decide +kernel⟩
theorem cdX13_mayScrape : ev_code mX13_mayScrape ∈ ev_TB := ev_in (List.mem_of_getElem? (i := 1132) (by decide +kernel)) rfl
theorem imX13_mayScrape : Cond.instanceMethod yX13_mayScrape ∈ ev_TB := ev_in (List.mem_of_getElem? (i := 1131) (by decide +kernel)) rfl
theorem seX13_mayScrape : Cond.selects RX13 yX13_mayScrape yX13_mayScrape ∈ ev_TB := ev_in (List.mem_of_getElem? (i := 30) (by decide +kernel)) rfl
theorem kX13_scrape_27 : ev_K mX13_scrape 27 mX13_mayScrape (some RX13) 4 := ev_kV dX13_scrape_27 ⟨ev_in (List.mem_of_getElem? (i := 1129) (by decide +kernel)) rfl, imX13_mayScrape, seX13_mayScrape, ini_X13, cdX13_mayScrape⟩ ⟨rfl, by decide +kernel, by decide +kernel, by decide +kernel⟩
theorem kX13_load_7 : ev_K mX13_load 7 mX13_isStick (some RX13) 2 := ev_kV dX13_load_7 ⟨ev_in (List.mem_of_getElem? (i := 1100) (by decide +kernel)) rfl, imX13_isStick, seX13_isStick, ini_X13, cdX13_isStick⟩ ⟨rfl, by decide +kernel, by decide +kernel, by decide +kernel⟩
theorem kX13_turn_7 : ev_K mX13_turn 7 mX13_isStick (some RX13) 2 := ev_kV dX13_turn_7 ⟨ev_in (List.mem_of_getElem? (i := 1100) (by decide +kernel)) rfl, imX13_isStick, seX13_isStick, ini_X13, cdX13_isStick⟩ ⟨rfl, by decide +kernel, by decide +kernel, by decide +kernel⟩
theorem kX13_tries_34 : ev_K mX13_tries 34 mX13_mayScrape (some RX13) 4 := ev_kV dX13_tries_34 ⟨ev_in (List.mem_of_getElem? (i := 1129) (by decide +kernel)) rfl, imX13_mayScrape, seX13_mayScrape, ini_X13, cdX13_mayScrape⟩ ⟨rfl, by decide +kernel, by decide +kernel, by decide +kernel⟩
theorem cdX13_lays : ev_code mX13_lays ∈ ev_TB := ev_in (List.mem_of_getElem? (i := 1155) (by decide +kernel)) rfl
theorem imX13_lays : Cond.instanceMethod yX13_lays ∈ ev_TB := ev_in (List.mem_of_getElem? (i := 1154) (by decide +kernel)) rfl
theorem seX13_lays : Cond.selects RX13 yX13_lays yX13_lays ∈ ev_TB := ev_in (List.mem_of_getElem? (i := 32) (by decide +kernel)) rfl
theorem kX13_tries_69 : ev_K mX13_tries 69 mX13_lays (some RX13) 2 := ev_kV dX13_tries_69 ⟨ev_in (List.mem_of_getElem? (i := 1152) (by decide +kernel)) rfl, imX13_lays, seX13_lays, ini_X13, cdX13_lays⟩ ⟨rfl, by decide +kernel, by decide +kernel, by decide +kernel⟩
theorem flX13_41 : ev_FL RX13 41 13 24 := ⟨(RX13, TX13, 36), rfl, by decide, ev_in (List.mem_of_getElem? (i := 960) (by decide +kernel)) rfl, in_X13, rfl⟩
theorem kX13_isAct_3 : ev_K mX13_isAct 3 mX13_in none 3 := ev_kS dX13_isAct_3 ⟨ev_in (List.mem_of_getElem? (i := 1050) (by decide +kernel)) rfl, smX13_in, ini_X13, cdX13_in⟩ ⟨by decide +kernel, by decide +kernel, by decide +kernel⟩
theorem kX13_least_7 : ev_K mX13_least 7 mX13_isStick (some RX13) 2 := ev_kV dX13_least_7 ⟨ev_in (List.mem_of_getElem? (i := 1100) (by decide +kernel)) rfl, imX13_isStick, seX13_isStick, ini_X13, cdX13_isStick⟩ ⟨rfl, by decide +kernel, by decide +kernel, by decide +kernel⟩
theorem kX13_least_15 : ev_K mX13_least 15 mX13_isBow (some RX13) 2 := ev_kV dX13_least_15 ⟨ev_in (List.mem_of_getElem? (i := 1108) (by decide +kernel)) rfl, imX13_isBow, seX13_isBow, ini_X13, cdX13_isBow⟩ ⟨rfl, by decide +kernel, by decide +kernel, by decide +kernel⟩
theorem kX13_least_29 : ev_K mX13_least 29 mX13_in none 3 := ev_kS dX13_least_29 ⟨ev_in (List.mem_of_getElem? (i := 1050) (by decide +kernel)) rfl, smX13_in, ini_X13, cdX13_in⟩ ⟨by decide +kernel, by decide +kernel, by decide +kernel⟩
theorem kX13_least_41 : ev_K mX13_least 41 mX13_in none 3 := ev_kS dX13_least_41 ⟨ev_in (List.mem_of_getElem? (i := 1050) (by decide +kernel)) rfl, smX13_in, ini_X13, cdX13_in⟩ ⟨by decide +kernel, by decide +kernel, by decide +kernel⟩
theorem cdX13_isAct : ev_code mX13_isAct ∈ ev_TB := ev_in (List.mem_of_getElem? (i := 1147) (by decide +kernel)) rfl
theorem smX13_isAct : Cond.static yX13_isAct ∈ ev_TB := ev_in (List.mem_of_getElem? (i := 1146) (by decide +kernel)) rfl
theorem kX13_least_49 : ev_K mX13_least 49 mX13_isAct none 1 := ev_kS dX13_least_49 ⟨ev_in (List.mem_of_getElem? (i := 1145) (by decide +kernel)) rfl, smX13_isAct, ini_X13, cdX13_isAct⟩ ⟨by decide +kernel, by decide +kernel, by decide +kernel⟩
theorem flX13_50 : ev_FL RX13 50 13 33 := ⟨(RX13, TX13, 36), rfl, by decide, ev_in (List.mem_of_getElem? (i := 969) (by decide +kernel)) rfl, in_X13, rfl⟩
theorem cdX13_tries : ev_code mX13_tries ∈ ev_TB := ev_in (List.mem_of_getElem? (i := 1151) (by decide +kernel)) rfl
theorem imX13_tries : Cond.instanceMethod yX13_tries ∈ ev_TB := ev_in (List.mem_of_getElem? (i := 1150) (by decide +kernel)) rfl
theorem seX13_tries : Cond.selects RX13 yX13_tries yX13_tries ∈ ev_TB := ev_in (List.mem_of_getElem? (i := 31) (by decide +kernel)) rfl
theorem kX13_least_161 : ev_K mX13_least 161 mX13_tries (some RX13) 6 := ev_kV dX13_least_161 ⟨ev_in (List.mem_of_getElem? (i := 1148) (by decide +kernel)) rfl, imX13_tries, seX13_tries, ini_X13, cdX13_tries⟩ ⟨rfl, by decide +kernel, by decide +kernel, by decide +kernel⟩
theorem kX13_least_183 : ev_K mX13_least 183 mX13_in none 3 := ev_kS dX13_least_183 ⟨ev_in (List.mem_of_getElem? (i := 1050) (by decide +kernel)) rfl, smX13_in, ini_X13, cdX13_in⟩ ⟨by decide +kernel, by decide +kernel, by decide +kernel⟩
theorem cdX13_flies : ev_code mX13_flies ∈ ev_TB := ev_in (List.mem_of_getElem? (i := 1159) (by decide +kernel)) rfl
theorem imX13_flies : Cond.instanceMethod yX13_flies ∈ ev_TB := ev_in (List.mem_of_getElem? (i := 1158) (by decide +kernel)) rfl
theorem seX13_flies : Cond.selects RX13 yX13_flies yX13_flies ∈ ev_TB := ev_in (List.mem_of_getElem? (i := 33) (by decide +kernel)) rfl
theorem kX13_least_208 : ev_K mX13_least 208 mX13_flies (some RX13) 3 := ev_kV dX13_least_208 ⟨ev_in (List.mem_of_getElem? (i := 1156) (by decide +kernel)) rfl, imX13_flies, seX13_flies, ini_X13, cdX13_flies⟩ ⟨rfl, by decide +kernel, by decide +kernel, by decide +kernel⟩
theorem flX13_162 : ev_FL RX13 162 13 30 := ⟨(RX13, TX13, 36), rfl, by decide, ev_in (List.mem_of_getElem? (i := 966) (by decide +kernel)) rfl, in_X13, rfl⟩
theorem cdX13_size : ev_code mX13_size ∈ ev_TB := ev_in (List.mem_of_getElem? (i := 1166) (by decide +kernel)) rfl
theorem smX13_size : Cond.static yX13_size ∈ ev_TB := ev_in (List.mem_of_getElem? (i := 1165) (by decide +kernel)) rfl
theorem kX13_kindOf_1 : ev_K mX13_kindOf 1 mX13_size none 1 := ev_kS dX13_kindOf_1 ⟨ev_in (List.mem_of_getElem? (i := 1164) (by decide +kernel)) rfl, smX13_size, ini_X13, cdX13_size⟩ ⟨by decide +kernel, by decide +kernel, by decide +kernel⟩
theorem kX13_kindOf_18 : ev_K mX13_kindOf 18 mX13_size none 1 := ev_kS dX13_kindOf_18 ⟨ev_in (List.mem_of_getElem? (i := 1164) (by decide +kernel)) rfl, smX13_size, ini_X13, cdX13_size⟩ ⟨by decide +kernel, by decide +kernel, by decide +kernel⟩
theorem cdX13_kindOf : ev_code mX13_kindOf ∈ ev_TB := ev_in (List.mem_of_getElem? (i := 1163) (by decide +kernel)) rfl
theorem imX13_kindOf : Cond.instanceMethod yX13_kindOf ∈ ev_TB := ev_in (List.mem_of_getElem? (i := 1162) (by decide +kernel)) rfl
theorem seX13_kindOf : Cond.selects RX13 yX13_kindOf yX13_kindOf ∈ ev_TB := ev_in (List.mem_of_getElem? (i := 34) (by decide +kernel)) rfl
theorem kX13_bareOf_2 : ev_K mX13_bareOf 2 mX13_kindOf (some RX13) 2 := ev_kV dX13_bareOf_2 ⟨ev_in (List.mem_of_getElem? (i := 1160) (by decide +kernel)) rfl, imX13_kindOf, seX13_kindOf, ini_X13, cdX13_kindOf⟩ ⟨rfl, by decide +kernel, by decide +kernel, by decide +kernel⟩
theorem fpX13_171 : ev_FP RX13 171 13 25 .int false := ⟨(RX13, TX13, 36), tyX13, rfl, by decide, ev_in (List.mem_of_getElem? (i := 961) (by decide +kernel)) rfl, in_X13, rfl, tyX13_ok, nmX13, by decide +kernel, rfl, fun h => by first | rfl | cases h⟩
theorem flX13_171 : ev_FL RX13 171 13 25 := ⟨(RX13, TX13, 36), rfl, by decide, ev_in (List.mem_of_getElem? (i := 961) (by decide +kernel)) rfl, in_X13, rfl⟩
theorem fpX13_174 : ev_FP RX13 174 13 26 .int false := ⟨(RX13, TX13, 36), tyX13, rfl, by decide, ev_in (List.mem_of_getElem? (i := 962) (by decide +kernel)) rfl, in_X13, rfl, tyX13_ok, nmX13, by decide +kernel, rfl, fun h => by first | rfl | cases h⟩
theorem flX13_174 : ev_FL RX13 174 13 26 := ⟨(RX13, TX13, 36), rfl, by decide, ev_in (List.mem_of_getElem? (i := 962) (by decide +kernel)) rfl, in_X13, rfl⟩
theorem kX13_flies_58 : ev_K mX13_flies 58 mX13_kindOf (some RX13) 2 := ev_kV dX13_flies_58 ⟨ev_in (List.mem_of_getElem? (i := 1160) (by decide +kernel)) rfl, imX13_kindOf, seX13_kindOf, ini_X13, cdX13_kindOf⟩ ⟨rfl, by decide +kernel, by decide +kernel, by decide +kernel⟩
theorem fpX13_162 : ev_FP RX13 162 13 30 .int false := ⟨(RX13, TX13, 36), tyX13, rfl, by decide, ev_in (List.mem_of_getElem? (i := 966) (by decide +kernel)) rfl, in_X13, rfl, tyX13_ok, nmX13, by decide +kernel, rfl, fun h => by first | rfl | cases h⟩
theorem cdX13_bareOf : ev_code mX13_bareOf ∈ ev_TB := ev_in (List.mem_of_getElem? (i := 1170) (by decide +kernel)) rfl
theorem imX13_bareOf : Cond.instanceMethod yX13_bareOf ∈ ev_TB := ev_in (List.mem_of_getElem? (i := 1169) (by decide +kernel)) rfl
theorem seX13_bareOf : Cond.selects RX13 yX13_bareOf yX13_bareOf ∈ ev_TB := ev_in (List.mem_of_getElem? (i := 35) (by decide +kernel)) rfl
theorem kX13_flies_70 : ev_K mX13_flies 70 mX13_bareOf (some RX13) 2 := ev_kV dX13_flies_70 ⟨ev_in (List.mem_of_getElem? (i := 1167) (by decide +kernel)) rfl, imX13_bareOf, seX13_bareOf, ini_X13, cdX13_bareOf⟩ ⟨rfl, by decide +kernel, by decide +kernel, by decide +kernel⟩
theorem fpX13_180 : ev_FP RX13 180 13 27 .int false := ⟨(RX13, TX13, 36), tyX13, rfl, by decide, ev_in (List.mem_of_getElem? (i := 963) (by decide +kernel)) rfl, in_X13, rfl, tyX13_ok, nmX13, by decide +kernel, rfl, fun h => by first | rfl | cases h⟩
theorem flX13_180 : ev_FL RX13 180 13 27 := ⟨(RX13, TX13, 36), rfl, by decide, ev_in (List.mem_of_getElem? (i := 963) (by decide +kernel)) rfl, in_X13, rfl⟩
theorem fpX13_183 : ev_FP RX13 183 13 28 .int false := ⟨(RX13, TX13, 36), tyX13, rfl, by decide, ev_in (List.mem_of_getElem? (i := 964) (by decide +kernel)) rfl, in_X13, rfl, tyX13_ok, nmX13, by decide +kernel, rfl, fun h => by first | rfl | cases h⟩
theorem fpX13_186 : ev_FP RX13 186 13 29 .int false := ⟨(RX13, TX13, 36), tyX13, rfl, by decide, ev_in (List.mem_of_getElem? (i := 965) (by decide +kernel)) rfl, in_X13, rfl, tyX13_ok, nmX13, by decide +kernel, rfl, fun h => by first | rfl | cases h⟩
theorem kX13_fliesWith_2 : ev_K mX13_fliesWith 2 mX13_lays (some RX13) 2 := ev_kV dX13_fliesWith_2 ⟨ev_in (List.mem_of_getElem? (i := 1152) (by decide +kernel)) rfl, imX13_lays, seX13_lays, ini_X13, cdX13_lays⟩ ⟨rfl, by decide +kernel, by decide +kernel, by decide +kernel⟩
theorem kX13_fliesWith_24 : ev_K mX13_fliesWith 24 mX13_flies (some RX13) 3 := ev_kV dX13_fliesWith_24 ⟨ev_in (List.mem_of_getElem? (i := 1156) (by decide +kernel)) rfl, imX13_flies, seX13_flies, ini_X13, cdX13_flies⟩ ⟨rfl, by decide +kernel, by decide +kernel, by decide +kernel⟩
theorem kX13_flight_7 : ev_K mX13_flight 7 mX13_isStick (some RX13) 2 := ev_kV dX13_flight_7 ⟨ev_in (List.mem_of_getElem? (i := 1100) (by decide +kernel)) rfl, imX13_isStick, seX13_isStick, ini_X13, cdX13_isStick⟩ ⟨rfl, by decide +kernel, by decide +kernel, by decide +kernel⟩
theorem kX13_flight_15 : ev_K mX13_flight 15 mX13_isBow (some RX13) 2 := ev_kV dX13_flight_15 ⟨ev_in (List.mem_of_getElem? (i := 1108) (by decide +kernel)) rfl, imX13_isBow, seX13_isBow, ini_X13, cdX13_isBow⟩ ⟨rfl, by decide +kernel, by decide +kernel, by decide +kernel⟩
theorem kX13_flight_24 : ev_K mX13_flight 24 mX13_in none 3 := ev_kS dX13_flight_24 ⟨ev_in (List.mem_of_getElem? (i := 1050) (by decide +kernel)) rfl, smX13_in, ini_X13, cdX13_in⟩ ⟨by decide +kernel, by decide +kernel, by decide +kernel⟩
theorem cdX13_fliesWith : ev_code mX13_fliesWith ∈ ev_TB := ev_in (List.mem_of_getElem? (i := 1178) (by decide +kernel)) rfl
theorem imX13_fliesWith : Cond.instanceMethod yX13_fliesWith ∈ ev_TB := ev_in (List.mem_of_getElem? (i := 1177) (by decide +kernel)) rfl
theorem seX13_fliesWith : Cond.selects RX13 yX13_fliesWith yX13_fliesWith ∈ ev_TB := ev_in (List.mem_of_getElem? (i := 36) (by decide +kernel)) rfl
theorem kX13_flight_36 : ev_K mX13_flight 36 mX13_fliesWith (some RX13) 3 := ev_kV dX13_flight_36 ⟨ev_in (List.mem_of_getElem? (i := 1175) (by decide +kernel)) rfl, imX13_fliesWith, seX13_fliesWith, ini_X13, cdX13_fliesWith⟩ ⟨rfl, by decide +kernel, by decide +kernel, by decide +kernel⟩
theorem flX13_183 : ev_FL RX13 183 13 28 := ⟨(RX13, TX13, 36), rfl, by decide, ev_in (List.mem_of_getElem? (i := 964) (by decide +kernel)) rfl, in_X13, rfl⟩
theorem flX13_186 : ev_FL RX13 186 13 29 := ⟨(RX13, TX13, 36), rfl, by decide, ev_in (List.mem_of_getElem? (i := 965) (by decide +kernel)) rfl, in_X13, rfl⟩
theorem kX13_band_7 : ev_K mX13_band 7 mX13_isBow (some RX13) 2 := ev_kV dX13_band_7 ⟨ev_in (List.mem_of_getElem? (i := 1108) (by decide +kernel)) rfl, imX13_isBow, seX13_isBow, ini_X13, cdX13_isBow⟩ ⟨rfl, by decide +kernel, by decide +kernel, by decide +kernel⟩
theorem kX13_band_19 : ev_K mX13_band 19 mX13_in none 3 := ev_kS dX13_band_19 ⟨ev_in (List.mem_of_getElem? (i := 1050) (by decide +kernel)) rfl, smX13_in, ini_X13, cdX13_in⟩ ⟨by decide +kernel, by decide +kernel, by decide +kernel⟩
theorem kX13_band_30 : ev_K mX13_band 30 mX13_in none 3 := ev_kS dX13_band_30 ⟨ev_in (List.mem_of_getElem? (i := 1050) (by decide +kernel)) rfl, smX13_in, ini_X13, cdX13_in⟩ ⟨by decide +kernel, by decide +kernel, by decide +kernel⟩
theorem kX13_band_40 : ev_K mX13_band 40 mX13_in none 3 := ev_kS dX13_band_40 ⟨ev_in (List.mem_of_getElem? (i := 1050) (by decide +kernel)) rfl, smX13_in, ini_X13, cdX13_in⟩ ⟨by decide +kernel, by decide +kernel, by decide +kernel⟩
theorem kX13_band_106 : ev_K mX13_band 106 mX13_kindOf (some RX13) 2 := ev_kV dX13_band_106 ⟨ev_in (List.mem_of_getElem? (i := 1160) (by decide +kernel)) rfl, imX13_kindOf, seX13_kindOf, ini_X13, cdX13_kindOf⟩ ⟨rfl, by decide +kernel, by decide +kernel, by decide +kernel⟩
theorem kX13_says_12 : ev_K mX13_says 12 mX13_in none 3 := ev_kS dX13_says_12 ⟨ev_in (List.mem_of_getElem? (i := 1050) (by decide +kernel)) rfl, smX13_in, ini_X13, cdX13_in⟩ ⟨by decide +kernel, by decide +kernel, by decide +kernel⟩
theorem kX13_says_22 : ev_K mX13_says 22 mX13_in none 3 := ev_kS dX13_says_22 ⟨ev_in (List.mem_of_getElem? (i := 1050) (by decide +kernel)) rfl, smX13_in, ini_X13, cdX13_in⟩ ⟨by decide +kernel, by decide +kernel, by decide +kernel⟩
theorem kX13_says_31 : ev_K mX13_says 31 mX13_in none 3 := ev_kS dX13_says_31 ⟨ev_in (List.mem_of_getElem? (i := 1050) (by decide +kernel)) rfl, smX13_in, ini_X13, cdX13_in⟩ ⟨by decide +kernel, by decide +kernel, by decide +kernel⟩
theorem kX13_says_62 : ev_K mX13_says 62 mX13_bareOf (some RX13) 2 := ev_kV dX13_says_62 ⟨ev_in (List.mem_of_getElem? (i := 1167) (by decide +kernel)) rfl, imX13_bareOf, seX13_bareOf, ini_X13, cdX13_bareOf⟩ ⟨rfl, by decide +kernel, by decide +kernel, by decide +kernel⟩
theorem kX13_areSame_5 : ev_K mX13_areSame 5 mX13_in none 3 := ev_kS dX13_areSame_5 ⟨ev_in (List.mem_of_getElem? (i := 1050) (by decide +kernel)) rfl, smX13_in, ini_X13, cdX13_in⟩ ⟨by decide +kernel, by decide +kernel, by decide +kernel⟩
theorem kX13_areSame_16 : ev_K mX13_areSame 16 mX13_in none 3 := ev_kS dX13_areSame_16 ⟨ev_in (List.mem_of_getElem? (i := 1050) (by decide +kernel)) rfl, smX13_in, ini_X13, cdX13_in⟩ ⟨by decide +kernel, by decide +kernel, by decide +kernel⟩
theorem kX13_fliesAll_19 : ev_K mX13_fliesAll 19 mX13_lays (some RX13) 2 := ev_kV dX13_fliesAll_19 ⟨ev_in (List.mem_of_getElem? (i := 1152) (by decide +kernel)) rfl, imX13_lays, seX13_lays, ini_X13, cdX13_lays⟩ ⟨rfl, by decide +kernel, by decide +kernel, by decide +kernel⟩
theorem kX13_fliesAll_49 : ev_K mX13_fliesAll 49 mX13_flies (some RX13) 3 := ev_kV dX13_fliesAll_49 ⟨ev_in (List.mem_of_getElem? (i := 1156) (by decide +kernel)) rfl, imX13_flies, seX13_flies, ini_X13, cdX13_flies⟩ ⟨rfl, by decide +kernel, by decide +kernel, by decide +kernel⟩
theorem flX13_44 : ev_FL RX13 44 13 31 := ⟨(RX13, TX13, 36), rfl, by decide, ev_in (List.mem_of_getElem? (i := 967) (by decide +kernel)) rfl, in_X13, rfl⟩
theorem flX13_47 : ev_FL RX13 47 13 32 := ⟨(RX13, TX13, 36), rfl, by decide, ev_in (List.mem_of_getElem? (i := 968) (by decide +kernel)) rfl, in_X13, rfl⟩
theorem kX13_areAlike_93 : ev_K mX13_areAlike 93 mX13_size none 1 := ev_kS dX13_areAlike_93 ⟨ev_in (List.mem_of_getElem? (i := 1164) (by decide +kernel)) rfl, smX13_size, ini_X13, cdX13_size⟩ ⟨by decide +kernel, by decide +kernel, by decide +kernel⟩
theorem kX13_areAlike_115 : ev_K mX13_areAlike 115 mX13_size none 1 := ev_kS dX13_areAlike_115 ⟨ev_in (List.mem_of_getElem? (i := 1164) (by decide +kernel)) rfl, smX13_size, ini_X13, cdX13_size⟩ ⟨by decide +kernel, by decide +kernel, by decide +kernel⟩
theorem kX13_alike_7 : ev_K mX13_alike 7 mX13_isBow (some RX13) 2 := ev_kV dX13_alike_7 ⟨ev_in (List.mem_of_getElem? (i := 1108) (by decide +kernel)) rfl, imX13_isBow, seX13_isBow, ini_X13, cdX13_isBow⟩ ⟨rfl, by decide +kernel, by decide +kernel, by decide +kernel⟩
theorem cdX13_areSame : ev_code mX13_areSame ∈ ev_TB := ev_in (List.mem_of_getElem? (i := 1193) (by decide +kernel)) rfl
theorem smX13_areSame : Cond.static yX13_areSame ∈ ev_TB := ev_in (List.mem_of_getElem? (i := 1192) (by decide +kernel)) rfl
theorem kX13_alike_15 : ev_K mX13_alike 15 mX13_areSame none 2 := ev_kS dX13_alike_15 ⟨ev_in (List.mem_of_getElem? (i := 1191) (by decide +kernel)) rfl, smX13_areSame, ini_X13, cdX13_areSame⟩ ⟨by decide +kernel, by decide +kernel, by decide +kernel⟩
theorem kX13_alike_25 : ev_K mX13_alike 25 mX13_in none 3 := ev_kS dX13_alike_25 ⟨ev_in (List.mem_of_getElem? (i := 1050) (by decide +kernel)) rfl, smX13_in, ini_X13, cdX13_in⟩ ⟨by decide +kernel, by decide +kernel, by decide +kernel⟩
theorem cdX13_fliesAll : ev_code mX13_fliesAll ∈ ev_TB := ev_in (List.mem_of_getElem? (i := 1197) (by decide +kernel)) rfl
theorem imX13_fliesAll : Cond.instanceMethod yX13_fliesAll ∈ ev_TB := ev_in (List.mem_of_getElem? (i := 1196) (by decide +kernel)) rfl
theorem seX13_fliesAll : Cond.selects RX13 yX13_fliesAll yX13_fliesAll ∈ ev_TB := ev_in (List.mem_of_getElem? (i := 37) (by decide +kernel)) rfl
theorem kX13_alike_35 : ev_K mX13_alike 35 mX13_fliesAll (some RX13) 2 := ev_kV dX13_alike_35 ⟨ev_in (List.mem_of_getElem? (i := 1194) (by decide +kernel)) rfl, imX13_fliesAll, seX13_fliesAll, ini_X13, cdX13_fliesAll⟩ ⟨rfl, by decide +kernel, by decide +kernel, by decide +kernel⟩
theorem cdX13_manyOf : ev_code mX13_manyOf ∈ ev_TB := ev_in (List.mem_of_getElem? (i := 1201) (by decide +kernel)) rfl
theorem imX13_manyOf : Cond.instanceMethod yX13_manyOf ∈ ev_TB := ev_in (List.mem_of_getElem? (i := 1200) (by decide +kernel)) rfl
theorem seX13_manyOf : Cond.selects RX13 yX13_manyOf yX13_manyOf ∈ ev_TB := ev_in (List.mem_of_getElem? (i := 38) (by decide +kernel)) rfl
theorem kX13_alike_58 : ev_K mX13_alike 58 mX13_manyOf (some RX13) 2 := ev_kV dX13_alike_58 ⟨ev_in (List.mem_of_getElem? (i := 1198) (by decide +kernel)) rfl, imX13_manyOf, seX13_manyOf, ini_X13, cdX13_manyOf⟩ ⟨rfl, by decide +kernel, by decide +kernel, by decide +kernel⟩
theorem kX13_alike_64 : ev_K mX13_alike 64 mX13_manyOf (some RX13) 2 := ev_kV dX13_alike_64 ⟨ev_in (List.mem_of_getElem? (i := 1198) (by decide +kernel)) rfl, imX13_manyOf, seX13_manyOf, ini_X13, cdX13_manyOf⟩ ⟨rfl, by decide +kernel, by decide +kernel, by decide +kernel⟩
theorem cdX13_areAlike : ev_code mX13_areAlike ∈ ev_TB := ev_in (List.mem_of_getElem? (i := 1205) (by decide +kernel)) rfl
theorem imX13_areAlike : Cond.instanceMethod yX13_areAlike ∈ ev_TB := ev_in (List.mem_of_getElem? (i := 1204) (by decide +kernel)) rfl
theorem seX13_areAlike : Cond.selects RX13 yX13_areAlike yX13_areAlike ∈ ev_TB := ev_in (List.mem_of_getElem? (i := 39) (by decide +kernel)) rfl
theorem kX13_alike_75 : ev_K mX13_alike 75 mX13_areAlike (some RX13) 4 := ev_kV dX13_alike_75 ⟨ev_in (List.mem_of_getElem? (i := 1202) (by decide +kernel)) rfl, imX13_areAlike, seX13_areAlike, ini_X13, cdX13_areAlike⟩ ⟨rfl, by decide +kernel, by decide +kernel, by decide +kernel⟩
theorem kX13_alike_109 : ev_K mX13_alike 109 mX13_manyOf (some RX13) 2 := ev_kV dX13_alike_109 ⟨ev_in (List.mem_of_getElem? (i := 1198) (by decide +kernel)) rfl, imX13_manyOf, seX13_manyOf, ini_X13, cdX13_manyOf⟩ ⟨rfl, by decide +kernel, by decide +kernel, by decide +kernel⟩
theorem kX13_turned_7 : ev_K mX13_turned 7 mX13_isBow (some RX13) 2 := ev_kV dX13_turned_7 ⟨ev_in (List.mem_of_getElem? (i := 1108) (by decide +kernel)) rfl, imX13_isBow, seX13_isBow, ini_X13, cdX13_isBow⟩ ⟨rfl, by decide +kernel, by decide +kernel, by decide +kernel⟩
theorem kX13_turned_15 : ev_K mX13_turned 15 mX13_areSame none 2 := ev_kS dX13_turned_15 ⟨ev_in (List.mem_of_getElem? (i := 1191) (by decide +kernel)) rfl, smX13_areSame, ini_X13, cdX13_areSame⟩ ⟨by decide +kernel, by decide +kernel, by decide +kernel⟩
theorem kX13_turned_25 : ev_K mX13_turned 25 mX13_fliesAll (some RX13) 2 := ev_kV dX13_turned_25 ⟨ev_in (List.mem_of_getElem? (i := 1194) (by decide +kernel)) rfl, imX13_fliesAll, seX13_fliesAll, ini_X13, cdX13_fliesAll⟩ ⟨rfl, by decide +kernel, by decide +kernel, by decide +kernel⟩
theorem kX13_turned_97 : ev_K mX13_turned 97 mX13_in none 3 := ev_kS dX13_turned_97 ⟨ev_in (List.mem_of_getElem? (i := 1050) (by decide +kernel)) rfl, smX13_in, ini_X13, cdX13_in⟩ ⟨by decide +kernel, by decide +kernel, by decide +kernel⟩
theorem kX13_turned_130 : ev_K mX13_turned 130 mX13_in none 3 := ev_kS dX13_turned_130 ⟨ev_in (List.mem_of_getElem? (i := 1050) (by decide +kernel)) rfl, smX13_in, ini_X13, cdX13_in⟩ ⟨by decide +kernel, by decide +kernel, by decide +kernel⟩
theorem kX13_turned_173 : ev_K mX13_turned 173 mX13_in none 3 := ev_kS dX13_turned_173 ⟨ev_in (List.mem_of_getElem? (i := 1050) (by decide +kernel)) rfl, smX13_in, ini_X13, cdX13_in⟩ ⟨by decide +kernel, by decide +kernel, by decide +kernel⟩
theorem kX13_wreck_7 : ev_K mX13_wreck 7 mX13_isStick (some RX13) 2 := ev_kV dX13_wreck_7 ⟨ev_in (List.mem_of_getElem? (i := 1100) (by decide +kernel)) rfl, imX13_isStick, seX13_isStick, ini_X13, cdX13_isStick⟩ ⟨rfl, by decide +kernel, by decide +kernel, by decide +kernel⟩
theorem kX13_wreck_17 : ev_K mX13_wreck 17 mX13_in none 3 := ev_kS dX13_wreck_17 ⟨ev_in (List.mem_of_getElem? (i := 1050) (by decide +kernel)) rfl, smX13_in, ini_X13, cdX13_in⟩ ⟨by decide +kernel, by decide +kernel, by decide +kernel⟩
theorem kX13_wreck_26 : ev_K mX13_wreck 26 mX13_in none 3 := ev_kS dX13_wreck_26 ⟨ev_in (List.mem_of_getElem? (i := 1050) (by decide +kernel)) rfl, smX13_in, ini_X13, cdX13_in⟩ ⟨by decide +kernel, by decide +kernel, by decide +kernel⟩
theorem kX13_wreck_36 : ev_K mX13_wreck 36 mX13_lays (some RX13) 2 := ev_kV dX13_wreck_36 ⟨ev_in (List.mem_of_getElem? (i := 1152) (by decide +kernel)) rfl, imX13_lays, seX13_lays, ini_X13, cdX13_lays⟩ ⟨rfl, by decide +kernel, by decide +kernel, by decide +kernel⟩
theorem kX13_wreck_62 : ev_K mX13_wreck 62 mX13_flies (some RX13) 3 := ev_kV dX13_wreck_62 ⟨ev_in (List.mem_of_getElem? (i := 1156) (by decide +kernel)) rfl, imX13_flies, seX13_flies, ini_X13, cdX13_flies⟩ ⟨rfl, by decide +kernel, by decide +kernel, by decide +kernel⟩
theorem kX13_feather_7 : ev_K mX13_feather 7 mX13_isStick (some RX13) 2 := ev_kV dX13_feather_7 ⟨ev_in (List.mem_of_getElem? (i := 1100) (by decide +kernel)) rfl, imX13_isStick, seX13_isStick, ini_X13, cdX13_isStick⟩ ⟨rfl, by decide +kernel, by decide +kernel, by decide +kernel⟩
theorem kX13_feather_15 : ev_K mX13_feather 15 mX13_isBow (some RX13) 2 := ev_kV dX13_feather_15 ⟨ev_in (List.mem_of_getElem? (i := 1108) (by decide +kernel)) rfl, imX13_isBow, seX13_isBow, ini_X13, cdX13_isBow⟩ ⟨rfl, by decide +kernel, by decide +kernel, by decide +kernel⟩
theorem kX13_feather_25 : ev_K mX13_feather 25 mX13_in none 3 := ev_kS dX13_feather_25 ⟨ev_in (List.mem_of_getElem? (i := 1050) (by decide +kernel)) rfl, smX13_in, ini_X13, cdX13_in⟩ ⟨by decide +kernel, by decide +kernel, by decide +kernel⟩
theorem kX13_feather_51 : ev_K mX13_feather 51 mX13_lays (some RX13) 2 := ev_kV dX13_feather_51 ⟨ev_in (List.mem_of_getElem? (i := 1152) (by decide +kernel)) rfl, imX13_lays, seX13_lays, ini_X13, cdX13_lays⟩ ⟨rfl, by decide +kernel, by decide +kernel, by decide +kernel⟩
theorem kX13_feather_81 : ev_K mX13_feather 81 mX13_flies (some RX13) 3 := ev_kV dX13_feather_81 ⟨ev_in (List.mem_of_getElem? (i := 1156) (by decide +kernel)) rfl, imX13_flies, seX13_flies, ini_X13, cdX13_flies⟩ ⟨rfl, by decide +kernel, by decide +kernel, by decide +kernel⟩
theorem kX13_feather_88 : ev_K mX13_feather 88 mX13_size none 1 := ev_kS dX13_feather_88 ⟨ev_in (List.mem_of_getElem? (i := 1164) (by decide +kernel)) rfl, smX13_size, ini_X13, cdX13_size⟩ ⟨by decide +kernel, by decide +kernel, by decide +kernel⟩
theorem kX13_warm_7 : ev_K mX13_warm 7 mX13_isBow (some RX13) 2 := ev_kV dX13_warm_7 ⟨ev_in (List.mem_of_getElem? (i := 1108) (by decide +kernel)) rfl, imX13_isBow, seX13_isBow, ini_X13, cdX13_isBow⟩ ⟨rfl, by decide +kernel, by decide +kernel, by decide +kernel⟩
theorem kX13_warm_17 : ev_K mX13_warm 17 mX13_in none 3 := ev_kS dX13_warm_17 ⟨ev_in (List.mem_of_getElem? (i := 1050) (by decide +kernel)) rfl, smX13_in, ini_X13, cdX13_in⟩ ⟨by decide +kernel, by decide +kernel, by decide +kernel⟩
theorem kX13_warm_26 : ev_K mX13_warm 26 mX13_in none 3 := ev_kS dX13_warm_26 ⟨ev_in (List.mem_of_getElem? (i := 1050) (by decide +kernel)) rfl, smX13_in, ini_X13, cdX13_in⟩ ⟨by decide +kernel, by decide +kernel, by decide +kernel⟩
theorem kX13_warm_83 : ev_K mX13_warm 83 mX13_fliesWith (some RX13) 3 := ev_kV dX13_warm_83 ⟨ev_in (List.mem_of_getElem? (i := 1175) (by decide +kernel)) rfl, imX13_fliesWith, seX13_fliesWith, ini_X13, cdX13_fliesWith⟩ ⟨rfl, by decide +kernel, by decide +kernel, by decide +kernel⟩
theorem kX13_warm_114 : ev_K mX13_warm 114 mX13_flies (some RX13) 3 := ev_kV dX13_warm_114 ⟨ev_in (List.mem_of_getElem? (i := 1156) (by decide +kernel)) rfl, imX13_flies, seX13_flies, ini_X13, cdX13_flies⟩ ⟨rfl, by decide +kernel, by decide +kernel, by decide +kernel⟩
theorem kX13_shoot_7 : ev_K mX13_shoot 7 mX13_isStick (some RX13) 2 := ev_kV dX13_shoot_7 ⟨ev_in (List.mem_of_getElem? (i := 1100) (by decide +kernel)) rfl, imX13_isStick, seX13_isStick, ini_X13, cdX13_isStick⟩ ⟨rfl, by decide +kernel, by decide +kernel, by decide +kernel⟩
theorem kX13_shoot_15 : ev_K mX13_shoot 15 mX13_isBow (some RX13) 2 := ev_kV dX13_shoot_15 ⟨ev_in (List.mem_of_getElem? (i := 1108) (by decide +kernel)) rfl, imX13_isBow, seX13_isBow, ini_X13, cdX13_isBow⟩ ⟨rfl, by decide +kernel, by decide +kernel, by decide +kernel⟩
theorem kX13_shoot_29 : ev_K mX13_shoot 29 mX13_in none 3 := ev_kS dX13_shoot_29 ⟨ev_in (List.mem_of_getElem? (i := 1050) (by decide +kernel)) rfl, smX13_in, ini_X13, cdX13_in⟩ ⟨by decide +kernel, by decide +kernel, by decide +kernel⟩
theorem kX13_shoot_53 : ev_K mX13_shoot 53 mX13_fliesWith (some RX13) 3 := ev_kV dX13_shoot_53 ⟨ev_in (List.mem_of_getElem? (i := 1175) (by decide +kernel)) rfl, imX13_fliesWith, seX13_fliesWith, ini_X13, cdX13_fliesWith⟩ ⟨rfl, by decide +kernel, by decide +kernel, by decide +kernel⟩
theorem coX13_205 : Cond.constant RX13 205 (1103515245) ∈ ev_TB := ev_in (List.mem_of_getElem? (i := 1226) (by decide +kernel)) rfl
theorem coX13_206 : Cond.constant RX13 206 (65535) ∈ ev_TB := ev_in (List.mem_of_getElem? (i := 1227) (by decide +kernel)) rfl
theorem kX13_shot_16 : ev_K mX13_shot 16 mX13_in none 3 := ev_kS dX13_shot_16 ⟨ev_in (List.mem_of_getElem? (i := 1050) (by decide +kernel)) rfl, smX13_in, ini_X13, cdX13_in⟩ ⟨by decide +kernel, by decide +kernel, by decide +kernel⟩
theorem kX13_shot_25 : ev_K mX13_shot 25 mX13_in none 3 := ev_kS dX13_shot_25 ⟨ev_in (List.mem_of_getElem? (i := 1050) (by decide +kernel)) rfl, smX13_in, ini_X13, cdX13_in⟩ ⟨by decide +kernel, by decide +kernel, by decide +kernel⟩
theorem flX13_207 : ev_FL RX13 207 13 35 := ⟨(RX13, TX13, 36), rfl, by decide, ev_in (List.mem_of_getElem? (i := 971) (by decide +kernel)) rfl, in_X13, rfl⟩
theorem cdX13_gcd : ev_code mX13_gcd ∈ ev_TB := ev_in (List.mem_of_getElem? (i := 1250) (by decide +kernel)) rfl
theorem smX13_gcd : Cond.static yX13_gcd ∈ ev_TB := ev_in (List.mem_of_getElem? (i := 1249) (by decide +kernel)) rfl
theorem kX13_adds_5 : ev_K mX13_adds 5 mX13_gcd none 2 := ev_kS dX13_adds_5 ⟨ev_in (List.mem_of_getElem? (i := 1248) (by decide +kernel)) rfl, smX13_gcd, ini_X13, cdX13_gcd⟩ ⟨by decide +kernel, by decide +kernel, by decide +kernel⟩
theorem flX13_215 : ev_FL RX13 215 13 34 := ⟨(RX13, TX13, 36), rfl, by decide, ev_in (List.mem_of_getElem? (i := 970) (by decide +kernel)) rfl, in_X13, rfl⟩
theorem fpX13_215 : ev_FP RX13 215 13 34 .long false := ⟨(RX13, TX13, 36), tyX13, rfl, by decide, ev_in (List.mem_of_getElem? (i := 970) (by decide +kernel)) rfl, in_X13, rfl, tyX13_ok, nmX13, by decide +kernel, rfl, fun h => by first | rfl | cases h⟩
theorem fpX13_207 : ev_FP RX13 207 13 35 .long false := ⟨(RX13, TX13, 36), tyX13, rfl, by decide, ev_in (List.mem_of_getElem? (i := 971) (by decide +kernel)) rfl, in_X13, rfl, tyX13_ok, nmX13, by decide +kernel, rfl, fun h => by first | rfl | cases h⟩
theorem kX13_adds_54 : ev_K mX13_adds 54 mX13_gcd none 2 := ev_kS dX13_adds_54 ⟨ev_in (List.mem_of_getElem? (i := 1248) (by decide +kernel)) rfl, smX13_gcd, ini_X13, cdX13_gcd⟩ ⟨by decide +kernel, by decide +kernel, by decide +kernel⟩
theorem cdX13_adds : ev_code mX13_adds ∈ ev_TB := ev_in (List.mem_of_getElem? (i := 1247) (by decide +kernel)) rfl
theorem imX13_adds : Cond.instanceMethod yX13_adds ∈ ev_TB := ev_in (List.mem_of_getElem? (i := 1246) (by decide +kernel)) rfl
theorem seX13_adds : Cond.selects RX13 yX13_adds yX13_adds ∈ ev_TB := ev_in (List.mem_of_getElem? (i := 41) (by decide +kernel)) rfl
theorem kX13_parts_123 : ev_K mX13_parts 123 mX13_adds (some RX13) 3 := ev_kV dX13_parts_123 ⟨ev_in (List.mem_of_getElem? (i := 1244) (by decide +kernel)) rfl, imX13_adds, seX13_adds, ini_X13, cdX13_adds⟩ ⟨rfl, by decide +kernel, by decide +kernel, by decide +kernel⟩
theorem cdX13_parts : ev_code mX13_parts ∈ ev_TB := ev_in (List.mem_of_getElem? (i := 1243) (by decide +kernel)) rfl
theorem imX13_parts : Cond.instanceMethod yX13_parts ∈ ev_TB := ev_in (List.mem_of_getElem? (i := 1242) (by decide +kernel)) rfl
theorem seX13_parts : Cond.selects RX13 yX13_parts yX13_parts ∈ ev_TB := ev_in (List.mem_of_getElem? (i := 40) (by decide +kernel)) rfl
theorem kX13_parted_22 : ev_K mX13_parted 22 mX13_parts (some RX13) 2 := ev_kV dX13_parted_22 ⟨ev_in (List.mem_of_getElem? (i := 1240) (by decide +kernel)) rfl, imX13_parts, seX13_parts, ini_X13, cdX13_parts⟩ ⟨rfl, by decide +kernel, by decide +kernel, by decide +kernel⟩
theorem kX13_parted_48 : ev_K mX13_parted 48 mX13_parts (some RX13) 2 := ev_kV dX13_parted_48 ⟨ev_in (List.mem_of_getElem? (i := 1240) (by decide +kernel)) rfl, imX13_parts, seX13_parts, ini_X13, cdX13_parts⟩ ⟨rfl, by decide +kernel, by decide +kernel, by decide +kernel⟩
theorem kX13_parted_68 : ev_K mX13_parted 68 mX13_adds (some RX13) 3 := ev_kV dX13_parted_68 ⟨ev_in (List.mem_of_getElem? (i := 1244) (by decide +kernel)) rfl, imX13_adds, seX13_adds, ini_X13, cdX13_adds⟩ ⟨rfl, by decide +kernel, by decide +kernel, by decide +kernel⟩
theorem kX13_spread_7 : ev_K mX13_spread 7 mX13_isStick (some RX13) 2 := ev_kV dX13_spread_7 ⟨ev_in (List.mem_of_getElem? (i := 1100) (by decide +kernel)) rfl, imX13_isStick, seX13_isStick, ini_X13, cdX13_isStick⟩ ⟨rfl, by decide +kernel, by decide +kernel, by decide +kernel⟩
theorem kX13_out_7 : ev_K mX13_out 7 mX13_isStick (some RX13) 2 := ev_kV dX13_out_7 ⟨ev_in (List.mem_of_getElem? (i := 1100) (by decide +kernel)) rfl, imX13_isStick, seX13_isStick, ini_X13, cdX13_isStick⟩ ⟨rfl, by decide +kernel, by decide +kernel, by decide +kernel⟩
theorem kX13_out_17 : ev_K mX13_out 17 mX13_in none 3 := ev_kS dX13_out_17 ⟨ev_in (List.mem_of_getElem? (i := 1050) (by decide +kernel)) rfl, smX13_in, ini_X13, cdX13_in⟩ ⟨by decide +kernel, by decide +kernel, by decide +kernel⟩
theorem kX13_out_187 : ev_K mX13_out 187 mX13_size none 1 := ev_kS dX13_out_187 ⟨ev_in (List.mem_of_getElem? (i := 1164) (by decide +kernel)) rfl, smX13_size, ini_X13, cdX13_size⟩ ⟨by decide +kernel, by decide +kernel, by decide +kernel⟩
theorem kX13_rate_8 : ev_K mX13_rate 8 mX13_in none 3 := ev_kS dX13_rate_8 ⟨ev_in (List.mem_of_getElem? (i := 1050) (by decide +kernel)) rfl, smX13_in, ini_X13, cdX13_in⟩ ⟨by decide +kernel, by decide +kernel, by decide +kernel⟩
theorem kX13_rate_16 : ev_K mX13_rate 16 mX13_isStick (some RX13) 2 := ev_kV dX13_rate_16 ⟨ev_in (List.mem_of_getElem? (i := 1100) (by decide +kernel)) rfl, imX13_isStick, seX13_isStick, ini_X13, cdX13_isStick⟩ ⟨rfl, by decide +kernel, by decide +kernel, by decide +kernel⟩
theorem kX13_rate_35 : ev_K mX13_rate 35 mX13_fliesWith (some RX13) 3 := ev_kV dX13_rate_35 ⟨ev_in (List.mem_of_getElem? (i := 1175) (by decide +kernel)) rfl, imX13_fliesWith, seX13_fliesWith, ini_X13, cdX13_fliesWith⟩ ⟨rfl, by decide +kernel, by decide +kernel, by decide +kernel⟩
theorem flX13_225 : ev_FL RX13 225 13 1 := ⟨(RX13, TX13, 36), rfl, by decide, ev_in (List.mem_of_getElem? (i := 937) (by decide +kernel)) rfl, in_X13, rfl⟩
theorem coX13_228 : Cond.constantLong RX13 228 (11) ∈ ev_TB := ev_in (List.mem_of_getElem? (i := 1267) (by decide +kernel)) rfl
theorem coX13_230 : Cond.constantLong RX13 230 (101) ∈ ev_TB := ev_in (List.mem_of_getElem? (i := 1268) (by decide +kernel)) rfl
theorem coX13_232 : Cond.constantLong RX13 232 (1011) ∈ ev_TB := ev_in (List.mem_of_getElem? (i := 1269) (by decide +kernel)) rfl
theorem coX13_234 : Cond.constantLong RX13 234 (10101) ∈ ev_TB := ev_in (List.mem_of_getElem? (i := 1270) (by decide +kernel)) rfl
theorem coX13_236 : Cond.constantLong RX13 236 (100001) ∈ ev_TB := ev_in (List.mem_of_getElem? (i := 1271) (by decide +kernel)) rfl
theorem fpX13_225 : ev_FP RX13 225 13 1 .long false := ⟨(RX13, TX13, 36), tyX13, rfl, by decide, ev_in (List.mem_of_getElem? (i := 937) (by decide +kernel)) rfl, in_X13, rfl, tyX13_ok, nmX13, by decide +kernel, rfl, fun h => by first | rfl | cases h⟩
theorem kX13_keep_8 : ev_K mX13_keep 8 mX13_in none 3 := ev_kS dX13_keep_8 ⟨ev_in (List.mem_of_getElem? (i := 1050) (by decide +kernel)) rfl, smX13_in, ini_X13, cdX13_in⟩ ⟨by decide +kernel, by decide +kernel, by decide +kernel⟩
theorem flX13_16 : ev_FL RX13 16 13 10 := ⟨(RX13, TX13, 36), rfl, by decide, ev_in (List.mem_of_getElem? (i := 946) (by decide +kernel)) rfl, in_X13, rfl⟩
theorem kX13_back_8 : ev_K mX13_back 8 mX13_in none 3 := ev_kS dX13_back_8 ⟨ev_in (List.mem_of_getElem? (i := 1050) (by decide +kernel)) rfl, smX13_in, ini_X13, cdX13_in⟩ ⟨by decide +kernel, by decide +kernel, by decide +kernel⟩
theorem coJ6_265 : Cond.constant RJ6 265 (1431655765) ∈ ev_TB := ev_in (List.mem_of_getElem? (i := 755) (by decide +kernel)) rfl
theorem coJ6_266 : Cond.constant RJ6 266 (858993459) ∈ ev_TB := ev_in (List.mem_of_getElem? (i := 756) (by decide +kernel)) rfl
theorem coJ6_267 : Cond.constant RJ6 267 (252645135) ∈ ev_TB := ev_in (List.mem_of_getElem? (i := 757) (by decide +kernel)) rfl
theorem fwJ0_9 : Cond.fieldLink RJ0 9 "java/lang/String" "value" "[B" ∈ ev_TB := ev_in (List.mem_of_getElem? (i := 1289) (by decide +kernel)) rfl
theorem cdJ0_coder_7d493 : ev_code mJ0_coder_7d493 ∈ ev_TB := ev_in (List.mem_of_getElem? (i := 452) (by decide +kernel)) rfl
theorem imJ0_coder_7d493 : Cond.instanceMethod yJ0_coder_7d493 ∈ ev_TB := ev_in (List.mem_of_getElem? (i := 450) (by decide +kernel)) rfl
theorem seJ0_coder_7d493 : Cond.selects RJ0 yJ0_coder_7d493 yJ0_coder_7d493 ∈ ev_TB := ev_in (List.mem_of_getElem? (i := 451) (by decide +kernel)) rfl
theorem kJ0_length_8abf5_6 : ev_K mJ0_length_8abf5 6 mJ0_coder_7d493 (some RJ0) 1 := ev_kV dJ0_length_8abf5_6 ⟨ev_in (List.mem_of_getElem? (i := 449) (by decide +kernel)) rfl, imJ0_coder_7d493, seJ0_coder_7d493, ini_J0, cdJ0_coder_7d493⟩ ⟨rfl, by decide +kernel, by decide +kernel, by decide +kernel⟩
theorem cdJ0_isLatin1_aae02 : ev_code mJ0_isLatin1_aae02 ∈ ev_TB := ev_in (List.mem_of_getElem? (i := 462) (by decide +kernel)) rfl
theorem imJ0_isLatin1_aae02 : Cond.instanceMethod yJ0_isLatin1_aae02 ∈ ev_TB := ev_in (List.mem_of_getElem? (i := 460) (by decide +kernel)) rfl
theorem seJ0_isLatin1_aae02 : Cond.selects RJ0 yJ0_isLatin1_aae02 yJ0_isLatin1_aae02 ∈ ev_TB := ev_in (List.mem_of_getElem? (i := 461) (by decide +kernel)) rfl
theorem kJ0_charAt_5068e_1 : ev_K mJ0_charAt_5068e 1 mJ0_isLatin1_aae02 (some RJ0) 1 := ev_kV dJ0_charAt_5068e_1 ⟨ev_in (List.mem_of_getElem? (i := 459) (by decide +kernel)) rfl, imJ0_isLatin1_aae02, seJ0_isLatin1_aae02, ini_J0, cdJ0_isLatin1_aae02⟩ ⟨rfl, by decide +kernel, by decide +kernel, by decide +kernel⟩
theorem cdJ1_charAt_3b067 : ev_code mJ1_charAt_3b067 ∈ ev_TB := ev_in (List.mem_of_getElem? (i := 465) (by decide +kernel)) rfl
theorem ini_J1 : Cond.initialized RJ1 ∈ ev_TB := ev_in (List.mem_of_getElem? (i := 58) (by decide +kernel)) rfl
theorem smJ1_charAt_3b067 : Cond.static yJ1_charAt_3b067 ∈ ev_TB := ev_in (List.mem_of_getElem? (i := 464) (by decide +kernel)) rfl
theorem kJ0_charAt_5068e_12 : ev_K mJ0_charAt_5068e 12 mJ1_charAt_3b067 none 2 := ev_kS dJ0_charAt_5068e_12 ⟨ev_in (List.mem_of_getElem? (i := 463) (by decide +kernel)) rfl, smJ1_charAt_3b067, ini_J1, cdJ1_charAt_3b067⟩ ⟨by decide +kernel, by decide +kernel, by decide +kernel⟩
theorem fwJ0_38 : Cond.fieldLink RJ0 38 "java/lang/String" "COMPACT_STRINGS" "Z" ∈ ev_TB := ev_in (List.mem_of_getElem? (i := 453) (by decide +kernel)) rfl
theorem fwJ0_15 : Cond.fieldLink RJ0 15 "java/lang/String" "coder" "B" ∈ ev_TB := ev_in (List.mem_of_getElem? (i := 1290) (by decide +kernel)) rfl
theorem fwJ0_1053 : Cond.fieldLink RJ0 1053 "jdk/internal/util/Preconditions" "SIOOBE_FORMATTER" "Ljava/util/function/BiFunction;" ∈ ev_TB := ev_in (List.mem_of_getElem? (i := 469) (by decide +kernel)) rfl
theorem cdJ3_checkIndex_8e157 : ev_code mJ3_checkIndex_8e157 ∈ ev_TB := ev_in (List.mem_of_getElem? (i := 473) (by decide +kernel)) rfl
theorem ini_J3 : Cond.initialized RJ3 ∈ ev_TB := ev_in (List.mem_of_getElem? (i := 59) (by decide +kernel)) rfl
theorem smJ3_checkIndex_8e157 : Cond.static yJ3_checkIndex_8e157 ∈ ev_TB := ev_in (List.mem_of_getElem? (i := 472) (by decide +kernel)) rfl
theorem kJ0_checkIndex_df160_5 : ev_K mJ0_checkIndex_df160 5 mJ3_checkIndex_8e157 none 3 := ev_kS dJ0_checkIndex_df160_5 ⟨ev_in (List.mem_of_getElem? (i := 471) (by decide +kernel)) rfl, smJ3_checkIndex_8e157, ini_J3, cdJ3_checkIndex_8e157⟩ ⟨by decide +kernel, by decide +kernel, by decide +kernel⟩
theorem cdJ0_checkIndex_df160 : ev_code mJ0_checkIndex_df160 ∈ ev_TB := ev_in (List.mem_of_getElem? (i := 468) (by decide +kernel)) rfl
theorem smJ0_checkIndex_df160 : Cond.static yJ0_checkIndex_df160 ∈ ev_TB := ev_in (List.mem_of_getElem? (i := 467) (by decide +kernel)) rfl
theorem kJ1_charAt_3b067_3 : ev_K mJ1_charAt_3b067 3 mJ0_checkIndex_df160 none 2 := ev_kS dJ1_charAt_3b067_3 ⟨ev_in (List.mem_of_getElem? (i := 466) (by decide +kernel)) rfl, smJ0_checkIndex_df160, ini_J0, cdJ0_checkIndex_df160⟩ ⟨by decide +kernel, by decide +kernel, by decide +kernel⟩
theorem nwL_7 : ev_NW RL 7 12 [.null, .null, .null, .null, .null, .null, .null, .null, .null, .null, .null, .int 0] 12 := ⟨(RX12, TX12, 12), tyX12, rfl, rfl, ev_in (List.mem_of_getElem? (i := 63) (by decide +kernel)) rfl, ev_in (List.mem_of_getElem? (i := 64) (by decide +kernel)) rfl, ini_X12, in_X12, tyX12_ok, fun j hj => by
  match j, hj with
  | 0, _ => exact ⟨rfl, fun _ => rfl⟩
  | 1, _ => exact ⟨rfl, fun _ => rfl⟩
  | 2, _ => exact ⟨rfl, fun _ => rfl⟩
  | 3, _ => exact ⟨rfl, fun _ => rfl⟩
  | 4, _ => exact ⟨rfl, fun _ => rfl⟩
  | 5, _ => exact ⟨rfl, fun _ => rfl⟩
  | 6, _ => exact ⟨rfl, fun _ => rfl⟩
  | 7, _ => exact ⟨rfl, fun _ => rfl⟩
  | 8, _ => exact ⟨rfl, fun _ => rfl⟩
  | 9, _ => exact ⟨rfl, fun _ => rfl⟩
  | 10, _ => exact ⟨rfl, fun _ => rfl⟩
  | 11, _ => exact ⟨rfl, fun _ => rfl⟩
  | j + 12, hj => exact absurd hj (by show ¬ j + 12 < 12; omega)⟩
theorem cdX12_init : ev_code mX12_init ∈ ev_TB := ev_in (List.mem_of_getElem? (i := 67) (by decide +kernel)) rfl
theorem imX12_init : Cond.instanceMethod yX12_init ∈ ev_TB := ev_in (List.mem_of_getElem? (i := 66) (by decide +kernel)) rfl
theorem kL_law_4 : ev_K mL_law 4 mX12_init (some RX12) 1 := ev_kI dL_law_4 rfl ⟨ev_in (List.mem_of_getElem? (i := 65) (by decide +kernel)) rfl, imX12_init, ini_X12, cdX12_init⟩ rfl ⟨by decide +kernel, by decide +kernel, by decide +kernel⟩
theorem nwL_10 : ev_NW RL 10 13 [.int 0, .long 0, .null, .int 0, .int 0, .int 0, .int 0, .int 0, .int 0, .null, .null, .null, .int 0, .int 0, .int 0, .null, .null, .null, .null, .null, .int 0, .int 0, .int 0, .null, .null, .int 0, .int 0, .int 0, .int 0, .int 0, .int 0, .null, .null, .null, .long 0, .long 0] 36 := ⟨(RX13, TX13, 36), tyX13, rfl, rfl, ev_in (List.mem_of_getElem? (i := 930) (by decide +kernel)) rfl, ev_in (List.mem_of_getElem? (i := 931) (by decide +kernel)) rfl, ini_X13, in_X13, tyX13_ok, fun j hj => by
  match j, hj with
  | 0, _ => exact ⟨rfl, fun _ => rfl⟩
  | 1, _ => exact ⟨rfl, fun _ => rfl⟩
  | 2, _ => exact ⟨rfl, fun _ => rfl⟩
  | 3, _ => exact ⟨rfl, fun _ => rfl⟩
  | 4, _ => exact ⟨rfl, fun _ => rfl⟩
  | 5, _ => exact ⟨rfl, fun _ => rfl⟩
  | 6, _ => exact ⟨rfl, fun _ => rfl⟩
  | 7, _ => exact ⟨rfl, fun _ => rfl⟩
  | 8, _ => exact ⟨rfl, fun _ => rfl⟩
  | 9, _ => exact ⟨rfl, fun _ => rfl⟩
  | 10, _ => exact ⟨rfl, fun _ => rfl⟩
  | 11, _ => exact ⟨rfl, fun _ => rfl⟩
  | 12, _ => exact ⟨rfl, fun _ => rfl⟩
  | 13, _ => exact ⟨rfl, fun _ => rfl⟩
  | 14, _ => exact ⟨rfl, fun _ => rfl⟩
  | 15, _ => exact ⟨rfl, fun _ => rfl⟩
  | 16, _ => exact ⟨rfl, fun _ => rfl⟩
  | 17, _ => exact ⟨rfl, fun _ => rfl⟩
  | 18, _ => exact ⟨rfl, fun _ => rfl⟩
  | 19, _ => exact ⟨rfl, fun _ => rfl⟩
  | 20, _ => exact ⟨rfl, fun _ => rfl⟩
  | 21, _ => exact ⟨rfl, fun _ => rfl⟩
  | 22, _ => exact ⟨rfl, fun _ => rfl⟩
  | 23, _ => exact ⟨rfl, fun _ => rfl⟩
  | 24, _ => exact ⟨rfl, fun _ => rfl⟩
  | 25, _ => exact ⟨rfl, fun _ => rfl⟩
  | 26, _ => exact ⟨rfl, fun _ => rfl⟩
  | 27, _ => exact ⟨rfl, fun _ => rfl⟩
  | 28, _ => exact ⟨rfl, fun _ => rfl⟩
  | 29, _ => exact ⟨rfl, fun _ => rfl⟩
  | 30, _ => exact ⟨rfl, fun _ => rfl⟩
  | 31, _ => exact ⟨rfl, fun _ => rfl⟩
  | 32, _ => exact ⟨rfl, fun _ => rfl⟩
  | 33, _ => exact ⟨rfl, fun _ => rfl⟩
  | 34, _ => exact ⟨rfl, fun _ => rfl⟩
  | 35, _ => exact ⟨rfl, fun _ => rfl⟩
  | j + 36, hj => exact absurd hj (by show ¬ j + 36 < 36; omega)⟩
theorem cdX13_init : ev_code mX13_init ∈ ev_TB := ev_in (List.mem_of_getElem? (i := 934) (by decide +kernel)) rfl
theorem imX13_init : Cond.instanceMethod yX13_init ∈ ev_TB := ev_in (List.mem_of_getElem? (i := 933) (by decide +kernel)) rfl
theorem kL_law_12 : ev_K mL_law 12 mX13_init (some RX13) 1 := ev_kI dL_law_12 rfl ⟨ev_in (List.mem_of_getElem? (i := 932) (by decide +kernel)) rfl, imX13_init, ini_X13, cdX13_init⟩ rfl ⟨by decide +kernel, by decide +kernel, by decide +kernel⟩
theorem coL_13 : Cond.constantLong RL 13 (4294967295) ∈ ev_TB := ev_in (List.mem_of_getElem? (i := 1288) (by decide +kernel)) rfl
theorem cdX12_type : ev_code mX12_type ∈ ev_TB := ev_in (List.mem_of_getElem? (i := 400) (by decide +kernel)) rfl
theorem imX12_type : Cond.instanceMethod yX12_type ∈ ev_TB := ev_in (List.mem_of_getElem? (i := 398) (by decide +kernel)) rfl
theorem seX12_type : Cond.selects RX12 yX12_type yX12_type ∈ ev_TB := ev_in (List.mem_of_getElem? (i := 399) (by decide +kernel)) rfl
theorem kL_law_202 : ev_K mL_law 202 mX12_type (some RX12) 3 := ev_kV dL_law_202 ⟨ev_in (List.mem_of_getElem? (i := 397) (by decide +kernel)) rfl, imX12_type, seX12_type, ini_X12, cdX12_type⟩ ⟨rfl, by decide +kernel, by decide +kernel, by decide +kernel⟩
theorem cdX13_type : ev_code mX13_type ∈ ev_TB := ev_in (List.mem_of_getElem? (i := 1049) (by decide +kernel)) rfl
theorem imX13_type : Cond.instanceMethod yX13_type ∈ ev_TB := ev_in (List.mem_of_getElem? (i := 1047) (by decide +kernel)) rfl
theorem seX13_type : Cond.selects RX13 yX13_type yX13_type ∈ ev_TB := ev_in (List.mem_of_getElem? (i := 1048) (by decide +kernel)) rfl
theorem kL_law_231 : ev_K mL_law 231 mX13_type (some RX13) 3 := ev_kV dL_law_231 ⟨ev_in (List.mem_of_getElem? (i := 1046) (by decide +kernel)) rfl, imX13_type, seX13_type, ini_X13, cdX13_type⟩ ⟨rfl, by decide +kernel, by decide +kernel, by decide +kernel⟩
theorem cdX12_clear : ev_code mX12_clear ∈ ev_TB := ev_in (List.mem_of_getElem? (i := 411) (by decide +kernel)) rfl
theorem imX12_clear : Cond.instanceMethod yX12_clear ∈ ev_TB := ev_in (List.mem_of_getElem? (i := 409) (by decide +kernel)) rfl
theorem seX12_clear : Cond.selects RX12 yX12_clear yX12_clear ∈ ev_TB := ev_in (List.mem_of_getElem? (i := 410) (by decide +kernel)) rfl
theorem kL_law_240 : ev_K mL_law 240 mX12_clear (some RX12) 1 := ev_kV dL_law_240 ⟨ev_in (List.mem_of_getElem? (i := 408) (by decide +kernel)) rfl, imX12_clear, seX12_clear, ini_X12, cdX12_clear⟩ ⟨rfl, by decide +kernel, by decide +kernel, by decide +kernel⟩
theorem cdX13_clear : ev_code mX13_clear ∈ ev_TB := ev_in (List.mem_of_getElem? (i := 1057) (by decide +kernel)) rfl
theorem imX13_clear : Cond.instanceMethod yX13_clear ∈ ev_TB := ev_in (List.mem_of_getElem? (i := 1055) (by decide +kernel)) rfl
theorem seX13_clear : Cond.selects RX13 yX13_clear yX13_clear ∈ ev_TB := ev_in (List.mem_of_getElem? (i := 1056) (by decide +kernel)) rfl
theorem kL_law_244 : ev_K mL_law 244 mX13_clear (some RX13) 1 := ev_kV dL_law_244 ⟨ev_in (List.mem_of_getElem? (i := 1054) (by decide +kernel)) rfl, imX13_clear, seX13_clear, ini_X13, cdX13_clear⟩ ⟨rfl, by decide +kernel, by decide +kernel, by decide +kernel⟩
theorem cdX12_arrows : ev_code mX12_arrows ∈ ev_TB := ev_in (List.mem_of_getElem? (i := 419) (by decide +kernel)) rfl
theorem imX12_arrows : Cond.instanceMethod yX12_arrows ∈ ev_TB := ev_in (List.mem_of_getElem? (i := 417) (by decide +kernel)) rfl
theorem seX12_arrows : Cond.selects RX12 yX12_arrows yX12_arrows ∈ ev_TB := ev_in (List.mem_of_getElem? (i := 418) (by decide +kernel)) rfl
theorem kL_law_253 : ev_K mL_law 253 mX12_arrows (some RX12) 1 := ev_kV dL_law_253 ⟨ev_in (List.mem_of_getElem? (i := 416) (by decide +kernel)) rfl, imX12_arrows, seX12_arrows, ini_X12, cdX12_arrows⟩ ⟨rfl, by decide +kernel, by decide +kernel, by decide +kernel⟩
theorem cdX13_arrows : ev_code mX13_arrows ∈ ev_TB := ev_in (List.mem_of_getElem? (i := 1061) (by decide +kernel)) rfl
theorem imX13_arrows : Cond.instanceMethod yX13_arrows ∈ ev_TB := ev_in (List.mem_of_getElem? (i := 1059) (by decide +kernel)) rfl
theorem seX13_arrows : Cond.selects RX13 yX13_arrows yX13_arrows ∈ ev_TB := ev_in (List.mem_of_getElem? (i := 1060) (by decide +kernel)) rfl
theorem kL_law_257 : ev_K mL_law 257 mX13_arrows (some RX13) 1 := ev_kV dL_law_257 ⟨ev_in (List.mem_of_getElem? (i := 1058) (by decide +kernel)) rfl, imX13_arrows, seX13_arrows, ini_X13, cdX13_arrows⟩ ⟨rfl, by decide +kernel, by decide +kernel, by decide +kernel⟩
theorem cdX12_stick : ev_code mX12_stick ∈ ev_TB := ev_in (List.mem_of_getElem? (i := 557) (by decide +kernel)) rfl
theorem imX12_stick : Cond.instanceMethod yX12_stick ∈ ev_TB := ev_in (List.mem_of_getElem? (i := 555) (by decide +kernel)) rfl
theorem seX12_stick : Cond.selects RX12 yX12_stick yX12_stick ∈ ev_TB := ev_in (List.mem_of_getElem? (i := 556) (by decide +kernel)) rfl
theorem kL_law_276 : ev_K mL_law 276 mX12_stick (some RX12) 3 := ev_kV dL_law_276 ⟨ev_in (List.mem_of_getElem? (i := 554) (by decide +kernel)) rfl, imX12_stick, seX12_stick, ini_X12, cdX12_stick⟩ ⟨rfl, by decide +kernel, by decide +kernel, by decide +kernel⟩
theorem cdX13_stick : ev_code mX13_stick ∈ ev_TB := ev_in (List.mem_of_getElem? (i := 1099) (by decide +kernel)) rfl
theorem imX13_stick : Cond.instanceMethod yX13_stick ∈ ev_TB := ev_in (List.mem_of_getElem? (i := 1097) (by decide +kernel)) rfl
theorem seX13_stick : Cond.selects RX13 yX13_stick yX13_stick ∈ ev_TB := ev_in (List.mem_of_getElem? (i := 1098) (by decide +kernel)) rfl
theorem kL_law_290 : ev_K mL_law 290 mX13_stick (some RX13) 3 := ev_kV dL_law_290 ⟨ev_in (List.mem_of_getElem? (i := 1096) (by decide +kernel)) rfl, imX13_stick, seX13_stick, ini_X13, cdX13_stick⟩ ⟨rfl, by decide +kernel, by decide +kernel, by decide +kernel⟩
theorem cdX12_bow : ev_code mX12_bow ∈ ev_TB := ev_in (List.mem_of_getElem? (i := 565) (by decide +kernel)) rfl
theorem imX12_bow : Cond.instanceMethod yX12_bow ∈ ev_TB := ev_in (List.mem_of_getElem? (i := 563) (by decide +kernel)) rfl
theorem seX12_bow : Cond.selects RX12 yX12_bow yX12_bow ∈ ev_TB := ev_in (List.mem_of_getElem? (i := 564) (by decide +kernel)) rfl
theorem kL_law_309 : ev_K mL_law 309 mX12_bow (some RX12) 3 := ev_kV dL_law_309 ⟨ev_in (List.mem_of_getElem? (i := 562) (by decide +kernel)) rfl, imX12_bow, seX12_bow, ini_X12, cdX12_bow⟩ ⟨rfl, by decide +kernel, by decide +kernel, by decide +kernel⟩
theorem cdX13_bow : ev_code mX13_bow ∈ ev_TB := ev_in (List.mem_of_getElem? (i := 1107) (by decide +kernel)) rfl
theorem imX13_bow : Cond.instanceMethod yX13_bow ∈ ev_TB := ev_in (List.mem_of_getElem? (i := 1105) (by decide +kernel)) rfl
theorem seX13_bow : Cond.selects RX13 yX13_bow yX13_bow ∈ ev_TB := ev_in (List.mem_of_getElem? (i := 1106) (by decide +kernel)) rfl
theorem kL_law_323 : ev_K mL_law 323 mX13_bow (some RX13) 3 := ev_kV dL_law_323 ⟨ev_in (List.mem_of_getElem? (i := 1104) (by decide +kernel)) rfl, imX13_bow, seX13_bow, ini_X13, cdX13_bow⟩ ⟨rfl, by decide +kernel, by decide +kernel, by decide +kernel⟩
theorem cdX12_archer : ev_code mX12_archer ∈ ev_TB := ev_in (List.mem_of_getElem? (i := 580) (by decide +kernel)) rfl
theorem imX12_archer : Cond.instanceMethod yX12_archer ∈ ev_TB := ev_in (List.mem_of_getElem? (i := 578) (by decide +kernel)) rfl
theorem seX12_archer : Cond.selects RX12 yX12_archer yX12_archer ∈ ev_TB := ev_in (List.mem_of_getElem? (i := 579) (by decide +kernel)) rfl
theorem kL_law_342 : ev_K mL_law 342 mX12_archer (some RX12) 3 := ev_kV dL_law_342 ⟨ev_in (List.mem_of_getElem? (i := 577) (by decide +kernel)) rfl, imX12_archer, seX12_archer, ini_X12, cdX12_archer⟩ ⟨rfl, by decide +kernel, by decide +kernel, by decide +kernel⟩
theorem cdX13_archer : ev_code mX13_archer ∈ ev_TB := ev_in (List.mem_of_getElem? (i := 1115) (by decide +kernel)) rfl
theorem imX13_archer : Cond.instanceMethod yX13_archer ∈ ev_TB := ev_in (List.mem_of_getElem? (i := 1113) (by decide +kernel)) rfl
theorem seX13_archer : Cond.selects RX13 yX13_archer yX13_archer ∈ ev_TB := ev_in (List.mem_of_getElem? (i := 1114) (by decide +kernel)) rfl
theorem kL_law_356 : ev_K mL_law 356 mX13_archer (some RX13) 3 := ev_kV dL_law_356 ⟨ev_in (List.mem_of_getElem? (i := 1112) (by decide +kernel)) rfl, imX13_archer, seX13_archer, ini_X13, cdX13_archer⟩ ⟨rfl, by decide +kernel, by decide +kernel, by decide +kernel⟩
theorem cdX12_tune : ev_code mX12_tune ∈ ev_TB := ev_in (List.mem_of_getElem? (i := 589) (by decide +kernel)) rfl
theorem imX12_tune : Cond.instanceMethod yX12_tune ∈ ev_TB := ev_in (List.mem_of_getElem? (i := 587) (by decide +kernel)) rfl
theorem seX12_tune : Cond.selects RX12 yX12_tune yX12_tune ∈ ev_TB := ev_in (List.mem_of_getElem? (i := 588) (by decide +kernel)) rfl
theorem kL_law_375 : ev_K mL_law 375 mX12_tune (some RX12) 3 := ev_kV dL_law_375 ⟨ev_in (List.mem_of_getElem? (i := 586) (by decide +kernel)) rfl, imX12_tune, seX12_tune, ini_X12, cdX12_tune⟩ ⟨rfl, by decide +kernel, by decide +kernel, by decide +kernel⟩
theorem cdX13_tune : ev_code mX13_tune ∈ ev_TB := ev_in (List.mem_of_getElem? (i := 1120) (by decide +kernel)) rfl
theorem imX13_tune : Cond.instanceMethod yX13_tune ∈ ev_TB := ev_in (List.mem_of_getElem? (i := 1118) (by decide +kernel)) rfl
theorem seX13_tune : Cond.selects RX13 yX13_tune yX13_tune ∈ ev_TB := ev_in (List.mem_of_getElem? (i := 1119) (by decide +kernel)) rfl
theorem kL_law_389 : ev_K mL_law 389 mX13_tune (some RX13) 3 := ev_kV dL_law_389 ⟨ev_in (List.mem_of_getElem? (i := 1117) (by decide +kernel)) rfl, imX13_tune, seX13_tune, ini_X13, cdX13_tune⟩ ⟨rfl, by decide +kernel, by decide +kernel, by decide +kernel⟩
theorem cdX12_cut : ev_code mX12_cut ∈ ev_TB := ev_in (List.mem_of_getElem? (i := 603) (by decide +kernel)) rfl
theorem imX12_cut : Cond.instanceMethod yX12_cut ∈ ev_TB := ev_in (List.mem_of_getElem? (i := 601) (by decide +kernel)) rfl
theorem seX12_cut : Cond.selects RX12 yX12_cut yX12_cut ∈ ev_TB := ev_in (List.mem_of_getElem? (i := 602) (by decide +kernel)) rfl
theorem kL_law_403 : ev_K mL_law 403 mX12_cut (some RX12) 2 := ev_kV dL_law_403 ⟨ev_in (List.mem_of_getElem? (i := 600) (by decide +kernel)) rfl, imX12_cut, seX12_cut, ini_X12, cdX12_cut⟩ ⟨rfl, by decide +kernel, by decide +kernel, by decide +kernel⟩
theorem cdX13_cut : ev_code mX13_cut ∈ ev_TB := ev_in (List.mem_of_getElem? (i := 1124) (by decide +kernel)) rfl
theorem imX13_cut : Cond.instanceMethod yX13_cut ∈ ev_TB := ev_in (List.mem_of_getElem? (i := 1122) (by decide +kernel)) rfl
theorem seX13_cut : Cond.selects RX13 yX13_cut yX13_cut ∈ ev_TB := ev_in (List.mem_of_getElem? (i := 1123) (by decide +kernel)) rfl
theorem kL_law_412 : ev_K mL_law 412 mX13_cut (some RX13) 2 := ev_kV dL_law_412 ⟨ev_in (List.mem_of_getElem? (i := 1121) (by decide +kernel)) rfl, imX13_cut, seX13_cut, ini_X13, cdX13_cut⟩ ⟨rfl, by decide +kernel, by decide +kernel, by decide +kernel⟩
theorem cdX12_scrape : ev_code mX12_scrape ∈ ev_TB := ev_in (List.mem_of_getElem? (i := 611) (by decide +kernel)) rfl
theorem imX12_scrape : Cond.instanceMethod yX12_scrape ∈ ev_TB := ev_in (List.mem_of_getElem? (i := 609) (by decide +kernel)) rfl
theorem seX12_scrape : Cond.selects RX12 yX12_scrape yX12_scrape ∈ ev_TB := ev_in (List.mem_of_getElem? (i := 610) (by decide +kernel)) rfl
theorem kL_law_426 : ev_K mL_law 426 mX12_scrape (some RX12) 2 := ev_kV dL_law_426 ⟨ev_in (List.mem_of_getElem? (i := 608) (by decide +kernel)) rfl, imX12_scrape, seX12_scrape, ini_X12, cdX12_scrape⟩ ⟨rfl, by decide +kernel, by decide +kernel, by decide +kernel⟩
theorem cdX13_scrape : ev_code mX13_scrape ∈ ev_TB := ev_in (List.mem_of_getElem? (i := 1128) (by decide +kernel)) rfl
theorem imX13_scrape : Cond.instanceMethod yX13_scrape ∈ ev_TB := ev_in (List.mem_of_getElem? (i := 1126) (by decide +kernel)) rfl
theorem seX13_scrape : Cond.selects RX13 yX13_scrape yX13_scrape ∈ ev_TB := ev_in (List.mem_of_getElem? (i := 1127) (by decide +kernel)) rfl
theorem kL_law_435 : ev_K mL_law 435 mX13_scrape (some RX13) 2 := ev_kV dL_law_435 ⟨ev_in (List.mem_of_getElem? (i := 1125) (by decide +kernel)) rfl, imX13_scrape, seX13_scrape, ini_X13, cdX13_scrape⟩ ⟨rfl, by decide +kernel, by decide +kernel, by decide +kernel⟩
theorem cdX12_load : ev_code mX12_load ∈ ev_TB := ev_in (List.mem_of_getElem? (i := 620) (by decide +kernel)) rfl
theorem imX12_load : Cond.instanceMethod yX12_load ∈ ev_TB := ev_in (List.mem_of_getElem? (i := 618) (by decide +kernel)) rfl
theorem seX12_load : Cond.selects RX12 yX12_load yX12_load ∈ ev_TB := ev_in (List.mem_of_getElem? (i := 619) (by decide +kernel)) rfl
theorem kL_law_449 : ev_K mL_law 449 mX12_load (some RX12) 2 := ev_kV dL_law_449 ⟨ev_in (List.mem_of_getElem? (i := 617) (by decide +kernel)) rfl, imX12_load, seX12_load, ini_X12, cdX12_load⟩ ⟨rfl, by decide +kernel, by decide +kernel, by decide +kernel⟩
theorem cdX13_load : ev_code mX13_load ∈ ev_TB := ev_in (List.mem_of_getElem? (i := 1136) (by decide +kernel)) rfl
theorem imX13_load : Cond.instanceMethod yX13_load ∈ ev_TB := ev_in (List.mem_of_getElem? (i := 1134) (by decide +kernel)) rfl
theorem seX13_load : Cond.selects RX13 yX13_load yX13_load ∈ ev_TB := ev_in (List.mem_of_getElem? (i := 1135) (by decide +kernel)) rfl
theorem kL_law_458 : ev_K mL_law 458 mX13_load (some RX13) 2 := ev_kV dL_law_458 ⟨ev_in (List.mem_of_getElem? (i := 1133) (by decide +kernel)) rfl, imX13_load, seX13_load, ini_X13, cdX13_load⟩ ⟨rfl, by decide +kernel, by decide +kernel, by decide +kernel⟩
theorem cdX12_turn : ev_code mX12_turn ∈ ev_TB := ev_in (List.mem_of_getElem? (i := 628) (by decide +kernel)) rfl
theorem imX12_turn : Cond.instanceMethod yX12_turn ∈ ev_TB := ev_in (List.mem_of_getElem? (i := 626) (by decide +kernel)) rfl
theorem seX12_turn : Cond.selects RX12 yX12_turn yX12_turn ∈ ev_TB := ev_in (List.mem_of_getElem? (i := 627) (by decide +kernel)) rfl
theorem kL_law_472 : ev_K mL_law 472 mX12_turn (some RX12) 2 := ev_kV dL_law_472 ⟨ev_in (List.mem_of_getElem? (i := 625) (by decide +kernel)) rfl, imX12_turn, seX12_turn, ini_X12, cdX12_turn⟩ ⟨rfl, by decide +kernel, by decide +kernel, by decide +kernel⟩
theorem cdX13_turn : ev_code mX13_turn ∈ ev_TB := ev_in (List.mem_of_getElem? (i := 1140) (by decide +kernel)) rfl
theorem imX13_turn : Cond.instanceMethod yX13_turn ∈ ev_TB := ev_in (List.mem_of_getElem? (i := 1138) (by decide +kernel)) rfl
theorem seX13_turn : Cond.selects RX13 yX13_turn yX13_turn ∈ ev_TB := ev_in (List.mem_of_getElem? (i := 1139) (by decide +kernel)) rfl
theorem kL_law_481 : ev_K mL_law 481 mX13_turn (some RX13) 2 := ev_kV dL_law_481 ⟨ev_in (List.mem_of_getElem? (i := 1137) (by decide +kernel)) rfl, imX13_turn, seX13_turn, ini_X13, cdX13_turn⟩ ⟨rfl, by decide +kernel, by decide +kernel, by decide +kernel⟩
theorem cdX12_least : ev_code mX12_least ∈ ev_TB := ev_in (List.mem_of_getElem? (i := 632) (by decide +kernel)) rfl
theorem imX12_least : Cond.instanceMethod yX12_least ∈ ev_TB := ev_in (List.mem_of_getElem? (i := 630) (by decide +kernel)) rfl
theorem seX12_least : Cond.selects RX12 yX12_least yX12_least ∈ ev_TB := ev_in (List.mem_of_getElem? (i := 631) (by decide +kernel)) rfl
theorem kL_law_515 : ev_K mL_law 515 mX12_least (some RX12) 6 := ev_kV dL_law_515 ⟨ev_in (List.mem_of_getElem? (i := 629) (by decide +kernel)) rfl, imX12_least, seX12_least, ini_X12, cdX12_least⟩ ⟨rfl, by decide +kernel, by decide +kernel, by decide +kernel⟩
theorem cdX13_least : ev_code mX13_least ∈ ev_TB := ev_in (List.mem_of_getElem? (i := 1144) (by decide +kernel)) rfl
theorem imX13_least : Cond.instanceMethod yX13_least ∈ ev_TB := ev_in (List.mem_of_getElem? (i := 1142) (by decide +kernel)) rfl
theorem seX13_least : Cond.selects RX13 yX13_least yX13_least ∈ ev_TB := ev_in (List.mem_of_getElem? (i := 1143) (by decide +kernel)) rfl
theorem kL_law_544 : ev_K mL_law 544 mX13_least (some RX13) 6 := ev_kV dL_law_544 ⟨ev_in (List.mem_of_getElem? (i := 1141) (by decide +kernel)) rfl, imX13_least, seX13_least, ini_X13, cdX13_least⟩ ⟨rfl, by decide +kernel, by decide +kernel, by decide +kernel⟩
theorem cdX12_flight : ev_code mX12_flight ∈ ev_TB := ev_in (List.mem_of_getElem? (i := 678) (by decide +kernel)) rfl
theorem imX12_flight : Cond.instanceMethod yX12_flight ∈ ev_TB := ev_in (List.mem_of_getElem? (i := 676) (by decide +kernel)) rfl
theorem seX12_flight : Cond.selects RX12 yX12_flight yX12_flight ∈ ev_TB := ev_in (List.mem_of_getElem? (i := 677) (by decide +kernel)) rfl
theorem kL_law_568 : ev_K mL_law 568 mX12_flight (some RX12) 4 := ev_kV dL_law_568 ⟨ev_in (List.mem_of_getElem? (i := 675) (by decide +kernel)) rfl, imX12_flight, seX12_flight, ini_X12, cdX12_flight⟩ ⟨rfl, by decide +kernel, by decide +kernel, by decide +kernel⟩
theorem cdX13_flight : ev_code mX13_flight ∈ ev_TB := ev_in (List.mem_of_getElem? (i := 1174) (by decide +kernel)) rfl
theorem imX13_flight : Cond.instanceMethod yX13_flight ∈ ev_TB := ev_in (List.mem_of_getElem? (i := 1172) (by decide +kernel)) rfl
theorem seX13_flight : Cond.selects RX13 yX13_flight yX13_flight ∈ ev_TB := ev_in (List.mem_of_getElem? (i := 1173) (by decide +kernel)) rfl
theorem kL_law_587 : ev_K mL_law 587 mX13_flight (some RX13) 4 := ev_kV dL_law_587 ⟨ev_in (List.mem_of_getElem? (i := 1171) (by decide +kernel)) rfl, imX13_flight, seX13_flight, ini_X13, cdX13_flight⟩ ⟨rfl, by decide +kernel, by decide +kernel, by decide +kernel⟩
theorem cdX12_band : ev_code mX12_band ∈ ev_TB := ev_in (List.mem_of_getElem? (i := 723) (by decide +kernel)) rfl
theorem imX12_band : Cond.instanceMethod yX12_band ∈ ev_TB := ev_in (List.mem_of_getElem? (i := 721) (by decide +kernel)) rfl
theorem seX12_band : Cond.selects RX12 yX12_band yX12_band ∈ ev_TB := ev_in (List.mem_of_getElem? (i := 722) (by decide +kernel)) rfl
theorem kL_law_616 : ev_K mL_law 616 mX12_band (some RX12) 5 := ev_kV dL_law_616 ⟨ev_in (List.mem_of_getElem? (i := 720) (by decide +kernel)) rfl, imX12_band, seX12_band, ini_X12, cdX12_band⟩ ⟨rfl, by decide +kernel, by decide +kernel, by decide +kernel⟩
theorem cdX13_band : ev_code mX13_band ∈ ev_TB := ev_in (List.mem_of_getElem? (i := 1182) (by decide +kernel)) rfl
theorem imX13_band : Cond.instanceMethod yX13_band ∈ ev_TB := ev_in (List.mem_of_getElem? (i := 1180) (by decide +kernel)) rfl
theorem seX13_band : Cond.selects RX13 yX13_band yX13_band ∈ ev_TB := ev_in (List.mem_of_getElem? (i := 1181) (by decide +kernel)) rfl
theorem kL_law_640 : ev_K mL_law 640 mX13_band (some RX13) 5 := ev_kV dL_law_640 ⟨ev_in (List.mem_of_getElem? (i := 1179) (by decide +kernel)) rfl, imX13_band, seX13_band, ini_X13, cdX13_band⟩ ⟨rfl, by decide +kernel, by decide +kernel, by decide +kernel⟩
theorem cdX12_says : ev_code mX12_says ∈ ev_TB := ev_in (List.mem_of_getElem? (i := 729) (by decide +kernel)) rfl
theorem imX12_says : Cond.instanceMethod yX12_says ∈ ev_TB := ev_in (List.mem_of_getElem? (i := 727) (by decide +kernel)) rfl
theorem seX12_says : Cond.selects RX12 yX12_says yX12_says ∈ ev_TB := ev_in (List.mem_of_getElem? (i := 728) (by decide +kernel)) rfl
theorem kL_law_664 : ev_K mL_law 664 mX12_says (some RX12) 4 := ev_kV dL_law_664 ⟨ev_in (List.mem_of_getElem? (i := 726) (by decide +kernel)) rfl, imX12_says, seX12_says, ini_X12, cdX12_says⟩ ⟨rfl, by decide +kernel, by decide +kernel, by decide +kernel⟩
theorem cdX13_says : ev_code mX13_says ∈ ev_TB := ev_in (List.mem_of_getElem? (i := 1186) (by decide +kernel)) rfl
theorem imX13_says : Cond.instanceMethod yX13_says ∈ ev_TB := ev_in (List.mem_of_getElem? (i := 1184) (by decide +kernel)) rfl
theorem seX13_says : Cond.selects RX13 yX13_says yX13_says ∈ ev_TB := ev_in (List.mem_of_getElem? (i := 1185) (by decide +kernel)) rfl
theorem kL_law_683 : ev_K mL_law 683 mX13_says (some RX13) 4 := ev_kV dL_law_683 ⟨ev_in (List.mem_of_getElem? (i := 1183) (by decide +kernel)) rfl, imX13_says, seX13_says, ini_X13, cdX13_says⟩ ⟨rfl, by decide +kernel, by decide +kernel, by decide +kernel⟩
theorem cdX12_alike : ev_code mX12_alike ∈ ev_TB := ev_in (List.mem_of_getElem? (i := 734) (by decide +kernel)) rfl
theorem imX12_alike : Cond.instanceMethod yX12_alike ∈ ev_TB := ev_in (List.mem_of_getElem? (i := 732) (by decide +kernel)) rfl
theorem seX12_alike : Cond.selects RX12 yX12_alike yX12_alike ∈ ev_TB := ev_in (List.mem_of_getElem? (i := 733) (by decide +kernel)) rfl
theorem kL_law_712 : ev_K mL_law 712 mX12_alike (some RX12) 5 := ev_kV dL_law_712 ⟨ev_in (List.mem_of_getElem? (i := 731) (by decide +kernel)) rfl, imX12_alike, seX12_alike, ini_X12, cdX12_alike⟩ ⟨rfl, by decide +kernel, by decide +kernel, by decide +kernel⟩
theorem cdX13_alike : ev_code mX13_alike ∈ ev_TB := ev_in (List.mem_of_getElem? (i := 1190) (by decide +kernel)) rfl
theorem imX13_alike : Cond.instanceMethod yX13_alike ∈ ev_TB := ev_in (List.mem_of_getElem? (i := 1188) (by decide +kernel)) rfl
theorem seX13_alike : Cond.selects RX13 yX13_alike yX13_alike ∈ ev_TB := ev_in (List.mem_of_getElem? (i := 1189) (by decide +kernel)) rfl
theorem kL_law_736 : ev_K mL_law 736 mX13_alike (some RX13) 5 := ev_kV dL_law_736 ⟨ev_in (List.mem_of_getElem? (i := 1187) (by decide +kernel)) rfl, imX13_alike, seX13_alike, ini_X13, cdX13_alike⟩ ⟨rfl, by decide +kernel, by decide +kernel, by decide +kernel⟩
theorem cdX12_turned : ev_code mX12_turned ∈ ev_TB := ev_in (List.mem_of_getElem? (i := 761) (by decide +kernel)) rfl
theorem imX12_turned : Cond.instanceMethod yX12_turned ∈ ev_TB := ev_in (List.mem_of_getElem? (i := 759) (by decide +kernel)) rfl
theorem seX12_turned : Cond.selects RX12 yX12_turned yX12_turned ∈ ev_TB := ev_in (List.mem_of_getElem? (i := 760) (by decide +kernel)) rfl
theorem kL_law_760 : ev_K mL_law 760 mX12_turned (some RX12) 4 := ev_kV dL_law_760 ⟨ev_in (List.mem_of_getElem? (i := 758) (by decide +kernel)) rfl, imX12_turned, seX12_turned, ini_X12, cdX12_turned⟩ ⟨rfl, by decide +kernel, by decide +kernel, by decide +kernel⟩
theorem cdX13_turned : ev_code mX13_turned ∈ ev_TB := ev_in (List.mem_of_getElem? (i := 1209) (by decide +kernel)) rfl
theorem imX13_turned : Cond.instanceMethod yX13_turned ∈ ev_TB := ev_in (List.mem_of_getElem? (i := 1207) (by decide +kernel)) rfl
theorem seX13_turned : Cond.selects RX13 yX13_turned yX13_turned ∈ ev_TB := ev_in (List.mem_of_getElem? (i := 1208) (by decide +kernel)) rfl
theorem kL_law_779 : ev_K mL_law 779 mX13_turned (some RX13) 4 := ev_kV dL_law_779 ⟨ev_in (List.mem_of_getElem? (i := 1206) (by decide +kernel)) rfl, imX13_turned, seX13_turned, ini_X13, cdX13_turned⟩ ⟨rfl, by decide +kernel, by decide +kernel, by decide +kernel⟩
theorem cdX12_wreck : ev_code mX12_wreck ∈ ev_TB := ev_in (List.mem_of_getElem? (i := 765) (by decide +kernel)) rfl
theorem imX12_wreck : Cond.instanceMethod yX12_wreck ∈ ev_TB := ev_in (List.mem_of_getElem? (i := 763) (by decide +kernel)) rfl
theorem seX12_wreck : Cond.selects RX12 yX12_wreck yX12_wreck ∈ ev_TB := ev_in (List.mem_of_getElem? (i := 764) (by decide +kernel)) rfl
theorem kL_law_803 : ev_K mL_law 803 mX12_wreck (some RX12) 4 := ev_kV dL_law_803 ⟨ev_in (List.mem_of_getElem? (i := 762) (by decide +kernel)) rfl, imX12_wreck, seX12_wreck, ini_X12, cdX12_wreck⟩ ⟨rfl, by decide +kernel, by decide +kernel, by decide +kernel⟩
theorem cdX13_wreck : ev_code mX13_wreck ∈ ev_TB := ev_in (List.mem_of_getElem? (i := 1213) (by decide +kernel)) rfl
theorem imX13_wreck : Cond.instanceMethod yX13_wreck ∈ ev_TB := ev_in (List.mem_of_getElem? (i := 1211) (by decide +kernel)) rfl
theorem seX13_wreck : Cond.selects RX13 yX13_wreck yX13_wreck ∈ ev_TB := ev_in (List.mem_of_getElem? (i := 1212) (by decide +kernel)) rfl
theorem kL_law_822 : ev_K mL_law 822 mX13_wreck (some RX13) 4 := ev_kV dL_law_822 ⟨ev_in (List.mem_of_getElem? (i := 1210) (by decide +kernel)) rfl, imX13_wreck, seX13_wreck, ini_X13, cdX13_wreck⟩ ⟨rfl, by decide +kernel, by decide +kernel, by decide +kernel⟩
theorem cdX12_feather : ev_code mX12_feather ∈ ev_TB := ev_in (List.mem_of_getElem? (i := 770) (by decide +kernel)) rfl
theorem imX12_feather : Cond.instanceMethod yX12_feather ∈ ev_TB := ev_in (List.mem_of_getElem? (i := 768) (by decide +kernel)) rfl
theorem seX12_feather : Cond.selects RX12 yX12_feather yX12_feather ∈ ev_TB := ev_in (List.mem_of_getElem? (i := 769) (by decide +kernel)) rfl
theorem kL_law_846 : ev_K mL_law 846 mX12_feather (some RX12) 4 := ev_kV dL_law_846 ⟨ev_in (List.mem_of_getElem? (i := 767) (by decide +kernel)) rfl, imX12_feather, seX12_feather, ini_X12, cdX12_feather⟩ ⟨rfl, by decide +kernel, by decide +kernel, by decide +kernel⟩
theorem cdX13_feather : ev_code mX13_feather ∈ ev_TB := ev_in (List.mem_of_getElem? (i := 1217) (by decide +kernel)) rfl
theorem imX13_feather : Cond.instanceMethod yX13_feather ∈ ev_TB := ev_in (List.mem_of_getElem? (i := 1215) (by decide +kernel)) rfl
theorem seX13_feather : Cond.selects RX13 yX13_feather yX13_feather ∈ ev_TB := ev_in (List.mem_of_getElem? (i := 1216) (by decide +kernel)) rfl
theorem kL_law_865 : ev_K mL_law 865 mX13_feather (some RX13) 4 := ev_kV dL_law_865 ⟨ev_in (List.mem_of_getElem? (i := 1214) (by decide +kernel)) rfl, imX13_feather, seX13_feather, ini_X13, cdX13_feather⟩ ⟨rfl, by decide +kernel, by decide +kernel, by decide +kernel⟩
theorem cdX12_warm : ev_code mX12_warm ∈ ev_TB := ev_in (List.mem_of_getElem? (i := 775) (by decide +kernel)) rfl
theorem imX12_warm : Cond.instanceMethod yX12_warm ∈ ev_TB := ev_in (List.mem_of_getElem? (i := 773) (by decide +kernel)) rfl
theorem seX12_warm : Cond.selects RX12 yX12_warm yX12_warm ∈ ev_TB := ev_in (List.mem_of_getElem? (i := 774) (by decide +kernel)) rfl
theorem kL_law_889 : ev_K mL_law 889 mX12_warm (some RX12) 4 := ev_kV dL_law_889 ⟨ev_in (List.mem_of_getElem? (i := 772) (by decide +kernel)) rfl, imX12_warm, seX12_warm, ini_X12, cdX12_warm⟩ ⟨rfl, by decide +kernel, by decide +kernel, by decide +kernel⟩
theorem cdX13_warm : ev_code mX13_warm ∈ ev_TB := ev_in (List.mem_of_getElem? (i := 1221) (by decide +kernel)) rfl
theorem imX13_warm : Cond.instanceMethod yX13_warm ∈ ev_TB := ev_in (List.mem_of_getElem? (i := 1219) (by decide +kernel)) rfl
theorem seX13_warm : Cond.selects RX13 yX13_warm yX13_warm ∈ ev_TB := ev_in (List.mem_of_getElem? (i := 1220) (by decide +kernel)) rfl
theorem kL_law_908 : ev_K mL_law 908 mX13_warm (some RX13) 4 := ev_kV dL_law_908 ⟨ev_in (List.mem_of_getElem? (i := 1218) (by decide +kernel)) rfl, imX13_warm, seX13_warm, ini_X13, cdX13_warm⟩ ⟨rfl, by decide +kernel, by decide +kernel, by decide +kernel⟩
theorem cdX12_shoot : ev_code mX12_shoot ∈ ev_TB := ev_in (List.mem_of_getElem? (i := 782) (by decide +kernel)) rfl
theorem imX12_shoot : Cond.instanceMethod yX12_shoot ∈ ev_TB := ev_in (List.mem_of_getElem? (i := 780) (by decide +kernel)) rfl
theorem seX12_shoot : Cond.selects RX12 yX12_shoot yX12_shoot ∈ ev_TB := ev_in (List.mem_of_getElem? (i := 781) (by decide +kernel)) rfl
theorem kL_law_932 : ev_K mL_law 932 mX12_shoot (some RX12) 4 := ev_kV dL_law_932 ⟨ev_in (List.mem_of_getElem? (i := 779) (by decide +kernel)) rfl, imX12_shoot, seX12_shoot, ini_X12, cdX12_shoot⟩ ⟨rfl, by decide +kernel, by decide +kernel, by decide +kernel⟩
theorem cdX13_shoot : ev_code mX13_shoot ∈ ev_TB := ev_in (List.mem_of_getElem? (i := 1225) (by decide +kernel)) rfl
theorem imX13_shoot : Cond.instanceMethod yX13_shoot ∈ ev_TB := ev_in (List.mem_of_getElem? (i := 1223) (by decide +kernel)) rfl
theorem seX13_shoot : Cond.selects RX13 yX13_shoot yX13_shoot ∈ ev_TB := ev_in (List.mem_of_getElem? (i := 1224) (by decide +kernel)) rfl
theorem kL_law_951 : ev_K mL_law 951 mX13_shoot (some RX13) 4 := ev_kV dL_law_951 ⟨ev_in (List.mem_of_getElem? (i := 1222) (by decide +kernel)) rfl, imX13_shoot, seX13_shoot, ini_X13, cdX13_shoot⟩ ⟨rfl, by decide +kernel, by decide +kernel, by decide +kernel⟩
theorem cdX12_shot : ev_code mX12_shot ∈ ev_TB := ev_in (List.mem_of_getElem? (i := 794) (by decide +kernel)) rfl
theorem imX12_shot : Cond.instanceMethod yX12_shot ∈ ev_TB := ev_in (List.mem_of_getElem? (i := 792) (by decide +kernel)) rfl
theorem seX12_shot : Cond.selects RX12 yX12_shot yX12_shot ∈ ev_TB := ev_in (List.mem_of_getElem? (i := 793) (by decide +kernel)) rfl
theorem kL_law_970 : ev_K mL_law 970 mX12_shot (some RX12) 3 := ev_kV dL_law_970 ⟨ev_in (List.mem_of_getElem? (i := 791) (by decide +kernel)) rfl, imX12_shot, seX12_shot, ini_X12, cdX12_shot⟩ ⟨rfl, by decide +kernel, by decide +kernel, by decide +kernel⟩
theorem cdX13_shot : ev_code mX13_shot ∈ ev_TB := ev_in (List.mem_of_getElem? (i := 1231) (by decide +kernel)) rfl
theorem imX13_shot : Cond.instanceMethod yX13_shot ∈ ev_TB := ev_in (List.mem_of_getElem? (i := 1229) (by decide +kernel)) rfl
theorem seX13_shot : Cond.selects RX13 yX13_shot yX13_shot ∈ ev_TB := ev_in (List.mem_of_getElem? (i := 1230) (by decide +kernel)) rfl
theorem kL_law_984 : ev_K mL_law 984 mX13_shot (some RX13) 3 := ev_kV dL_law_984 ⟨ev_in (List.mem_of_getElem? (i := 1228) (by decide +kernel)) rfl, imX13_shot, seX13_shot, ini_X13, cdX13_shot⟩ ⟨rfl, by decide +kernel, by decide +kernel, by decide +kernel⟩
theorem cdX12_wipe : ev_code mX12_wipe ∈ ev_TB := ev_in (List.mem_of_getElem? (i := 803) (by decide +kernel)) rfl
theorem imX12_wipe : Cond.instanceMethod yX12_wipe ∈ ev_TB := ev_in (List.mem_of_getElem? (i := 801) (by decide +kernel)) rfl
theorem seX12_wipe : Cond.selects RX12 yX12_wipe yX12_wipe ∈ ev_TB := ev_in (List.mem_of_getElem? (i := 802) (by decide +kernel)) rfl
theorem kL_law_993 : ev_K mL_law 993 mX12_wipe (some RX12) 1 := ev_kV dL_law_993 ⟨ev_in (List.mem_of_getElem? (i := 800) (by decide +kernel)) rfl, imX12_wipe, seX12_wipe, ini_X12, cdX12_wipe⟩ ⟨rfl, by decide +kernel, by decide +kernel, by decide +kernel⟩
theorem cdX13_wipe : ev_code mX13_wipe ∈ ev_TB := ev_in (List.mem_of_getElem? (i := 1235) (by decide +kernel)) rfl
theorem imX13_wipe : Cond.instanceMethod yX13_wipe ∈ ev_TB := ev_in (List.mem_of_getElem? (i := 1233) (by decide +kernel)) rfl
theorem seX13_wipe : Cond.selects RX13 yX13_wipe yX13_wipe ∈ ev_TB := ev_in (List.mem_of_getElem? (i := 1234) (by decide +kernel)) rfl
theorem kL_law_997 : ev_K mL_law 997 mX13_wipe (some RX13) 1 := ev_kV dL_law_997 ⟨ev_in (List.mem_of_getElem? (i := 1232) (by decide +kernel)) rfl, imX13_wipe, seX13_wipe, ini_X13, cdX13_wipe⟩ ⟨rfl, by decide +kernel, by decide +kernel, by decide +kernel⟩
theorem cdX12_parted : ev_code mX12_parted ∈ ev_TB := ev_in (List.mem_of_getElem? (i := 807) (by decide +kernel)) rfl
theorem imX12_parted : Cond.instanceMethod yX12_parted ∈ ev_TB := ev_in (List.mem_of_getElem? (i := 805) (by decide +kernel)) rfl
theorem seX12_parted : Cond.selects RX12 yX12_parted yX12_parted ∈ ev_TB := ev_in (List.mem_of_getElem? (i := 806) (by decide +kernel)) rfl
theorem kL_law_1006 : ev_K mL_law 1006 mX12_parted (some RX12) 1 := ev_kV dL_law_1006 ⟨ev_in (List.mem_of_getElem? (i := 804) (by decide +kernel)) rfl, imX12_parted, seX12_parted, ini_X12, cdX12_parted⟩ ⟨rfl, by decide +kernel, by decide +kernel, by decide +kernel⟩
theorem cdX13_parted : ev_code mX13_parted ∈ ev_TB := ev_in (List.mem_of_getElem? (i := 1239) (by decide +kernel)) rfl
theorem imX13_parted : Cond.instanceMethod yX13_parted ∈ ev_TB := ev_in (List.mem_of_getElem? (i := 1237) (by decide +kernel)) rfl
theorem seX13_parted : Cond.selects RX13 yX13_parted yX13_parted ∈ ev_TB := ev_in (List.mem_of_getElem? (i := 1238) (by decide +kernel)) rfl
theorem kL_law_1010 : ev_K mL_law 1010 mX13_parted (some RX13) 1 := ev_kV dL_law_1010 ⟨ev_in (List.mem_of_getElem? (i := 1236) (by decide +kernel)) rfl, imX13_parted, seX13_parted, ini_X13, cdX13_parted⟩ ⟨rfl, by decide +kernel, by decide +kernel, by decide +kernel⟩
theorem cdX12_spread : ev_code mX12_spread ∈ ev_TB := ev_in (List.mem_of_getElem? (i := 830) (by decide +kernel)) rfl
theorem imX12_spread : Cond.instanceMethod yX12_spread ∈ ev_TB := ev_in (List.mem_of_getElem? (i := 828) (by decide +kernel)) rfl
theorem seX12_spread : Cond.selects RX12 yX12_spread yX12_spread ∈ ev_TB := ev_in (List.mem_of_getElem? (i := 829) (by decide +kernel)) rfl
theorem kL_law_1024 : ev_K mL_law 1024 mX12_spread (some RX12) 2 := ev_kV dL_law_1024 ⟨ev_in (List.mem_of_getElem? (i := 827) (by decide +kernel)) rfl, imX12_spread, seX12_spread, ini_X12, cdX12_spread⟩ ⟨rfl, by decide +kernel, by decide +kernel, by decide +kernel⟩
theorem cdX13_spread : ev_code mX13_spread ∈ ev_TB := ev_in (List.mem_of_getElem? (i := 1254) (by decide +kernel)) rfl
theorem imX13_spread : Cond.instanceMethod yX13_spread ∈ ev_TB := ev_in (List.mem_of_getElem? (i := 1252) (by decide +kernel)) rfl
theorem seX13_spread : Cond.selects RX13 yX13_spread yX13_spread ∈ ev_TB := ev_in (List.mem_of_getElem? (i := 1253) (by decide +kernel)) rfl
theorem kL_law_1033 : ev_K mL_law 1033 mX13_spread (some RX13) 2 := ev_kV dL_law_1033 ⟨ev_in (List.mem_of_getElem? (i := 1251) (by decide +kernel)) rfl, imX13_spread, seX13_spread, ini_X13, cdX13_spread⟩ ⟨rfl, by decide +kernel, by decide +kernel, by decide +kernel⟩
theorem cdX12_out : ev_code mX12_out ∈ ev_TB := ev_in (List.mem_of_getElem? (i := 840) (by decide +kernel)) rfl
theorem imX12_out : Cond.instanceMethod yX12_out ∈ ev_TB := ev_in (List.mem_of_getElem? (i := 838) (by decide +kernel)) rfl
theorem seX12_out : Cond.selects RX12 yX12_out yX12_out ∈ ev_TB := ev_in (List.mem_of_getElem? (i := 839) (by decide +kernel)) rfl
theorem kL_law_1052 : ev_K mL_law 1052 mX12_out (some RX12) 3 := ev_kV dL_law_1052 ⟨ev_in (List.mem_of_getElem? (i := 837) (by decide +kernel)) rfl, imX12_out, seX12_out, ini_X12, cdX12_out⟩ ⟨rfl, by decide +kernel, by decide +kernel, by decide +kernel⟩
theorem cdX13_out : ev_code mX13_out ∈ ev_TB := ev_in (List.mem_of_getElem? (i := 1258) (by decide +kernel)) rfl
theorem imX13_out : Cond.instanceMethod yX13_out ∈ ev_TB := ev_in (List.mem_of_getElem? (i := 1256) (by decide +kernel)) rfl
theorem seX13_out : Cond.selects RX13 yX13_out yX13_out ∈ ev_TB := ev_in (List.mem_of_getElem? (i := 1257) (by decide +kernel)) rfl
theorem kL_law_1066 : ev_K mL_law 1066 mX13_out (some RX13) 3 := ev_kV dL_law_1066 ⟨ev_in (List.mem_of_getElem? (i := 1255) (by decide +kernel)) rfl, imX13_out, seX13_out, ini_X13, cdX13_out⟩ ⟨rfl, by decide +kernel, by decide +kernel, by decide +kernel⟩
theorem cdX12_lot : ev_code mX12_lot ∈ ev_TB := ev_in (List.mem_of_getElem? (i := 852) (by decide +kernel)) rfl
theorem imX12_lot : Cond.instanceMethod yX12_lot ∈ ev_TB := ev_in (List.mem_of_getElem? (i := 850) (by decide +kernel)) rfl
theorem seX12_lot : Cond.selects RX12 yX12_lot yX12_lot ∈ ev_TB := ev_in (List.mem_of_getElem? (i := 851) (by decide +kernel)) rfl
theorem kL_law_1080 : ev_K mL_law 1080 mX12_lot (some RX12) 2 := ev_kV dL_law_1080 ⟨ev_in (List.mem_of_getElem? (i := 849) (by decide +kernel)) rfl, imX12_lot, seX12_lot, ini_X12, cdX12_lot⟩ ⟨rfl, by decide +kernel, by decide +kernel, by decide +kernel⟩
theorem cdX13_lot : ev_code mX13_lot ∈ ev_TB := ev_in (List.mem_of_getElem? (i := 1262) (by decide +kernel)) rfl
theorem imX13_lot : Cond.instanceMethod yX13_lot ∈ ev_TB := ev_in (List.mem_of_getElem? (i := 1260) (by decide +kernel)) rfl
theorem seX13_lot : Cond.selects RX13 yX13_lot yX13_lot ∈ ev_TB := ev_in (List.mem_of_getElem? (i := 1261) (by decide +kernel)) rfl
theorem kL_law_1089 : ev_K mL_law 1089 mX13_lot (some RX13) 2 := ev_kV dL_law_1089 ⟨ev_in (List.mem_of_getElem? (i := 1259) (by decide +kernel)) rfl, imX13_lot, seX13_lot, ini_X13, cdX13_lot⟩ ⟨rfl, by decide +kernel, by decide +kernel, by decide +kernel⟩
theorem cdX12_rate : ev_code mX12_rate ∈ ev_TB := ev_in (List.mem_of_getElem? (i := 856) (by decide +kernel)) rfl
theorem imX12_rate : Cond.instanceMethod yX12_rate ∈ ev_TB := ev_in (List.mem_of_getElem? (i := 854) (by decide +kernel)) rfl
theorem seX12_rate : Cond.selects RX12 yX12_rate yX12_rate ∈ ev_TB := ev_in (List.mem_of_getElem? (i := 855) (by decide +kernel)) rfl
theorem kL_law_1108 : ev_K mL_law 1108 mX12_rate (some RX12) 3 := ev_kV dL_law_1108 ⟨ev_in (List.mem_of_getElem? (i := 853) (by decide +kernel)) rfl, imX12_rate, seX12_rate, ini_X12, cdX12_rate⟩ ⟨rfl, by decide +kernel, by decide +kernel, by decide +kernel⟩
theorem cdX13_rate : ev_code mX13_rate ∈ ev_TB := ev_in (List.mem_of_getElem? (i := 1266) (by decide +kernel)) rfl
theorem imX13_rate : Cond.instanceMethod yX13_rate ∈ ev_TB := ev_in (List.mem_of_getElem? (i := 1264) (by decide +kernel)) rfl
theorem seX13_rate : Cond.selects RX13 yX13_rate yX13_rate ∈ ev_TB := ev_in (List.mem_of_getElem? (i := 1265) (by decide +kernel)) rfl
theorem kL_law_1122 : ev_K mL_law 1122 mX13_rate (some RX13) 3 := ev_kV dL_law_1122 ⟨ev_in (List.mem_of_getElem? (i := 1263) (by decide +kernel)) rfl, imX13_rate, seX13_rate, ini_X13, cdX13_rate⟩ ⟨rfl, by decide +kernel, by decide +kernel, by decide +kernel⟩
theorem cdX12_keep : ev_code mX12_keep ∈ ev_TB := ev_in (List.mem_of_getElem? (i := 897) (by decide +kernel)) rfl
theorem imX12_keep : Cond.instanceMethod yX12_keep ∈ ev_TB := ev_in (List.mem_of_getElem? (i := 895) (by decide +kernel)) rfl
theorem seX12_keep : Cond.selects RX12 yX12_keep yX12_keep ∈ ev_TB := ev_in (List.mem_of_getElem? (i := 896) (by decide +kernel)) rfl
theorem kL_law_1136 : ev_K mL_law 1136 mX12_keep (some RX12) 2 := ev_kV dL_law_1136 ⟨ev_in (List.mem_of_getElem? (i := 894) (by decide +kernel)) rfl, imX12_keep, seX12_keep, ini_X12, cdX12_keep⟩ ⟨rfl, by decide +kernel, by decide +kernel, by decide +kernel⟩
theorem cdX13_keep : ev_code mX13_keep ∈ ev_TB := ev_in (List.mem_of_getElem? (i := 1275) (by decide +kernel)) rfl
theorem imX13_keep : Cond.instanceMethod yX13_keep ∈ ev_TB := ev_in (List.mem_of_getElem? (i := 1273) (by decide +kernel)) rfl
theorem seX13_keep : Cond.selects RX13 yX13_keep yX13_keep ∈ ev_TB := ev_in (List.mem_of_getElem? (i := 1274) (by decide +kernel)) rfl
theorem kL_law_1145 : ev_K mL_law 1145 mX13_keep (some RX13) 2 := ev_kV dL_law_1145 ⟨ev_in (List.mem_of_getElem? (i := 1272) (by decide +kernel)) rfl, imX13_keep, seX13_keep, ini_X13, cdX13_keep⟩ ⟨rfl, by decide +kernel, by decide +kernel, by decide +kernel⟩
theorem cdX12_back : ev_code mX12_back ∈ ev_TB := ev_in (List.mem_of_getElem? (i := 917) (by decide +kernel)) rfl
theorem imX12_back : Cond.instanceMethod yX12_back ∈ ev_TB := ev_in (List.mem_of_getElem? (i := 915) (by decide +kernel)) rfl
theorem seX12_back : Cond.selects RX12 yX12_back yX12_back ∈ ev_TB := ev_in (List.mem_of_getElem? (i := 916) (by decide +kernel)) rfl
theorem kL_law_1159 : ev_K mL_law 1159 mX12_back (some RX12) 2 := ev_kV dL_law_1159 ⟨ev_in (List.mem_of_getElem? (i := 914) (by decide +kernel)) rfl, imX12_back, seX12_back, ini_X12, cdX12_back⟩ ⟨rfl, by decide +kernel, by decide +kernel, by decide +kernel⟩
theorem cdX13_back : ev_code mX13_back ∈ ev_TB := ev_in (List.mem_of_getElem? (i := 1279) (by decide +kernel)) rfl
theorem imX13_back : Cond.instanceMethod yX13_back ∈ ev_TB := ev_in (List.mem_of_getElem? (i := 1277) (by decide +kernel)) rfl
theorem seX13_back : Cond.selects RX13 yX13_back yX13_back ∈ ev_TB := ev_in (List.mem_of_getElem? (i := 1278) (by decide +kernel)) rfl
theorem kL_law_1168 : ev_K mL_law 1168 mX13_back (some RX13) 2 := ev_kV dL_law_1168 ⟨ev_in (List.mem_of_getElem? (i := 1276) (by decide +kernel)) rfl, imX13_back, seX13_back, ini_X13, cdX13_back⟩ ⟨rfl, by decide +kernel, by decide +kernel, by decide +kernel⟩
theorem cdX12_count : ev_code mX12_count ∈ ev_TB := ev_in (List.mem_of_getElem? (i := 925) (by decide +kernel)) rfl
theorem imX12_count : Cond.instanceMethod yX12_count ∈ ev_TB := ev_in (List.mem_of_getElem? (i := 923) (by decide +kernel)) rfl
theorem seX12_count : Cond.selects RX12 yX12_count yX12_count ∈ ev_TB := ev_in (List.mem_of_getElem? (i := 924) (by decide +kernel)) rfl
theorem kL_law_1182 : ev_K mL_law 1182 mX12_count (some RX12) 2 := ev_kV dL_law_1182 ⟨ev_in (List.mem_of_getElem? (i := 922) (by decide +kernel)) rfl, imX12_count, seX12_count, ini_X12, cdX12_count⟩ ⟨rfl, by decide +kernel, by decide +kernel, by decide +kernel⟩
theorem cdX13_count : ev_code mX13_count ∈ ev_TB := ev_in (List.mem_of_getElem? (i := 1283) (by decide +kernel)) rfl
theorem imX13_count : Cond.instanceMethod yX13_count ∈ ev_TB := ev_in (List.mem_of_getElem? (i := 1281) (by decide +kernel)) rfl
theorem seX13_count : Cond.selects RX13 yX13_count yX13_count ∈ ev_TB := ev_in (List.mem_of_getElem? (i := 1282) (by decide +kernel)) rfl
theorem kL_law_1191 : ev_K mL_law 1191 mX13_count (some RX13) 2 := ev_kV dL_law_1191 ⟨ev_in (List.mem_of_getElem? (i := 1280) (by decide +kernel)) rfl, imX13_count, seX13_count, ini_X13, cdX13_count⟩ ⟨rfl, by decide +kernel, by decide +kernel, by decide +kernel⟩
theorem cdX12_trace : ev_code mX12_trace ∈ ev_TB := ev_in (List.mem_of_getElem? (i := 929) (by decide +kernel)) rfl
theorem imX12_trace : Cond.instanceMethod yX12_trace ∈ ev_TB := ev_in (List.mem_of_getElem? (i := 927) (by decide +kernel)) rfl
theorem seX12_trace : Cond.selects RX12 yX12_trace yX12_trace ∈ ev_TB := ev_in (List.mem_of_getElem? (i := 928) (by decide +kernel)) rfl
theorem kL_law_1200 : ev_K mL_law 1200 mX12_trace (some RX12) 1 := ev_kV dL_law_1200 ⟨ev_in (List.mem_of_getElem? (i := 926) (by decide +kernel)) rfl, imX12_trace, seX12_trace, ini_X12, cdX12_trace⟩ ⟨rfl, by decide +kernel, by decide +kernel, by decide +kernel⟩
theorem cdX13_trace : ev_code mX13_trace ∈ ev_TB := ev_in (List.mem_of_getElem? (i := 1287) (by decide +kernel)) rfl
theorem imX13_trace : Cond.instanceMethod yX13_trace ∈ ev_TB := ev_in (List.mem_of_getElem? (i := 1285) (by decide +kernel)) rfl
theorem seX13_trace : Cond.selects RX13 yX13_trace yX13_trace ∈ ev_TB := ev_in (List.mem_of_getElem? (i := 1286) (by decide +kernel)) rfl
theorem kL_law_1204 : ev_K mL_law 1204 mX13_trace (some RX13) 1 := ev_kV dL_law_1204 ⟨ev_in (List.mem_of_getElem? (i := 1284) (by decide +kernel)) rfl, imX13_trace, seX13_trace, ini_X13, cdX13_trace⟩ ⟨rfl, by decide +kernel, by decide +kernel, by decide +kernel⟩
