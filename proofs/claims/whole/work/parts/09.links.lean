abbrev YX8_init : ab_Y := (yX8_init, cX8_init, 2, none)
abbrev YX2_init : ab_Y := (yX2_init, cX2_init, 1, none)
abbrev YX6_init : ab_Y := (yX6_init, cX6_init, 1, none)
abbrev YX0_init : ab_Y := (yX0_init, cX0_init, 2, none)
abbrev YJ7_fill_53178 : ab_Y := (yJ7_fill_53178, cJ7_fill_53178, 4, none)
abbrev YX5_init : ab_Y := (yX5_init, cX5_init, 1, none)
abbrev YX3_init : ab_Y := (yX3_init, cX3_init, 1, none)
abbrev YX1_init : ab_Y := (yX1_init, cX1_init, 1, none)
abbrev YX4_init : ab_Y := (yX4_init, cX4_init, 2, none)
abbrev YX7_init : ab_Y := (yX7_init, cX7_init, 1, none)
abbrev YX8_monk : ab_Y := (yX8_monk, cX8_monk, 6, some .int)
abbrev YX8_isIn : ab_Y := (yX8_isIn, cX8_isIn, 3, some .boolean)
abbrev YX8_wear : ab_Y := (yX8_wear, cX8_wear, 3, some .int)
abbrev YX8_say : ab_Y := (yX8_say, cX8_say, 2, some .int)
abbrev YX2_put : ab_Y := (yX2_put, cX2_put, 2, some .boolean)
abbrev YX8_wipe : ab_Y := (yX8_wipe, cX8_wipe, 1, some .int)
abbrev YX2_clear : ab_Y := (yX2_clear, cX2_clear, 2, some .int)
abbrev YX8_fault : ab_Y := (yX8_fault, cX8_fault, 1, some .int)
abbrev YX2_firstFault : ab_Y := (yX2_firstFault, cX2_firstFault, 3, some .int)
abbrev YX2_behind : ab_Y := (yX2_behind, cX2_behind, 2, some .int)
abbrev YX8_judge : ab_Y := (yX8_judge, cX8_judge, 3, some .int)
abbrev YX8_tryText : ab_Y := (yX8_tryText, cX8_tryText, 1, some .int)
abbrev YX0_become : ab_Y := (yX0_become, cX0_become, 3, none)
abbrev YX5_become : ab_Y := (yX5_become, cX5_become, 2, none)
abbrev YX2_follow : ab_Y := (yX2_follow, cX2_follow, 7, some .int)
abbrev YX2_doPart : ab_Y := (yX2_doPart, cX2_doPart, 6, some .int)
abbrev YX0_passWeek : ab_Y := (yX0_passWeek, cX0_passWeek, 2, none)
abbrev YX5_lose : ab_Y := (yX5_lose, cX5_lose, 5, none)
abbrev YX5_dropOldest : ab_Y := (yX5_dropOldest, cX5_dropOldest, 2, none)
abbrev YX0_sin : ab_Y := (yX0_sin, cX0_sin, 3, some .int)
abbrev YX0_pray : ab_Y := (yX0_pray, cX0_pray, 3, some .int)
abbrev YX0_weave : ab_Y := (yX0_weave, cX0_weave, 3, some .int)
abbrev YX5_hasRoom : ab_Y := (yX5_hasRoom, cX5_hasRoom, 1, some .boolean)
abbrev YX5_add : ab_Y := (yX5_add, cX5_add, 4, none)
abbrev YX2_why : ab_Y := (yX2_why, cX2_why, 1, some .int)
abbrev YX2_parts : ab_Y := (yX2_parts, cX2_parts, 1, some .int)
abbrev YX8_done : ab_Y := (yX8_done, cX8_done, 2, some .int)
abbrev YX8_lock : ab_Y := (yX8_lock, cX8_lock, 5, some .int)
abbrev YX8_power : ab_Y := (yX8_power, cX8_power, 2, some .int)
abbrev YX5_powerLess : ab_Y := (yX5_powerLess, cX5_powerLess, 7, some .int)
abbrev YJ9_min_7cf53 : ab_Y := (yJ9_min_7cf53, cJ9_min_7cf53, 2, some .int)
abbrev YX8_bears : ab_Y := (yX8_bears, cX8_bears, 1, some .int)
abbrev YX0_bearsLess : ab_Y := (yX0_bearsLess, cX0_bearsLess, 3, some .int)
abbrev YX8_greatestLoad : ab_Y := (yX8_greatestLoad, cX8_greatestLoad, 11, some .int)
abbrev YJ9_max_7cf53 : ab_Y := (yJ9_max_7cf53, cJ9_max_7cf53, 2, some .int)
abbrev YX8_broken : ab_Y := (yX8_broken, cX8_broken, 2, some .int)
abbrev YX0_brokenUnder : ab_Y := (yX0_brokenUnder, cX0_brokenUnder, 6, some .int)
abbrev YX0_breaking : ab_Y := (yX0_breaking, cX0_breaking, 6, some .int)
abbrev YJ6_bitCount_0f7a4 : ab_Y := (yJ6_bitCount_0f7a4, cJ6_bitCount_0f7a4, 1, some .int)
abbrev YX8_share : ab_Y := (yX8_share, cX8_share, 6, some .long)
abbrev YX0_powerOf : ab_Y := (yX0_powerOf, cX0_powerOf, 2, some .int)
abbrev YX0_inchesOf : ab_Y := (yX0_inchesOf, cX0_inchesOf, 4, some .int)
abbrev YX5_lengthOf : ab_Y := (yX5_lengthOf, cX5_lengthOf, 4, some .int)
abbrev YX8_commonDivisor : ab_Y := (yX8_commonDivisor, cX8_commonDivisor, 6, some .int)
abbrev YX8_led : ab_Y := (yX8_led, cX8_led, 3, some .int)
abbrev YX8_load : ab_Y := (yX8_load, cX8_load, 3, some .int)
abbrev YX3_put : ab_Y := (yX3_put, cX3_put, 3, some .boolean)
abbrev YX8_drop : ab_Y := (yX8_drop, cX8_drop, 1, some .int)
abbrev YX3_clear : ab_Y := (yX3_clear, cX3_clear, 2, some .int)
abbrev YX8_best : ab_Y := (yX8_best, cX8_best, 2, some .int)
abbrev YX1_reckon : ab_Y := (yX1_reckon, cX1_reckon, 5, none)
abbrev YX3_become : ab_Y := (yX3_become, cX3_become, 2, none)
abbrev YX1_mostFrom : ab_Y := (yX1_mostFrom, cX1_mostFrom, 5, some .int)
abbrev YX1_worthBy : ab_Y := (yX1_worthBy, cX1_worthBy, 5, some .int)
abbrev YX1_crosses : ab_Y := (yX1_crosses, cX1_crosses, 3, some .boolean)
abbrev YX1_findOrder : ab_Y := (yX1_findOrder, cX1_findOrder, 5, none)
abbrev YX1_firstBest : ab_Y := (yX1_firstBest, cX1_firstBest, 5, some .int)
abbrev YX1_most : ab_Y := (yX1_most, cX1_most, 1, some .int)
abbrev YX1_turn : ab_Y := (yX1_turn, cX1_turn, 2, some .int)
abbrev YX8_renewed : ab_Y := (yX8_renewed, cX8_renewed, 5, some .int)
abbrev YX4_fewestInches : ab_Y := (yX4_fewestInches, cX4_fewestInches, 4, some .int)
abbrev YX4_sortByBasket : ab_Y := (yX4_sortByBasket, cX4_sortByBasket, 5, none)
abbrev YX0_powerInBasket : ab_Y := (yX0_powerInBasket, cX0_powerInBasket, 2, some .int)
abbrev YX4_tryFrom : ab_Y := (yX4_tryFrom, cX4_tryFrom, 6, none)
abbrev YX4_isHopeless : ab_Y := (yX4_isHopeless, cX4_isHopeless, 7, some .boolean)
abbrev YX4_foresee : ab_Y := (yX4_foresee, cX4_foresee, 4, none)
abbrev YX5_length : ab_Y := (yX5_length, cX5_length, 3, some .int)
abbrev YX4_tryStep : ab_Y := (yX4_tryStep, cX4_tryStep, 6, none)
abbrev YX4_holdsBehind : ab_Y := (yX4_holdsBehind, cX4_holdsBehind, 8, some .boolean)
abbrev YX4_wovenAhead : ab_Y := (yX4_wovenAhead, cX4_wovenAhead, 2, some .int)
abbrev YX8_soon : ab_Y := (yX8_soon, cX8_soon, 6, some .int)
abbrev YX0_giveAll : ab_Y := (yX0_giveAll, cX0_giveAll, 6, none)
abbrev YX8_weighed : ab_Y := (yX8_weighed, cX8_weighed, 3, some .int)
abbrev YX8_forget : ab_Y := (yX8_forget, cX8_forget, 1, some .int)
abbrev YX8_canBe : ab_Y := (yX8_canBe, cX8_canBe, 2, some .int)
abbrev YX7_find : ab_Y := (yX7_find, cX7_find, 5, none)
abbrev YJ6_numberOfTrailingZeros_0f7a4 : ab_Y := (yJ6_numberOfTrailingZeros_0f7a4, cJ6_numberOfTrailingZeros_0f7a4, 2, some .int)
abbrev YX7_fits : ab_Y := (yX7_fits, cX7_fits, 4, some .boolean)
abbrev YX8_sure : ab_Y := (yX8_sure, cX8_sure, 2, some .int)
abbrev YX7_inEach : ab_Y := (yX7_inEach, cX7_inEach, 3, some .int)
abbrev YX7_inNone : ab_Y := (yX7_inNone, cX7_inNone, 3, some .int)
abbrev YX7_bestToAsk : ab_Y := (yX7_bestToAsk, cX7_bestToAsk, 5, some .int)
abbrev YX7_mostAlike : ab_Y := (yX7_mostAlike, cX7_mostAlike, 5, some .int)
abbrev YX8_year : ab_Y := (yX8_year, cX8_year, 8, some .int)
abbrev YX0_drawDeeds : ab_Y := (yX0_drawDeeds, cX0_drawDeeds, 4, some .int)
abbrev YX8_image : ab_Y := (yX8_image, cX8_image, 2, some .int)
abbrev YX6_become : ab_Y := (yX6_become, cX6_become, 2, none)
abbrev YX8_restore : ab_Y := (yX8_restore, cX8_restore, 2, some .int)
abbrev YX8_told : ab_Y := (yX8_told, cX8_told, 2, some .int)
abbrev YX8_toldOfOne : ab_Y := (yX8_toldOfOne, cX8_toldOfOne, 2, some .int)
abbrev YX9_init : ab_Y := (yX9_init, cX9_init, 2, none)
abbrev YX9_monk : ab_Y := (yX9_monk, cX9_monk, 5, some .int)
abbrev YX9_isMonk : ab_Y := (yX9_isMonk, cX9_isMonk, 1, some .boolean)
abbrev YX9_in : ab_Y := (yX9_in, cX9_in, 6, some .boolean)
abbrev YX9_wear : ab_Y := (yX9_wear, cX9_wear, 3, some .int)
abbrev YX9_say : ab_Y := (yX9_say, cX9_say, 2, some .int)
abbrev YX9_wipe : ab_Y := (yX9_wipe, cX9_wipe, 2, some .int)
abbrev YX9_fault : ab_Y := (yX9_fault, cX9_fault, 4, some .int)
abbrev YX9_judge : ab_Y := (yX9_judge, cX9_judge, 3, some .int)
abbrev YX9_goText : ab_Y := (yX9_goText, cX9_goText, 2, some .boolean)
abbrev YX9_layNow : ab_Y := (yX9_layNow, cX9_layNow, 2, none)
abbrev YX9_does : ab_Y := (yX9_does, cX9_does, 5, some .int)
abbrev YX9_goWeek : ab_Y := (yX9_goWeek, cX9_goWeek, 1, none)
abbrev YX9_lose : ab_Y := (yX9_lose, cX9_lose, 6, none)
abbrev YX9_dropFirst : ab_Y := (yX9_dropFirst, cX9_dropFirst, 3, none)
abbrev YX9_whyNoMore : ab_Y := (yX9_whyNoMore, cX9_whyNoMore, 3, some .int)
abbrev YX9_whyNoLock : ab_Y := (yX9_whyNoLock, cX9_whyNoLock, 3, some .int)
abbrev YX9_weave : ab_Y := (yX9_weave, cX9_weave, 4, none)
abbrev YX9_done : ab_Y := (yX9_done, cX9_done, 1, some .int)
abbrev YX9_keepTried : ab_Y := (yX9_keepTried, cX9_keepTried, 2, none)
abbrev YX9_lock : ab_Y := (yX9_lock, cX9_lock, 5, some .int)
abbrev YX9_isRope : ab_Y := (yX9_isRope, cX9_isRope, 1, some .boolean)
abbrev YX9_power : ab_Y := (yX9_power, cX9_power, 2, some .int)
abbrev YX9_powerOf : ab_Y := (yX9_powerOf, cX9_powerOf, 4, some .int)
abbrev YX9_bears : ab_Y := (yX9_bears, cX9_bears, 1, some .int)
abbrev YX9_borne : ab_Y := (yX9_borne, cX9_borne, 6, some .int)
abbrev YX9_broken : ab_Y := (yX9_broken, cX9_broken, 7, some .int)
abbrev YX9_ones : ab_Y := (yX9_ones, cX9_ones, 3, some .int)
abbrev YX9_share : ab_Y := (yX9_share, cX9_share, 13, some .long)
abbrev YX9_inchesOf : ab_Y := (yX9_inchesOf, cX9_inchesOf, 5, some .int)
abbrev YX9_led : ab_Y := (yX9_led, cX9_led, 5, some .int)
abbrev YX9_load : ab_Y := (yX9_load, cX9_load, 3, some .int)
abbrev YX9_drop : ab_Y := (yX9_drop, cX9_drop, 2, some .int)
abbrev YX9_best : ab_Y := (yX9_best, cX9_best, 7, some .int)
abbrev YX9_layOrder : ab_Y := (yX9_layOrder, cX9_layOrder, 5, some .boolean)
abbrev YX9_worthOfOrder : ab_Y := (yX9_worthOfOrder, cX9_worthOfOrder, 3, some .int)
abbrev YX9_renewed : ab_Y := (yX9_renewed, cX9_renewed, 10, some .int)
abbrev YX9_badWeek : ab_Y := (yX9_badWeek, cX9_badWeek, 9, some .int)
abbrev YX9_soon : ab_Y := (yX9_soon, cX9_soon, 6, some .int)
abbrev YX9_sinAll : ab_Y := (yX9_sinAll, cX9_sinAll, 6, none)
abbrev YX9_weighed : ab_Y := (yX9_weighed, cX9_weighed, 3, some .int)
abbrev YX9_forget : ab_Y := (yX9_forget, cX9_forget, 2, some .int)
abbrev YX9_canBe : ab_Y := (yX9_canBe, cX9_canBe, 4, some .int)
abbrev YX9_fits : ab_Y := (yX9_fits, cX9_fits, 4, some .boolean)
abbrev YX9_weightOf : ab_Y := (yX9_weightOf, cX9_weightOf, 5, some .int)
abbrev YX9_sure : ab_Y := (yX9_sure, cX9_sure, 6, some .int)
abbrev YX9_ask : ab_Y := (yX9_ask, cX9_ask, 5, some .int)
abbrev YX9_alikeBy : ab_Y := (yX9_alikeBy, cX9_alikeBy, 5, some .int)
abbrev YX9_year : ab_Y := (yX9_year, cX9_year, 8, some .int)
abbrev YX9_doesBy : ab_Y := (yX9_doesBy, cX9_doesBy, 3, none)
abbrev YX9_image : ab_Y := (yX9_image, cX9_image, 2, some .int)
abbrev YX9_passAll : ab_Y := (yX9_passAll, cX9_passAll, 2, none)
abbrev YX9_pass : ab_Y := (yX9_pass, cX9_pass, 3, some .int)
abbrev YX9_restore : ab_Y := (yX9_restore, cX9_restore, 2, some .int)
abbrev YX9_told : ab_Y := (yX9_told, cX9_told, 3, some .int)
theorem mw_X8_init : ab_mw YX8_init 0 := ⟨ab_gw_of 43 (by decide +kernel) (by decide +kernel), ab_gw_of 61 (by decide +kernel) (by decide +kernel), ⟨by decide +kernel, by decide +kernel, by decide +kernel⟩, by decide⟩
theorem mw_X2_init : ab_mw YX2_init 0 := ⟨ab_gw_of 44 (by decide +kernel) (by decide +kernel), ab_gw_of 69 (by decide +kernel) (by decide +kernel), ⟨by decide +kernel, by decide +kernel, by decide +kernel⟩, by decide⟩
theorem mw_X6_init : ab_mw YX6_init 0 := ⟨ab_gw_of 45 (by decide +kernel) (by decide +kernel), ab_gw_of 84 (by decide +kernel) (by decide +kernel), ⟨by decide +kernel, by decide +kernel, by decide +kernel⟩, by decide⟩
theorem mw_X0_init : ab_mw YX0_init 0 := ⟨ab_gw_of 46 (by decide +kernel) (by decide +kernel), ab_gw_of 90 (by decide +kernel) (by decide +kernel), ⟨by decide +kernel, by decide +kernel, by decide +kernel⟩, by decide⟩
theorem mw_J7_fill_53178 : ab_mw YJ7_fill_53178 2 := ⟨ab_gw_of 47 (by decide +kernel) (by decide +kernel), ab_gw_of 96 (by decide +kernel) (by decide +kernel), ⟨by decide +kernel, by decide +kernel, by decide +kernel⟩, by decide⟩
theorem mw_X5_init : ab_mw YX5_init 0 := ⟨ab_gw_of 48 (by decide +kernel) (by decide +kernel), ab_gw_of 100 (by decide +kernel) (by decide +kernel), ⟨by decide +kernel, by decide +kernel, by decide +kernel⟩, by decide⟩
theorem mw_X3_init : ab_mw YX3_init 0 := ⟨ab_gw_of 49 (by decide +kernel) (by decide +kernel), ab_gw_of 159 (by decide +kernel) (by decide +kernel), ⟨by decide +kernel, by decide +kernel, by decide +kernel⟩, by decide⟩
theorem mw_X1_init : ab_mw YX1_init 0 := ⟨ab_gw_of 50 (by decide +kernel) (by decide +kernel), ab_gw_of 198 (by decide +kernel) (by decide +kernel), ⟨by decide +kernel, by decide +kernel, by decide +kernel⟩, by decide⟩
theorem mw_X4_init : ab_mw YX4_init 0 := ⟨ab_gw_of 51 (by decide +kernel) (by decide +kernel), ab_gw_of 220 (by decide +kernel) (by decide +kernel), ⟨by decide +kernel, by decide +kernel, by decide +kernel⟩, by decide⟩
theorem mw_X7_init : ab_mw YX7_init 0 := ⟨ab_gw_of 52 (by decide +kernel) (by decide +kernel), ab_gw_of 259 (by decide +kernel) (by decide +kernel), ⟨by decide +kernel, by decide +kernel, by decide +kernel⟩, by decide⟩
theorem mw_X8_monk : ab_mw YX8_monk 3 := ⟨ab_gw_of 43 (by decide +kernel) (by decide +kernel), ab_gw_of 304 (by decide +kernel) (by decide +kernel), ⟨by decide +kernel, by decide +kernel, by decide +kernel⟩, by decide⟩
theorem mw_X8_isIn : ab_mw YX8_isIn 3 := ⟨ab_gw_of 43 (by decide +kernel) (by decide +kernel), ab_gw_of 307 (by decide +kernel) (by decide +kernel), ⟨by decide +kernel, by decide +kernel, by decide +kernel⟩, by decide⟩
theorem mw_X8_wear : ab_mw YX8_wear 1 := ⟨ab_gw_of 43 (by decide +kernel) (by decide +kernel), ab_gw_of 311 (by decide +kernel) (by decide +kernel), ⟨by decide +kernel, by decide +kernel, by decide +kernel⟩, by decide⟩
theorem mw_X8_say : ab_mw YX8_say 1 := ⟨ab_gw_of 43 (by decide +kernel) (by decide +kernel), ab_gw_of 315 (by decide +kernel) (by decide +kernel), ⟨by decide +kernel, by decide +kernel, by decide +kernel⟩, by decide⟩
theorem mw_X2_put : ab_mw YX2_put 1 := ⟨ab_gw_of 44 (by decide +kernel) (by decide +kernel), ab_gw_of 319 (by decide +kernel) (by decide +kernel), ⟨by decide +kernel, by decide +kernel, by decide +kernel⟩, by decide⟩
theorem mw_X8_wipe : ab_mw YX8_wipe 0 := ⟨ab_gw_of 43 (by decide +kernel) (by decide +kernel), ab_gw_of 323 (by decide +kernel) (by decide +kernel), ⟨by decide +kernel, by decide +kernel, by decide +kernel⟩, by decide⟩
theorem mw_X2_clear : ab_mw YX2_clear 0 := ⟨ab_gw_of 44 (by decide +kernel) (by decide +kernel), ab_gw_of 327 (by decide +kernel) (by decide +kernel), ⟨by decide +kernel, by decide +kernel, by decide +kernel⟩, by decide⟩
theorem mw_X8_fault : ab_mw YX8_fault 0 := ⟨ab_gw_of 43 (by decide +kernel) (by decide +kernel), ab_gw_of 331 (by decide +kernel) (by decide +kernel), ⟨by decide +kernel, by decide +kernel, by decide +kernel⟩, by decide⟩
theorem mw_X2_firstFault : ab_mw YX2_firstFault 0 := ⟨ab_gw_of 44 (by decide +kernel) (by decide +kernel), ab_gw_of 335 (by decide +kernel) (by decide +kernel), ⟨by decide +kernel, by decide +kernel, by decide +kernel⟩, by decide⟩
theorem mw_X2_behind : ab_mw YX2_behind 2 := ⟨ab_gw_of 44 (by decide +kernel) (by decide +kernel), ab_gw_of 338 (by decide +kernel) (by decide +kernel), ⟨by decide +kernel, by decide +kernel, by decide +kernel⟩, by decide⟩
theorem mw_X8_judge : ab_mw YX8_judge 1 := ⟨ab_gw_of 43 (by decide +kernel) (by decide +kernel), ab_gw_of 343 (by decide +kernel) (by decide +kernel), ⟨by decide +kernel, by decide +kernel, by decide +kernel⟩, by decide⟩
theorem mw_X8_tryText : ab_mw YX8_tryText 0 := ⟨ab_gw_of 43 (by decide +kernel) (by decide +kernel), ab_gw_of 347 (by decide +kernel) (by decide +kernel), ⟨by decide +kernel, by decide +kernel, by decide +kernel⟩, by decide⟩
theorem mw_X0_become : ab_mw YX0_become 1 := ⟨ab_gw_of 46 (by decide +kernel) (by decide +kernel), ab_gw_of 351 (by decide +kernel) (by decide +kernel), ⟨by decide +kernel, by decide +kernel, by decide +kernel⟩, by decide⟩
theorem mw_X5_become : ab_mw YX5_become 1 := ⟨ab_gw_of 48 (by decide +kernel) (by decide +kernel), ab_gw_of 358 (by decide +kernel) (by decide +kernel), ⟨by decide +kernel, by decide +kernel, by decide +kernel⟩, by decide⟩
theorem mw_X2_follow : ab_mw YX2_follow 1 := ⟨ab_gw_of 44 (by decide +kernel) (by decide +kernel), ab_gw_of 363 (by decide +kernel) (by decide +kernel), ⟨by decide +kernel, by decide +kernel, by decide +kernel⟩, by decide⟩
theorem mw_X2_doPart : ab_mw YX2_doPart 3 := ⟨ab_gw_of 44 (by decide +kernel) (by decide +kernel), ab_gw_of 367 (by decide +kernel) (by decide +kernel), ⟨by decide +kernel, by decide +kernel, by decide +kernel⟩, by decide⟩
theorem mw_X0_passWeek : ab_mw YX0_passWeek 0 := ⟨ab_gw_of 46 (by decide +kernel) (by decide +kernel), ab_gw_of 371 (by decide +kernel) (by decide +kernel), ⟨by decide +kernel, by decide +kernel, by decide +kernel⟩, by decide⟩
theorem mw_X5_lose : ab_mw YX5_lose 2 := ⟨ab_gw_of 48 (by decide +kernel) (by decide +kernel), ab_gw_of 375 (by decide +kernel) (by decide +kernel), ⟨by decide +kernel, by decide +kernel, by decide +kernel⟩, by decide⟩
theorem mw_X5_dropOldest : ab_mw YX5_dropOldest 1 := ⟨ab_gw_of 48 (by decide +kernel) (by decide +kernel), ab_gw_of 379 (by decide +kernel) (by decide +kernel), ⟨by decide +kernel, by decide +kernel, by decide +kernel⟩, by decide⟩
theorem mw_X0_sin : ab_mw YX0_sin 2 := ⟨ab_gw_of 46 (by decide +kernel) (by decide +kernel), ab_gw_of 383 (by decide +kernel) (by decide +kernel), ⟨by decide +kernel, by decide +kernel, by decide +kernel⟩, by decide⟩
theorem mw_X0_pray : ab_mw YX0_pray 2 := ⟨ab_gw_of 46 (by decide +kernel) (by decide +kernel), ab_gw_of 387 (by decide +kernel) (by decide +kernel), ⟨by decide +kernel, by decide +kernel, by decide +kernel⟩, by decide⟩
theorem mw_X0_weave : ab_mw YX0_weave 2 := ⟨ab_gw_of 46 (by decide +kernel) (by decide +kernel), ab_gw_of 391 (by decide +kernel) (by decide +kernel), ⟨by decide +kernel, by decide +kernel, by decide +kernel⟩, by decide⟩
theorem mw_X5_hasRoom : ab_mw YX5_hasRoom 0 := ⟨ab_gw_of 48 (by decide +kernel) (by decide +kernel), ab_gw_of 395 (by decide +kernel) (by decide +kernel), ⟨by decide +kernel, by decide +kernel, by decide +kernel⟩, by decide⟩
theorem mw_X5_add : ab_mw YX5_add 3 := ⟨ab_gw_of 48 (by decide +kernel) (by decide +kernel), ab_gw_of 399 (by decide +kernel) (by decide +kernel), ⟨by decide +kernel, by decide +kernel, by decide +kernel⟩, by decide⟩
theorem mw_X2_why : ab_mw YX2_why 1 := ⟨ab_gw_of 44 (by decide +kernel) (by decide +kernel), ab_gw_of 403 (by decide +kernel) (by decide +kernel), ⟨by decide +kernel, by decide +kernel, by decide +kernel⟩, by decide⟩
theorem mw_X2_parts : ab_mw YX2_parts 1 := ⟨ab_gw_of 44 (by decide +kernel) (by decide +kernel), ab_gw_of 406 (by decide +kernel) (by decide +kernel), ⟨by decide +kernel, by decide +kernel, by decide +kernel⟩, by decide⟩
theorem mw_X8_done : ab_mw YX8_done 0 := ⟨ab_gw_of 43 (by decide +kernel) (by decide +kernel), ab_gw_of 410 (by decide +kernel) (by decide +kernel), ⟨by decide +kernel, by decide +kernel, by decide +kernel⟩, by decide⟩
theorem mw_X8_lock : ab_mw YX8_lock 3 := ⟨ab_gw_of 43 (by decide +kernel) (by decide +kernel), ab_gw_of 414 (by decide +kernel) (by decide +kernel), ⟨by decide +kernel, by decide +kernel, by decide +kernel⟩, by decide⟩
theorem mw_X8_power : ab_mw YX8_power 1 := ⟨ab_gw_of 43 (by decide +kernel) (by decide +kernel), ab_gw_of 418 (by decide +kernel) (by decide +kernel), ⟨by decide +kernel, by decide +kernel, by decide +kernel⟩, by decide⟩
theorem mw_X5_powerLess : ab_mw YX5_powerLess 2 := ⟨ab_gw_of 48 (by decide +kernel) (by decide +kernel), ab_gw_of 422 (by decide +kernel) (by decide +kernel), ⟨by decide +kernel, by decide +kernel, by decide +kernel⟩, by decide⟩
theorem mw_J9_min_7cf53 : ab_mw YJ9_min_7cf53 2 := ⟨ab_gw_of 55 (by decide +kernel) (by decide +kernel), ab_gw_of 425 (by decide +kernel) (by decide +kernel), ⟨by decide +kernel, by decide +kernel, by decide +kernel⟩, by decide⟩
theorem mw_X8_bears : ab_mw YX8_bears 0 := ⟨ab_gw_of 43 (by decide +kernel) (by decide +kernel), ab_gw_of 429 (by decide +kernel) (by decide +kernel), ⟨by decide +kernel, by decide +kernel, by decide +kernel⟩, by decide⟩
theorem mw_X0_bearsLess : ab_mw YX0_bearsLess 1 := ⟨ab_gw_of 46 (by decide +kernel) (by decide +kernel), ab_gw_of 433 (by decide +kernel) (by decide +kernel), ⟨by decide +kernel, by decide +kernel, by decide +kernel⟩, by decide⟩
theorem mw_X8_greatestLoad : ab_mw YX8_greatestLoad 1 := ⟨ab_gw_of 43 (by decide +kernel) (by decide +kernel), ab_gw_of 437 (by decide +kernel) (by decide +kernel), ⟨by decide +kernel, by decide +kernel, by decide +kernel⟩, by decide⟩
theorem mw_J9_max_7cf53 : ab_mw YJ9_max_7cf53 2 := ⟨ab_gw_of 55 (by decide +kernel) (by decide +kernel), ab_gw_of 440 (by decide +kernel) (by decide +kernel), ⟨by decide +kernel, by decide +kernel, by decide +kernel⟩, by decide⟩
theorem mw_X8_broken : ab_mw YX8_broken 1 := ⟨ab_gw_of 43 (by decide +kernel) (by decide +kernel), ab_gw_of 444 (by decide +kernel) (by decide +kernel), ⟨by decide +kernel, by decide +kernel, by decide +kernel⟩, by decide⟩
theorem mw_X0_brokenUnder : ab_mw YX0_brokenUnder 1 := ⟨ab_gw_of 46 (by decide +kernel) (by decide +kernel), ab_gw_of 449 (by decide +kernel) (by decide +kernel), ⟨by decide +kernel, by decide +kernel, by decide +kernel⟩, by decide⟩
theorem mw_X0_breaking : ab_mw YX0_breaking 2 := ⟨ab_gw_of 46 (by decide +kernel) (by decide +kernel), ab_gw_of 453 (by decide +kernel) (by decide +kernel), ⟨by decide +kernel, by decide +kernel, by decide +kernel⟩, by decide⟩
theorem mw_J6_bitCount_0f7a4 : ab_mw YJ6_bitCount_0f7a4 1 := ⟨ab_gw_of 56 (by decide +kernel) (by decide +kernel), ab_gw_of 456 (by decide +kernel) (by decide +kernel), ⟨by decide +kernel, by decide +kernel, by decide +kernel⟩, by decide⟩
theorem mw_X8_share : ab_mw YX8_share 2 := ⟨ab_gw_of 43 (by decide +kernel) (by decide +kernel), ab_gw_of 463 (by decide +kernel) (by decide +kernel), ⟨by decide +kernel, by decide +kernel, by decide +kernel⟩, by decide⟩
theorem mw_X0_powerOf : ab_mw YX0_powerOf 1 := ⟨ab_gw_of 46 (by decide +kernel) (by decide +kernel), ab_gw_of 469 (by decide +kernel) (by decide +kernel), ⟨by decide +kernel, by decide +kernel, by decide +kernel⟩, by decide⟩
theorem mw_X0_inchesOf : ab_mw YX0_inchesOf 1 := ⟨ab_gw_of 46 (by decide +kernel) (by decide +kernel), ab_gw_of 473 (by decide +kernel) (by decide +kernel), ⟨by decide +kernel, by decide +kernel, by decide +kernel⟩, by decide⟩
theorem mw_X5_lengthOf : ab_mw YX5_lengthOf 1 := ⟨ab_gw_of 48 (by decide +kernel) (by decide +kernel), ab_gw_of 477 (by decide +kernel) (by decide +kernel), ⟨by decide +kernel, by decide +kernel, by decide +kernel⟩, by decide⟩
theorem mw_X8_commonDivisor : ab_mw YX8_commonDivisor 2 := ⟨ab_gw_of 43 (by decide +kernel) (by decide +kernel), ab_gw_of 481 (by decide +kernel) (by decide +kernel), ⟨by decide +kernel, by decide +kernel, by decide +kernel⟩, by decide⟩
theorem mw_X8_led : ab_mw YX8_led 2 := ⟨ab_gw_of 43 (by decide +kernel) (by decide +kernel), ab_gw_of 485 (by decide +kernel) (by decide +kernel), ⟨by decide +kernel, by decide +kernel, by decide +kernel⟩, by decide⟩
theorem mw_X8_load : ab_mw YX8_load 2 := ⟨ab_gw_of 43 (by decide +kernel) (by decide +kernel), ab_gw_of 490 (by decide +kernel) (by decide +kernel), ⟨by decide +kernel, by decide +kernel, by decide +kernel⟩, by decide⟩
theorem mw_X3_put : ab_mw YX3_put 2 := ⟨ab_gw_of 49 (by decide +kernel) (by decide +kernel), ab_gw_of 494 (by decide +kernel) (by decide +kernel), ⟨by decide +kernel, by decide +kernel, by decide +kernel⟩, by decide⟩
theorem mw_X8_drop : ab_mw YX8_drop 0 := ⟨ab_gw_of 43 (by decide +kernel) (by decide +kernel), ab_gw_of 498 (by decide +kernel) (by decide +kernel), ⟨by decide +kernel, by decide +kernel, by decide +kernel⟩, by decide⟩
theorem mw_X3_clear : ab_mw YX3_clear 0 := ⟨ab_gw_of 49 (by decide +kernel) (by decide +kernel), ab_gw_of 502 (by decide +kernel) (by decide +kernel), ⟨by decide +kernel, by decide +kernel, by decide +kernel⟩, by decide⟩
theorem mw_X8_best : ab_mw YX8_best 1 := ⟨ab_gw_of 43 (by decide +kernel) (by decide +kernel), ab_gw_of 506 (by decide +kernel) (by decide +kernel), ⟨by decide +kernel, by decide +kernel, by decide +kernel⟩, by decide⟩
theorem mw_X1_reckon : ab_mw YX1_reckon 2 := ⟨ab_gw_of 50 (by decide +kernel) (by decide +kernel), ab_gw_of 510 (by decide +kernel) (by decide +kernel), ⟨by decide +kernel, by decide +kernel, by decide +kernel⟩, by decide⟩
theorem mw_X3_become : ab_mw YX3_become 1 := ⟨ab_gw_of 49 (by decide +kernel) (by decide +kernel), ab_gw_of 514 (by decide +kernel) (by decide +kernel), ⟨by decide +kernel, by decide +kernel, by decide +kernel⟩, by decide⟩
theorem mw_X1_mostFrom : ab_mw YX1_mostFrom 2 := ⟨ab_gw_of 50 (by decide +kernel) (by decide +kernel), ab_gw_of 521 (by decide +kernel) (by decide +kernel), ⟨by decide +kernel, by decide +kernel, by decide +kernel⟩, by decide⟩
theorem mw_X1_worthBy : ab_mw YX1_worthBy 3 := ⟨ab_gw_of 50 (by decide +kernel) (by decide +kernel), ab_gw_of 525 (by decide +kernel) (by decide +kernel), ⟨by decide +kernel, by decide +kernel, by decide +kernel⟩, by decide⟩
theorem mw_X1_crosses : ab_mw YX1_crosses 2 := ⟨ab_gw_of 50 (by decide +kernel) (by decide +kernel), ab_gw_of 529 (by decide +kernel) (by decide +kernel), ⟨by decide +kernel, by decide +kernel, by decide +kernel⟩, by decide⟩
theorem mw_X1_findOrder : ab_mw YX1_findOrder 0 := ⟨ab_gw_of 50 (by decide +kernel) (by decide +kernel), ab_gw_of 534 (by decide +kernel) (by decide +kernel), ⟨by decide +kernel, by decide +kernel, by decide +kernel⟩, by decide⟩
theorem mw_X1_firstBest : ab_mw YX1_firstBest 2 := ⟨ab_gw_of 50 (by decide +kernel) (by decide +kernel), ab_gw_of 538 (by decide +kernel) (by decide +kernel), ⟨by decide +kernel, by decide +kernel, by decide +kernel⟩, by decide⟩
theorem mw_X1_most : ab_mw YX1_most 0 := ⟨ab_gw_of 50 (by decide +kernel) (by decide +kernel), ab_gw_of 542 (by decide +kernel) (by decide +kernel), ⟨by decide +kernel, by decide +kernel, by decide +kernel⟩, by decide⟩
theorem mw_X1_turn : ab_mw YX1_turn 1 := ⟨ab_gw_of 50 (by decide +kernel) (by decide +kernel), ab_gw_of 546 (by decide +kernel) (by decide +kernel), ⟨by decide +kernel, by decide +kernel, by decide +kernel⟩, by decide⟩
theorem mw_X8_renewed : ab_mw YX8_renewed 3 := ⟨ab_gw_of 43 (by decide +kernel) (by decide +kernel), ab_gw_of 550 (by decide +kernel) (by decide +kernel), ⟨by decide +kernel, by decide +kernel, by decide +kernel⟩, by decide⟩
theorem mw_X4_fewestInches : ab_mw YX4_fewestInches 3 := ⟨ab_gw_of 51 (by decide +kernel) (by decide +kernel), ab_gw_of 554 (by decide +kernel) (by decide +kernel), ⟨by decide +kernel, by decide +kernel, by decide +kernel⟩, by decide⟩
theorem mw_X4_sortByBasket : ab_mw YX4_sortByBasket 1 := ⟨ab_gw_of 51 (by decide +kernel) (by decide +kernel), ab_gw_of 559 (by decide +kernel) (by decide +kernel), ⟨by decide +kernel, by decide +kernel, by decide +kernel⟩, by decide⟩
theorem mw_X0_powerInBasket : ab_mw YX0_powerInBasket 1 := ⟨ab_gw_of 46 (by decide +kernel) (by decide +kernel), ab_gw_of 563 (by decide +kernel) (by decide +kernel), ⟨by decide +kernel, by decide +kernel, by decide +kernel⟩, by decide⟩
theorem mw_X4_tryFrom : ab_mw YX4_tryFrom 2 := ⟨ab_gw_of 51 (by decide +kernel) (by decide +kernel), ab_gw_of 567 (by decide +kernel) (by decide +kernel), ⟨by decide +kernel, by decide +kernel, by decide +kernel⟩, by decide⟩
theorem mw_X4_isHopeless : ab_mw YX4_isHopeless 1 := ⟨ab_gw_of 51 (by decide +kernel) (by decide +kernel), ab_gw_of 572 (by decide +kernel) (by decide +kernel), ⟨by decide +kernel, by decide +kernel, by decide +kernel⟩, by decide⟩
theorem mw_X4_foresee : ab_mw YX4_foresee 1 := ⟨ab_gw_of 51 (by decide +kernel) (by decide +kernel), ab_gw_of 577 (by decide +kernel) (by decide +kernel), ⟨by decide +kernel, by decide +kernel, by decide +kernel⟩, by decide⟩
theorem mw_X5_length : ab_mw YX5_length 0 := ⟨ab_gw_of 48 (by decide +kernel) (by decide +kernel), ab_gw_of 581 (by decide +kernel) (by decide +kernel), ⟨by decide +kernel, by decide +kernel, by decide +kernel⟩, by decide⟩
theorem mw_X4_tryStep : ab_mw YX4_tryStep 4 := ⟨ab_gw_of 51 (by decide +kernel) (by decide +kernel), ab_gw_of 586 (by decide +kernel) (by decide +kernel), ⟨by decide +kernel, by decide +kernel, by decide +kernel⟩, by decide⟩
theorem mw_X4_holdsBehind : ab_mw YX4_holdsBehind 3 := ⟨ab_gw_of 51 (by decide +kernel) (by decide +kernel), ab_gw_of 590 (by decide +kernel) (by decide +kernel), ⟨by decide +kernel, by decide +kernel, by decide +kernel⟩, by decide⟩
theorem mw_X4_wovenAhead : ab_mw YX4_wovenAhead 1 := ⟨ab_gw_of 51 (by decide +kernel) (by decide +kernel), ab_gw_of 598 (by decide +kernel) (by decide +kernel), ⟨by decide +kernel, by decide +kernel, by decide +kernel⟩, by decide⟩
theorem mw_X8_soon : ab_mw YX8_soon 4 := ⟨ab_gw_of 43 (by decide +kernel) (by decide +kernel), ab_gw_of 602 (by decide +kernel) (by decide +kernel), ⟨by decide +kernel, by decide +kernel, by decide +kernel⟩, by decide⟩
theorem mw_X0_giveAll : ab_mw YX0_giveAll 3 := ⟨ab_gw_of 46 (by decide +kernel) (by decide +kernel), ab_gw_of 606 (by decide +kernel) (by decide +kernel), ⟨by decide +kernel, by decide +kernel, by decide +kernel⟩, by decide⟩
theorem mw_X8_weighed : ab_mw YX8_weighed 2 := ⟨ab_gw_of 43 (by decide +kernel) (by decide +kernel), ab_gw_of 613 (by decide +kernel) (by decide +kernel), ⟨by decide +kernel, by decide +kernel, by decide +kernel⟩, by decide⟩
theorem mw_X8_forget : ab_mw YX8_forget 0 := ⟨ab_gw_of 43 (by decide +kernel) (by decide +kernel), ab_gw_of 617 (by decide +kernel) (by decide +kernel), ⟨by decide +kernel, by decide +kernel, by decide +kernel⟩, by decide⟩
theorem mw_X8_canBe : ab_mw YX8_canBe 1 := ⟨ab_gw_of 43 (by decide +kernel) (by decide +kernel), ab_gw_of 621 (by decide +kernel) (by decide +kernel), ⟨by decide +kernel, by decide +kernel, by decide +kernel⟩, by decide⟩
theorem mw_X7_find : ab_mw YX7_find 2 := ⟨ab_gw_of 52 (by decide +kernel) (by decide +kernel), ab_gw_of 625 (by decide +kernel) (by decide +kernel), ⟨by decide +kernel, by decide +kernel, by decide +kernel⟩, by decide⟩
theorem mw_J6_numberOfTrailingZeros_0f7a4 : ab_mw YJ6_numberOfTrailingZeros_0f7a4 1 := ⟨ab_gw_of 56 (by decide +kernel) (by decide +kernel), ab_gw_of 628 (by decide +kernel) (by decide +kernel), ⟨by decide +kernel, by decide +kernel, by decide +kernel⟩, by decide⟩
theorem mw_X7_fits : ab_mw YX7_fits 2 := ⟨ab_gw_of 52 (by decide +kernel) (by decide +kernel), ab_gw_of 633 (by decide +kernel) (by decide +kernel), ⟨by decide +kernel, by decide +kernel, by decide +kernel⟩, by decide⟩
theorem mw_X8_sure : ab_mw YX8_sure 1 := ⟨ab_gw_of 43 (by decide +kernel) (by decide +kernel), ab_gw_of 637 (by decide +kernel) (by decide +kernel), ⟨by decide +kernel, by decide +kernel, by decide +kernel⟩, by decide⟩
theorem mw_X7_inEach : ab_mw YX7_inEach 0 := ⟨ab_gw_of 52 (by decide +kernel) (by decide +kernel), ab_gw_of 641 (by decide +kernel) (by decide +kernel), ⟨by decide +kernel, by decide +kernel, by decide +kernel⟩, by decide⟩
theorem mw_X7_inNone : ab_mw YX7_inNone 0 := ⟨ab_gw_of 52 (by decide +kernel) (by decide +kernel), ab_gw_of 645 (by decide +kernel) (by decide +kernel), ⟨by decide +kernel, by decide +kernel, by decide +kernel⟩, by decide⟩
theorem mw_X7_bestToAsk : ab_mw YX7_bestToAsk 0 := ⟨ab_gw_of 52 (by decide +kernel) (by decide +kernel), ab_gw_of 649 (by decide +kernel) (by decide +kernel), ⟨by decide +kernel, by decide +kernel, by decide +kernel⟩, by decide⟩
theorem mw_X7_mostAlike : ab_mw YX7_mostAlike 1 := ⟨ab_gw_of 52 (by decide +kernel) (by decide +kernel), ab_gw_of 653 (by decide +kernel) (by decide +kernel), ⟨by decide +kernel, by decide +kernel, by decide +kernel⟩, by decide⟩
theorem mw_X8_year : ab_mw YX8_year 3 := ⟨ab_gw_of 43 (by decide +kernel) (by decide +kernel), ab_gw_of 658 (by decide +kernel) (by decide +kernel), ⟨by decide +kernel, by decide +kernel, by decide +kernel⟩, by decide⟩
theorem mw_X0_drawDeeds : ab_mw YX0_drawDeeds 1 := ⟨ab_gw_of 46 (by decide +kernel) (by decide +kernel), ab_gw_of 662 (by decide +kernel) (by decide +kernel), ⟨by decide +kernel, by decide +kernel, by decide +kernel⟩, by decide⟩
theorem mw_X8_image : ab_mw YX8_image 1 := ⟨ab_gw_of 43 (by decide +kernel) (by decide +kernel), ab_gw_of 670 (by decide +kernel) (by decide +kernel), ⟨by decide +kernel, by decide +kernel, by decide +kernel⟩, by decide⟩
theorem mw_X6_become : ab_mw YX6_become 1 := ⟨ab_gw_of 45 (by decide +kernel) (by decide +kernel), ab_gw_of 674 (by decide +kernel) (by decide +kernel), ⟨by decide +kernel, by decide +kernel, by decide +kernel⟩, by decide⟩
theorem mw_X8_restore : ab_mw YX8_restore 1 := ⟨ab_gw_of 43 (by decide +kernel) (by decide +kernel), ab_gw_of 680 (by decide +kernel) (by decide +kernel), ⟨by decide +kernel, by decide +kernel, by decide +kernel⟩, by decide⟩
theorem mw_X8_told : ab_mw YX8_told 1 := ⟨ab_gw_of 43 (by decide +kernel) (by decide +kernel), ab_gw_of 684 (by decide +kernel) (by decide +kernel), ⟨by decide +kernel, by decide +kernel, by decide +kernel⟩, by decide⟩
theorem mw_X8_toldOfOne : ab_mw YX8_toldOfOne 1 := ⟨ab_gw_of 43 (by decide +kernel) (by decide +kernel), ab_gw_of 688 (by decide +kernel) (by decide +kernel), ⟨by decide +kernel, by decide +kernel, by decide +kernel⟩, by decide⟩
theorem mw_X9_init : ab_mw YX9_init 0 := ⟨ab_gw_of 53 (by decide +kernel) (by decide +kernel), ab_gw_of 693 (by decide +kernel) (by decide +kernel), ⟨by decide +kernel, by decide +kernel, by decide +kernel⟩, by decide⟩
theorem mw_X9_monk : ab_mw YX9_monk 3 := ⟨ab_gw_of 53 (by decide +kernel) (by decide +kernel), ab_gw_of 810 (by decide +kernel) (by decide +kernel), ⟨by decide +kernel, by decide +kernel, by decide +kernel⟩, by decide⟩
theorem mw_X9_isMonk : ab_mw YX9_isMonk 1 := ⟨ab_gw_of 53 (by decide +kernel) (by decide +kernel), ab_gw_of 813 (by decide +kernel) (by decide +kernel), ⟨by decide +kernel, by decide +kernel, by decide +kernel⟩, by decide⟩
theorem mw_X9_in : ab_mw YX9_in 3 := ⟨ab_gw_of 53 (by decide +kernel) (by decide +kernel), ab_gw_of 817 (by decide +kernel) (by decide +kernel), ⟨by decide +kernel, by decide +kernel, by decide +kernel⟩, by decide⟩
theorem mw_X9_wear : ab_mw YX9_wear 1 := ⟨ab_gw_of 53 (by decide +kernel) (by decide +kernel), ab_gw_of 823 (by decide +kernel) (by decide +kernel), ⟨by decide +kernel, by decide +kernel, by decide +kernel⟩, by decide⟩
theorem mw_X9_say : ab_mw YX9_say 1 := ⟨ab_gw_of 53 (by decide +kernel) (by decide +kernel), ab_gw_of 827 (by decide +kernel) (by decide +kernel), ⟨by decide +kernel, by decide +kernel, by decide +kernel⟩, by decide⟩
theorem mw_X9_wipe : ab_mw YX9_wipe 0 := ⟨ab_gw_of 53 (by decide +kernel) (by decide +kernel), ab_gw_of 833 (by decide +kernel) (by decide +kernel), ⟨by decide +kernel, by decide +kernel, by decide +kernel⟩, by decide⟩
theorem mw_X9_fault : ab_mw YX9_fault 0 := ⟨ab_gw_of 53 (by decide +kernel) (by decide +kernel), ab_gw_of 837 (by decide +kernel) (by decide +kernel), ⟨by decide +kernel, by decide +kernel, by decide +kernel⟩, by decide⟩
theorem mw_X9_judge : ab_mw YX9_judge 1 := ⟨ab_gw_of 53 (by decide +kernel) (by decide +kernel), ab_gw_of 847 (by decide +kernel) (by decide +kernel), ⟨by decide +kernel, by decide +kernel, by decide +kernel⟩, by decide⟩
theorem mw_X9_goText : ab_mw YX9_goText 0 := ⟨ab_gw_of 53 (by decide +kernel) (by decide +kernel), ab_gw_of 852 (by decide +kernel) (by decide +kernel), ⟨by decide +kernel, by decide +kernel, by decide +kernel⟩, by decide⟩
theorem mw_X9_layNow : ab_mw YX9_layNow 0 := ⟨ab_gw_of 53 (by decide +kernel) (by decide +kernel), ab_gw_of 856 (by decide +kernel) (by decide +kernel), ⟨by decide +kernel, by decide +kernel, by decide +kernel⟩, by decide⟩
theorem mw_X9_does : ab_mw YX9_does 1 := ⟨ab_gw_of 53 (by decide +kernel) (by decide +kernel), ab_gw_of 860 (by decide +kernel) (by decide +kernel), ⟨by decide +kernel, by decide +kernel, by decide +kernel⟩, by decide⟩
theorem mw_X9_goWeek : ab_mw YX9_goWeek 0 := ⟨ab_gw_of 53 (by decide +kernel) (by decide +kernel), ab_gw_of 864 (by decide +kernel) (by decide +kernel), ⟨by decide +kernel, by decide +kernel, by decide +kernel⟩, by decide⟩
theorem mw_X9_lose : ab_mw YX9_lose 1 := ⟨ab_gw_of 53 (by decide +kernel) (by decide +kernel), ab_gw_of 868 (by decide +kernel) (by decide +kernel), ⟨by decide +kernel, by decide +kernel, by decide +kernel⟩, by decide⟩
theorem mw_X9_dropFirst : ab_mw YX9_dropFirst 1 := ⟨ab_gw_of 53 (by decide +kernel) (by decide +kernel), ab_gw_of 872 (by decide +kernel) (by decide +kernel), ⟨by decide +kernel, by decide +kernel, by decide +kernel⟩, by decide⟩
theorem mw_X9_whyNoMore : ab_mw YX9_whyNoMore 2 := ⟨ab_gw_of 53 (by decide +kernel) (by decide +kernel), ab_gw_of 876 (by decide +kernel) (by decide +kernel), ⟨by decide +kernel, by decide +kernel, by decide +kernel⟩, by decide⟩
theorem mw_X9_whyNoLock : ab_mw YX9_whyNoLock 2 := ⟨ab_gw_of 53 (by decide +kernel) (by decide +kernel), ab_gw_of 880 (by decide +kernel) (by decide +kernel), ⟨by decide +kernel, by decide +kernel, by decide +kernel⟩, by decide⟩
theorem mw_X9_weave : ab_mw YX9_weave 2 := ⟨ab_gw_of 53 (by decide +kernel) (by decide +kernel), ab_gw_of 884 (by decide +kernel) (by decide +kernel), ⟨by decide +kernel, by decide +kernel, by decide +kernel⟩, by decide⟩
theorem mw_X9_done : ab_mw YX9_done 0 := ⟨ab_gw_of 53 (by decide +kernel) (by decide +kernel), ab_gw_of 888 (by decide +kernel) (by decide +kernel), ⟨by decide +kernel, by decide +kernel, by decide +kernel⟩, by decide⟩
theorem mw_X9_keepTried : ab_mw YX9_keepTried 0 := ⟨ab_gw_of 53 (by decide +kernel) (by decide +kernel), ab_gw_of 892 (by decide +kernel) (by decide +kernel), ⟨by decide +kernel, by decide +kernel, by decide +kernel⟩, by decide⟩
theorem mw_X9_lock : ab_mw YX9_lock 3 := ⟨ab_gw_of 53 (by decide +kernel) (by decide +kernel), ab_gw_of 896 (by decide +kernel) (by decide +kernel), ⟨by decide +kernel, by decide +kernel, by decide +kernel⟩, by decide⟩
theorem mw_X9_isRope : ab_mw YX9_isRope 1 := ⟨ab_gw_of 53 (by decide +kernel) (by decide +kernel), ab_gw_of 899 (by decide +kernel) (by decide +kernel), ⟨by decide +kernel, by decide +kernel, by decide +kernel⟩, by decide⟩
theorem mw_X9_power : ab_mw YX9_power 1 := ⟨ab_gw_of 53 (by decide +kernel) (by decide +kernel), ab_gw_of 904 (by decide +kernel) (by decide +kernel), ⟨by decide +kernel, by decide +kernel, by decide +kernel⟩, by decide⟩
theorem mw_X9_powerOf : ab_mw YX9_powerOf 1 := ⟨ab_gw_of 53 (by decide +kernel) (by decide +kernel), ab_gw_of 908 (by decide +kernel) (by decide +kernel), ⟨by decide +kernel, by decide +kernel, by decide +kernel⟩, by decide⟩
theorem mw_X9_bears : ab_mw YX9_bears 0 := ⟨ab_gw_of 53 (by decide +kernel) (by decide +kernel), ab_gw_of 912 (by decide +kernel) (by decide +kernel), ⟨by decide +kernel, by decide +kernel, by decide +kernel⟩, by decide⟩
theorem mw_X9_borne : ab_mw YX9_borne 0 := ⟨ab_gw_of 53 (by decide +kernel) (by decide +kernel), ab_gw_of 916 (by decide +kernel) (by decide +kernel), ⟨by decide +kernel, by decide +kernel, by decide +kernel⟩, by decide⟩
theorem mw_X9_broken : ab_mw YX9_broken 1 := ⟨ab_gw_of 53 (by decide +kernel) (by decide +kernel), ab_gw_of 920 (by decide +kernel) (by decide +kernel), ⟨by decide +kernel, by decide +kernel, by decide +kernel⟩, by decide⟩
theorem mw_X9_ones : ab_mw YX9_ones 1 := ⟨ab_gw_of 53 (by decide +kernel) (by decide +kernel), ab_gw_of 924 (by decide +kernel) (by decide +kernel), ⟨by decide +kernel, by decide +kernel, by decide +kernel⟩, by decide⟩
theorem mw_X9_share : ab_mw YX9_share 2 := ⟨ab_gw_of 53 (by decide +kernel) (by decide +kernel), ab_gw_of 928 (by decide +kernel) (by decide +kernel), ⟨by decide +kernel, by decide +kernel, by decide +kernel⟩, by decide⟩
theorem mw_X9_inchesOf : ab_mw YX9_inchesOf 2 := ⟨ab_gw_of 53 (by decide +kernel) (by decide +kernel), ab_gw_of 934 (by decide +kernel) (by decide +kernel), ⟨by decide +kernel, by decide +kernel, by decide +kernel⟩, by decide⟩
theorem mw_X9_led : ab_mw YX9_led 2 := ⟨ab_gw_of 53 (by decide +kernel) (by decide +kernel), ab_gw_of 939 (by decide +kernel) (by decide +kernel), ⟨by decide +kernel, by decide +kernel, by decide +kernel⟩, by decide⟩
theorem mw_X9_load : ab_mw YX9_load 2 := ⟨ab_gw_of 53 (by decide +kernel) (by decide +kernel), ab_gw_of 943 (by decide +kernel) (by decide +kernel), ⟨by decide +kernel, by decide +kernel, by decide +kernel⟩, by decide⟩
theorem mw_X9_drop : ab_mw YX9_drop 0 := ⟨ab_gw_of 53 (by decide +kernel) (by decide +kernel), ab_gw_of 949 (by decide +kernel) (by decide +kernel), ⟨by decide +kernel, by decide +kernel, by decide +kernel⟩, by decide⟩
theorem mw_X9_best : ab_mw YX9_best 1 := ⟨ab_gw_of 53 (by decide +kernel) (by decide +kernel), ab_gw_of 953 (by decide +kernel) (by decide +kernel), ⟨by decide +kernel, by decide +kernel, by decide +kernel⟩, by decide⟩
theorem mw_X9_layOrder : ab_mw YX9_layOrder 1 := ⟨ab_gw_of 53 (by decide +kernel) (by decide +kernel), ab_gw_of 957 (by decide +kernel) (by decide +kernel), ⟨by decide +kernel, by decide +kernel, by decide +kernel⟩, by decide⟩
theorem mw_X9_worthOfOrder : ab_mw YX9_worthOfOrder 0 := ⟨ab_gw_of 53 (by decide +kernel) (by decide +kernel), ab_gw_of 961 (by decide +kernel) (by decide +kernel), ⟨by decide +kernel, by decide +kernel, by decide +kernel⟩, by decide⟩
theorem mw_X9_renewed : ab_mw YX9_renewed 3 := ⟨ab_gw_of 53 (by decide +kernel) (by decide +kernel), ab_gw_of 965 (by decide +kernel) (by decide +kernel), ⟨by decide +kernel, by decide +kernel, by decide +kernel⟩, by decide⟩
theorem mw_X9_badWeek : ab_mw YX9_badWeek 3 := ⟨ab_gw_of 53 (by decide +kernel) (by decide +kernel), ab_gw_of 971 (by decide +kernel) (by decide +kernel), ⟨by decide +kernel, by decide +kernel, by decide +kernel⟩, by decide⟩
theorem mw_X9_soon : ab_mw YX9_soon 4 := ⟨ab_gw_of 53 (by decide +kernel) (by decide +kernel), ab_gw_of 975 (by decide +kernel) (by decide +kernel), ⟨by decide +kernel, by decide +kernel, by decide +kernel⟩, by decide⟩
theorem mw_X9_sinAll : ab_mw YX9_sinAll 3 := ⟨ab_gw_of 53 (by decide +kernel) (by decide +kernel), ab_gw_of 980 (by decide +kernel) (by decide +kernel), ⟨by decide +kernel, by decide +kernel, by decide +kernel⟩, by decide⟩
theorem mw_X9_weighed : ab_mw YX9_weighed 2 := ⟨ab_gw_of 53 (by decide +kernel) (by decide +kernel), ab_gw_of 984 (by decide +kernel) (by decide +kernel), ⟨by decide +kernel, by decide +kernel, by decide +kernel⟩, by decide⟩
theorem mw_X9_forget : ab_mw YX9_forget 0 := ⟨ab_gw_of 53 (by decide +kernel) (by decide +kernel), ab_gw_of 989 (by decide +kernel) (by decide +kernel), ⟨by decide +kernel, by decide +kernel, by decide +kernel⟩, by decide⟩
theorem mw_X9_canBe : ab_mw YX9_canBe 1 := ⟨ab_gw_of 53 (by decide +kernel) (by decide +kernel), ab_gw_of 993 (by decide +kernel) (by decide +kernel), ⟨by decide +kernel, by decide +kernel, by decide +kernel⟩, by decide⟩
theorem mw_X9_fits : ab_mw YX9_fits 1 := ⟨ab_gw_of 53 (by decide +kernel) (by decide +kernel), ab_gw_of 997 (by decide +kernel) (by decide +kernel), ⟨by decide +kernel, by decide +kernel, by decide +kernel⟩, by decide⟩
theorem mw_X9_weightOf : ab_mw YX9_weightOf 2 := ⟨ab_gw_of 53 (by decide +kernel) (by decide +kernel), ab_gw_of 1001 (by decide +kernel) (by decide +kernel), ⟨by decide +kernel, by decide +kernel, by decide +kernel⟩, by decide⟩
theorem mw_X9_sure : ab_mw YX9_sure 1 := ⟨ab_gw_of 53 (by decide +kernel) (by decide +kernel), ab_gw_of 1005 (by decide +kernel) (by decide +kernel), ⟨by decide +kernel, by decide +kernel, by decide +kernel⟩, by decide⟩
theorem mw_X9_ask : ab_mw YX9_ask 0 := ⟨ab_gw_of 53 (by decide +kernel) (by decide +kernel), ab_gw_of 1010 (by decide +kernel) (by decide +kernel), ⟨by decide +kernel, by decide +kernel, by decide +kernel⟩, by decide⟩
theorem mw_X9_alikeBy : ab_mw YX9_alikeBy 1 := ⟨ab_gw_of 53 (by decide +kernel) (by decide +kernel), ab_gw_of 1014 (by decide +kernel) (by decide +kernel), ⟨by decide +kernel, by decide +kernel, by decide +kernel⟩, by decide⟩
theorem mw_X9_year : ab_mw YX9_year 3 := ⟨ab_gw_of 53 (by decide +kernel) (by decide +kernel), ab_gw_of 1018 (by decide +kernel) (by decide +kernel), ⟨by decide +kernel, by decide +kernel, by decide +kernel⟩, by decide⟩
theorem mw_X9_doesBy : ab_mw YX9_doesBy 2 := ⟨ab_gw_of 53 (by decide +kernel) (by decide +kernel), ab_gw_of 1026 (by decide +kernel) (by decide +kernel), ⟨by decide +kernel, by decide +kernel, by decide +kernel⟩, by decide⟩
theorem mw_X9_image : ab_mw YX9_image 1 := ⟨ab_gw_of 53 (by decide +kernel) (by decide +kernel), ab_gw_of 1030 (by decide +kernel) (by decide +kernel), ⟨by decide +kernel, by decide +kernel, by decide +kernel⟩, by decide⟩
theorem mw_X9_passAll : ab_mw YX9_passAll 0 := ⟨ab_gw_of 53 (by decide +kernel) (by decide +kernel), ab_gw_of 1034 (by decide +kernel) (by decide +kernel), ⟨by decide +kernel, by decide +kernel, by decide +kernel⟩, by decide⟩
theorem mw_X9_pass : ab_mw YX9_pass 1 := ⟨ab_gw_of 53 (by decide +kernel) (by decide +kernel), ab_gw_of 1038 (by decide +kernel) (by decide +kernel), ⟨by decide +kernel, by decide +kernel, by decide +kernel⟩, by decide⟩
theorem mw_X9_restore : ab_mw YX9_restore 1 := ⟨ab_gw_of 53 (by decide +kernel) (by decide +kernel), ab_gw_of 1042 (by decide +kernel) (by decide +kernel), ⟨by decide +kernel, by decide +kernel, by decide +kernel⟩, by decide⟩
theorem mw_X9_told : ab_mw YX9_told 1 := ⟨ab_gw_of 53 (by decide +kernel) (by decide +kernel), ab_gw_of 1046 (by decide +kernel) (by decide +kernel), ⟨by decide +kernel, by decide +kernel, by decide +kernel⟩, by decide⟩
theorem fl_X2_9 : ab_fl RX2 9 2 0 := ⟨(RX2, TX2, 2), rfl, by decide, ab_gw_of 71 (by decide +kernel) (by decide +kernel)⟩
theorem fp_X2_9 : ab_fp RX2 9 2 0 true (.array .int) := ⟨(RX2, TX2, 2), rfl, by decide, ab_gw_of 71 (by decide +kernel) (by decide +kernel), rfl, by decide +kernel, fun _ => rfl⟩
theorem fl_X2_15 : ab_fl RX2 15 2 1 := ⟨(RX2, TX2, 2), rfl, by decide, ab_gw_of 72 (by decide +kernel) (by decide +kernel)⟩
theorem fp_X2_15 : ab_fp RX2 15 2 1 false .int := ⟨(RX2, TX2, 2), rfl, by decide, ab_gw_of 72 (by decide +kernel) (by decide +kernel), rfl, by decide +kernel, fun h => by cases h⟩
theorem fl_X8_81 : ab_fl RX8 81 2 1 := ⟨(RX2, TX2, 2), rfl, by decide, ab_gw_of 73 (by decide +kernel) (by decide +kernel)⟩
theorem fp_X8_81 : ab_fp RX8 81 2 1 false .int := ⟨(RX2, TX2, 2), rfl, by decide, ab_gw_of 73 (by decide +kernel) (by decide +kernel), rfl, by decide +kernel, fun h => by cases h⟩
theorem fl_X5_9 : ab_fl RX5 9 5 0 := ⟨(RX5, TX5, 4), rfl, by decide, ab_gw_of 102 (by decide +kernel) (by decide +kernel)⟩
theorem fp_X5_9 : ab_fp RX5 9 5 0 true (.array .int) := ⟨(RX5, TX5, 4), rfl, by decide, ab_gw_of 102 (by decide +kernel) (by decide +kernel), rfl, by decide +kernel, fun _ => rfl⟩
theorem fl_X8_112 : ab_fl RX8 112 5 0 := ⟨(RX5, TX5, 4), rfl, by decide, ab_gw_of 103 (by decide +kernel) (by decide +kernel)⟩
theorem fl_X5_15 : ab_fl RX5 15 5 1 := ⟨(RX5, TX5, 4), rfl, by decide, ab_gw_of 104 (by decide +kernel) (by decide +kernel)⟩
theorem fp_X5_15 : ab_fp RX5 15 5 1 true (.array .int) := ⟨(RX5, TX5, 4), rfl, by decide, ab_gw_of 104 (by decide +kernel) (by decide +kernel), rfl, by decide +kernel, fun _ => rfl⟩
theorem fl_X8_115 : ab_fl RX8 115 5 1 := ⟨(RX5, TX5, 4), rfl, by decide, ab_gw_of 105 (by decide +kernel) (by decide +kernel)⟩
theorem fl_X5_18 : ab_fl RX5 18 5 2 := ⟨(RX5, TX5, 4), rfl, by decide, ab_gw_of 106 (by decide +kernel) (by decide +kernel)⟩
theorem fp_X5_18 : ab_fp RX5 18 5 2 true (.array .int) := ⟨(RX5, TX5, 4), rfl, by decide, ab_gw_of 106 (by decide +kernel) (by decide +kernel), rfl, by decide +kernel, fun _ => rfl⟩
theorem fl_X8_121 : ab_fl RX8 121 5 2 := ⟨(RX5, TX5, 4), rfl, by decide, ab_gw_of 107 (by decide +kernel) (by decide +kernel)⟩
theorem fl_X5_21 : ab_fl RX5 21 5 3 := ⟨(RX5, TX5, 4), rfl, by decide, ab_gw_of 108 (by decide +kernel) (by decide +kernel)⟩
theorem fp_X5_21 : ab_fp RX5 21 5 3 false .int := ⟨(RX5, TX5, 4), rfl, by decide, ab_gw_of 108 (by decide +kernel) (by decide +kernel), rfl, by decide +kernel, fun h => by cases h⟩
theorem fl_X8_109 : ab_fl RX8 109 5 3 := ⟨(RX5, TX5, 4), rfl, by decide, ab_gw_of 109 (by decide +kernel) (by decide +kernel)⟩
theorem fp_X8_109 : ab_fp RX8 109 5 3 false .int := ⟨(RX5, TX5, 4), rfl, by decide, ab_gw_of 109 (by decide +kernel) (by decide +kernel), rfl, by decide +kernel, fun h => by cases h⟩
theorem fl_X0_9 : ab_fl RX0 9 0 0 := ⟨(RX0, TX0, 8), rfl, by decide, ab_gw_of 119 (by decide +kernel) (by decide +kernel)⟩
theorem fp_X0_9 : ab_fp RX0 9 0 0 true (.array .int) := ⟨(RX0, TX0, 8), rfl, by decide, ab_gw_of 119 (by decide +kernel) (by decide +kernel), rfl, by decide +kernel, fun _ => rfl⟩
theorem fl_X8_66 : ab_fl RX8 66 0 0 := ⟨(RX0, TX0, 8), rfl, by decide, ab_gw_of 120 (by decide +kernel) (by decide +kernel)⟩
theorem fl_X0_15 : ab_fl RX0 15 0 1 := ⟨(RX0, TX0, 8), rfl, by decide, ab_gw_of 121 (by decide +kernel) (by decide +kernel)⟩
theorem fp_X0_15 : ab_fp RX0 15 0 1 true (.array .int) := ⟨(RX0, TX0, 8), rfl, by decide, ab_gw_of 121 (by decide +kernel) (by decide +kernel), rfl, by decide +kernel, fun _ => rfl⟩
theorem fl_X8_70 : ab_fl RX8 70 0 1 := ⟨(RX0, TX0, 8), rfl, by decide, ab_gw_of 122 (by decide +kernel) (by decide +kernel)⟩
theorem fl_X4_102 : ab_fl RX4 102 0 1 := ⟨(RX0, TX0, 8), rfl, by decide, ab_gw_of 123 (by decide +kernel) (by decide +kernel)⟩
theorem fl_X0_18 : ab_fl RX0 18 0 2 := ⟨(RX0, TX0, 8), rfl, by decide, ab_gw_of 124 (by decide +kernel) (by decide +kernel)⟩
theorem fp_X0_18 : ab_fp RX0 18 0 2 true (.array .int) := ⟨(RX0, TX0, 8), rfl, by decide, ab_gw_of 124 (by decide +kernel) (by decide +kernel), rfl, by decide +kernel, fun _ => rfl⟩
theorem fl_X4_79 : ab_fl RX4 79 0 2 := ⟨(RX0, TX0, 8), rfl, by decide, ab_gw_of 125 (by decide +kernel) (by decide +kernel)⟩
theorem fl_X8_222 : ab_fl RX8 222 0 2 := ⟨(RX0, TX0, 8), rfl, by decide, ab_gw_of 126 (by decide +kernel) (by decide +kernel)⟩
theorem fl_X0_21 : ab_fl RX0 21 0 3 := ⟨(RX0, TX0, 8), rfl, by decide, ab_gw_of 127 (by decide +kernel) (by decide +kernel)⟩
theorem fp_X0_21 : ab_fp RX0 21 0 3 true (.array .int) := ⟨(RX0, TX0, 8), rfl, by decide, ab_gw_of 127 (by decide +kernel) (by decide +kernel), rfl, by decide +kernel, fun _ => rfl⟩
theorem fl_X8_150 : ab_fl RX8 150 0 3 := ⟨(RX0, TX0, 8), rfl, by decide, ab_gw_of 128 (by decide +kernel) (by decide +kernel)⟩
theorem fl_X0_26 : ab_fl RX0 26 0 4 := ⟨(RX0, TX0, 8), rfl, by decide, ab_gw_of 129 (by decide +kernel) (by decide +kernel)⟩
theorem fp_X0_26 : ab_fp RX0 26 0 4 true (.array (.object "HairBridge$Rope")) := ⟨(RX0, TX0, 8), rfl, by decide, ab_gw_of 129 (by decide +kernel) (by decide +kernel), rfl, by decide +kernel, fun _ => rfl⟩
theorem fl_X4_105 : ab_fl RX4 105 0 4 := ⟨(RX0, TX0, 8), rfl, by decide, ab_gw_of 130 (by decide +kernel) (by decide +kernel)⟩
theorem fl_X8_105 : ab_fl RX8 105 0 4 := ⟨(RX0, TX0, 8), rfl, by decide, ab_gw_of 131 (by decide +kernel) (by decide +kernel)⟩
theorem fl_X0_30 : ab_fl RX0 30 0 5 := ⟨(RX0, TX0, 8), rfl, by decide, ab_gw_of 132 (by decide +kernel) (by decide +kernel)⟩
theorem fp_X0_30 : ab_fp RX0 30 0 5 true (.array .int) := ⟨(RX0, TX0, 8), rfl, by decide, ab_gw_of 132 (by decide +kernel) (by decide +kernel), rfl, by decide +kernel, fun _ => rfl⟩
theorem fl_X0_40 : ab_fl RX0 40 0 6 := ⟨(RX0, TX0, 8), rfl, by decide, ab_gw_of 133 (by decide +kernel) (by decide +kernel)⟩
theorem fp_X0_40 : ab_fp RX0 40 0 6 false .int := ⟨(RX0, TX0, 8), rfl, by decide, ab_gw_of 133 (by decide +kernel) (by decide +kernel), rfl, by decide +kernel, fun h => by cases h⟩
theorem fl_X8_73 : ab_fl RX8 73 0 6 := ⟨(RX0, TX0, 8), rfl, by decide, ab_gw_of 134 (by decide +kernel) (by decide +kernel)⟩
theorem fp_X8_73 : ab_fp RX8 73 0 6 false .int := ⟨(RX0, TX0, 8), rfl, by decide, ab_gw_of 134 (by decide +kernel) (by decide +kernel), rfl, by decide +kernel, fun h => by cases h⟩
theorem fl_X4_115 : ab_fl RX4 115 0 6 := ⟨(RX0, TX0, 8), rfl, by decide, ab_gw_of 135 (by decide +kernel) (by decide +kernel)⟩
theorem fp_X4_115 : ab_fp RX4 115 0 6 false .int := ⟨(RX0, TX0, 8), rfl, by decide, ab_gw_of 135 (by decide +kernel) (by decide +kernel), rfl, by decide +kernel, fun h => by cases h⟩
theorem fl_X0_54 : ab_fl RX0 54 0 7 := ⟨(RX0, TX0, 8), rfl, by decide, ab_gw_of 136 (by decide +kernel) (by decide +kernel)⟩
theorem fp_X0_54 : ab_fp RX0 54 0 7 false .int := ⟨(RX0, TX0, 8), rfl, by decide, ab_gw_of 136 (by decide +kernel) (by decide +kernel), rfl, by decide +kernel, fun h => by cases h⟩
theorem fl_X8_118 : ab_fl RX8 118 0 7 := ⟨(RX0, TX0, 8), rfl, by decide, ab_gw_of 137 (by decide +kernel) (by decide +kernel)⟩
theorem fp_X8_118 : ab_fp RX8 118 0 7 false .int := ⟨(RX0, TX0, 8), rfl, by decide, ab_gw_of 137 (by decide +kernel) (by decide +kernel), rfl, by decide +kernel, fun h => by cases h⟩
theorem fl_X3_9 : ab_fl RX3 9 3 0 := ⟨(RX3, TX3, 3), rfl, by decide, ab_gw_of 161 (by decide +kernel) (by decide +kernel)⟩
theorem fp_X3_9 : ab_fp RX3 9 3 0 true (.array .int) := ⟨(RX3, TX3, 3), rfl, by decide, ab_gw_of 161 (by decide +kernel) (by decide +kernel), rfl, by decide +kernel, fun _ => rfl⟩
theorem fl_X7_38 : ab_fl RX7 38 3 0 := ⟨(RX3, TX3, 3), rfl, by decide, ab_gw_of 162 (by decide +kernel) (by decide +kernel)⟩
theorem fl_X1_63 : ab_fl RX1 63 3 0 := ⟨(RX3, TX3, 3), rfl, by decide, ab_gw_of 163 (by decide +kernel) (by decide +kernel)⟩
theorem fl_X3_15 : ab_fl RX3 15 3 1 := ⟨(RX3, TX3, 3), rfl, by decide, ab_gw_of 164 (by decide +kernel) (by decide +kernel)⟩
theorem fp_X3_15 : ab_fp RX3 15 3 1 true (.array .int) := ⟨(RX3, TX3, 3), rfl, by decide, ab_gw_of 164 (by decide +kernel) (by decide +kernel), rfl, by decide +kernel, fun _ => rfl⟩
theorem fl_X7_41 : ab_fl RX7 41 3 1 := ⟨(RX3, TX3, 3), rfl, by decide, ab_gw_of 165 (by decide +kernel) (by decide +kernel)⟩
theorem fl_X1_70 : ab_fl RX1 70 3 1 := ⟨(RX3, TX3, 3), rfl, by decide, ab_gw_of 166 (by decide +kernel) (by decide +kernel)⟩
theorem fl_X3_18 : ab_fl RX3 18 3 2 := ⟨(RX3, TX3, 3), rfl, by decide, ab_gw_of 167 (by decide +kernel) (by decide +kernel)⟩
theorem fp_X3_18 : ab_fp RX3 18 3 2 false .int := ⟨(RX3, TX3, 3), rfl, by decide, ab_gw_of 167 (by decide +kernel) (by decide +kernel), rfl, by decide +kernel, fun h => by cases h⟩
theorem fl_X7_35 : ab_fl RX7 35 3 2 := ⟨(RX3, TX3, 3), rfl, by decide, ab_gw_of 168 (by decide +kernel) (by decide +kernel)⟩
theorem fp_X7_35 : ab_fp RX7 35 3 2 false .int := ⟨(RX3, TX3, 3), rfl, by decide, ab_gw_of 168 (by decide +kernel) (by decide +kernel), rfl, by decide +kernel, fun h => by cases h⟩
theorem fl_X1_32 : ab_fl RX1 32 3 2 := ⟨(RX3, TX3, 3), rfl, by decide, ab_gw_of 169 (by decide +kernel) (by decide +kernel)⟩
theorem fp_X1_32 : ab_fp RX1 32 3 2 false .int := ⟨(RX3, TX3, 3), rfl, by decide, ab_gw_of 169 (by decide +kernel) (by decide +kernel), rfl, by decide +kernel, fun h => by cases h⟩
theorem fl_X8_162 : ab_fl RX8 162 3 2 := ⟨(RX3, TX3, 3), rfl, by decide, ab_gw_of 170 (by decide +kernel) (by decide +kernel)⟩
theorem fp_X8_162 : ab_fp RX8 162 3 2 false .int := ⟨(RX3, TX3, 3), rfl, by decide, ab_gw_of 170 (by decide +kernel) (by decide +kernel), rfl, by decide +kernel, fun h => by cases h⟩
theorem fl_X6_10 : ab_fl RX6 10 6 0 := ⟨(RX6, TX6, 3), rfl, by decide, ab_gw_of 178 (by decide +kernel) (by decide +kernel)⟩
theorem fp_X6_10 : ab_fp RX6 10 6 0 true (.object "HairBridge$Abbey") := ⟨(RX6, TX6, 3), rfl, by decide, ab_gw_of 178 (by decide +kernel) (by decide +kernel), rfl, by decide +kernel, fun _ => rfl⟩
theorem fl_X8_63 : ab_fl RX8 63 6 0 := ⟨(RX6, TX6, 3), rfl, by decide, ab_gw_of 179 (by decide +kernel) (by decide +kernel)⟩
theorem fl_X6_19 : ab_fl RX6 19 6 1 := ⟨(RX6, TX6, 3), rfl, by decide, ab_gw_of 180 (by decide +kernel) (by decide +kernel)⟩
theorem fp_X6_19 : ab_fp RX6 19 6 1 true (.object "HairBridge$Pairs") := ⟨(RX6, TX6, 3), rfl, by decide, ab_gw_of 180 (by decide +kernel) (by decide +kernel), rfl, by decide +kernel, fun _ => rfl⟩
theorem fl_X8_153 : ab_fl RX8 153 6 1 := ⟨(RX6, TX6, 3), rfl, by decide, ab_gw_of 181 (by decide +kernel) (by decide +kernel)⟩
theorem fl_X6_23 : ab_fl RX6 23 6 2 := ⟨(RX6, TX6, 3), rfl, by decide, ab_gw_of 182 (by decide +kernel) (by decide +kernel)⟩
theorem fp_X6_23 : ab_fp RX6 23 6 2 true (.object "HairBridge$Pairs") := ⟨(RX6, TX6, 3), rfl, by decide, ab_gw_of 182 (by decide +kernel) (by decide +kernel), rfl, by decide +kernel, fun _ => rfl⟩
theorem fl_X8_188 : ab_fl RX8 188 6 2 := ⟨(RX6, TX6, 3), rfl, by decide, ab_gw_of 183 (by decide +kernel) (by decide +kernel)⟩
theorem fl_X1_18 : ab_fl RX1 18 1 0 := ⟨(RX1, TX1, 4), rfl, by decide, ab_gw_of 202 (by decide +kernel) (by decide +kernel)⟩
theorem fp_X1_18 : ab_fp RX1 18 1 0 true (.array .int) := ⟨(RX1, TX1, 4), rfl, by decide, ab_gw_of 202 (by decide +kernel) (by decide +kernel), rfl, by decide +kernel, fun _ => rfl⟩
theorem fl_X1_22 : ab_fl RX1 22 1 1 := ⟨(RX1, TX1, 4), rfl, by decide, ab_gw_of 203 (by decide +kernel) (by decide +kernel)⟩
theorem fp_X1_22 : ab_fp RX1 22 1 1 true (.array .int) := ⟨(RX1, TX1, 4), rfl, by decide, ab_gw_of 203 (by decide +kernel) (by decide +kernel), rfl, by decide +kernel, fun _ => rfl⟩
theorem fl_X1_25 : ab_fl RX1 25 1 2 := ⟨(RX1, TX1, 4), rfl, by decide, ab_gw_of 204 (by decide +kernel) (by decide +kernel)⟩
theorem fp_X1_25 : ab_fp RX1 25 1 2 true (.array .int) := ⟨(RX1, TX1, 4), rfl, by decide, ab_gw_of 204 (by decide +kernel) (by decide +kernel), rfl, by decide +kernel, fun _ => rfl⟩
theorem fl_X1_12 : ab_fl RX1 12 1 3 := ⟨(RX1, TX1, 4), rfl, by decide, ab_gw_of 205 (by decide +kernel) (by decide +kernel)⟩
theorem fp_X1_12 : ab_fp RX1 12 1 3 true (.object "HairBridge$Pairs") := ⟨(RX1, TX1, 4), rfl, by decide, ab_gw_of 205 (by decide +kernel) (by decide +kernel), rfl, by decide +kernel, fun _ => rfl⟩
theorem fl_X4_11 : ab_fl RX4 11 4 0 := ⟨(RX4, TX4, 9), rfl, by decide, ab_gw_of 227 (by decide +kernel) (by decide +kernel)⟩
theorem fp_X4_11 : ab_fp RX4 11 4 0 true (.array (.object "HairBridge$Abbey")) := ⟨(RX4, TX4, 9), rfl, by decide, ab_gw_of 227 (by decide +kernel) (by decide +kernel), rfl, by decide +kernel, fun _ => rfl⟩
theorem fl_X4_20 : ab_fl RX4 20 4 1 := ⟨(RX4, TX4, 9), rfl, by decide, ab_gw_of 228 (by decide +kernel) (by decide +kernel)⟩
theorem fp_X4_20 : ab_fp RX4 20 4 1 true (.array (.array .int)) := ⟨(RX4, TX4, 9), rfl, by decide, ab_gw_of 228 (by decide +kernel) (by decide +kernel), rfl, by decide +kernel, fun _ => rfl⟩
theorem fl_X4_23 : ab_fl RX4 23 4 2 := ⟨(RX4, TX4, 9), rfl, by decide, ab_gw_of 229 (by decide +kernel) (by decide +kernel)⟩
theorem fp_X4_23 : ab_fp RX4 23 4 2 true (.array (.array .int)) := ⟨(RX4, TX4, 9), rfl, by decide, ab_gw_of 229 (by decide +kernel) (by decide +kernel), rfl, by decide +kernel, fun _ => rfl⟩
theorem fl_X4_26 : ab_fl RX4 26 4 3 := ⟨(RX4, TX4, 9), rfl, by decide, ab_gw_of 230 (by decide +kernel) (by decide +kernel)⟩
theorem fp_X4_26 : ab_fp RX4 26 4 3 true (.array .int) := ⟨(RX4, TX4, 9), rfl, by decide, ab_gw_of 230 (by decide +kernel) (by decide +kernel), rfl, by decide +kernel, fun _ => rfl⟩
theorem fl_X4_30 : ab_fl RX4 30 4 4 := ⟨(RX4, TX4, 9), rfl, by decide, ab_gw_of 231 (by decide +kernel) (by decide +kernel)⟩
theorem fp_X4_30 : ab_fp RX4 30 4 4 true (.array .int) := ⟨(RX4, TX4, 9), rfl, by decide, ab_gw_of 231 (by decide +kernel) (by decide +kernel), rfl, by decide +kernel, fun _ => rfl⟩
theorem fl_X4_33 : ab_fl RX4 33 4 5 := ⟨(RX4, TX4, 9), rfl, by decide, ab_gw_of 232 (by decide +kernel) (by decide +kernel)⟩
theorem fp_X4_33 : ab_fp RX4 33 4 5 true (.array .int) := ⟨(RX4, TX4, 9), rfl, by decide, ab_gw_of 232 (by decide +kernel) (by decide +kernel), rfl, by decide +kernel, fun _ => rfl⟩
theorem fl_X4_36 : ab_fl RX4 36 4 6 := ⟨(RX4, TX4, 9), rfl, by decide, ab_gw_of 233 (by decide +kernel) (by decide +kernel)⟩
theorem fp_X4_36 : ab_fp RX4 36 4 6 false .int := ⟨(RX4, TX4, 9), rfl, by decide, ab_gw_of 233 (by decide +kernel) (by decide +kernel), rfl, by decide +kernel, fun h => by cases h⟩
theorem fl_X4_40 : ab_fl RX4 40 4 7 := ⟨(RX4, TX4, 9), rfl, by decide, ab_gw_of 234 (by decide +kernel) (by decide +kernel)⟩
theorem fp_X4_40 : ab_fp RX4 40 4 7 false .int := ⟨(RX4, TX4, 9), rfl, by decide, ab_gw_of 234 (by decide +kernel) (by decide +kernel), rfl, by decide +kernel, fun h => by cases h⟩
theorem fl_X4_43 : ab_fl RX4 43 4 8 := ⟨(RX4, TX4, 9), rfl, by decide, ab_gw_of 235 (by decide +kernel) (by decide +kernel)⟩
theorem fp_X4_43 : ab_fp RX4 43 4 8 false .int := ⟨(RX4, TX4, 9), rfl, by decide, ab_gw_of 235 (by decide +kernel) (by decide +kernel), rfl, by decide +kernel, fun h => by cases h⟩
theorem fl_X7_11 : ab_fl RX7 11 7 0 := ⟨(RX7, TX7, 4), rfl, by decide, ab_gw_of 261 (by decide +kernel) (by decide +kernel)⟩
theorem fp_X7_11 : ab_fp RX7 11 7 0 true (.array .int) := ⟨(RX7, TX7, 4), rfl, by decide, ab_gw_of 261 (by decide +kernel) (by decide +kernel), rfl, by decide +kernel, fun _ => rfl⟩
theorem fl_X7_15 : ab_fl RX7 15 7 1 := ⟨(RX7, TX7, 4), rfl, by decide, ab_gw_of 262 (by decide +kernel) (by decide +kernel)⟩
theorem fp_X7_15 : ab_fp RX7 15 7 1 true (.array .int) := ⟨(RX7, TX7, 4), rfl, by decide, ab_gw_of 262 (by decide +kernel) (by decide +kernel), rfl, by decide +kernel, fun _ => rfl⟩
theorem fl_X7_18 : ab_fl RX7 18 7 2 := ⟨(RX7, TX7, 4), rfl, by decide, ab_gw_of 263 (by decide +kernel) (by decide +kernel)⟩
theorem fp_X7_18 : ab_fp RX7 18 7 2 true (.array .int) := ⟨(RX7, TX7, 4), rfl, by decide, ab_gw_of 263 (by decide +kernel) (by decide +kernel), rfl, by decide +kernel, fun _ => rfl⟩
theorem fl_X8_196 : ab_fl RX8 196 7 2 := ⟨(RX7, TX7, 4), rfl, by decide, ab_gw_of 264 (by decide +kernel) (by decide +kernel)⟩
theorem fl_X7_27 : ab_fl RX7 27 7 3 := ⟨(RX7, TX7, 4), rfl, by decide, ab_gw_of 265 (by decide +kernel) (by decide +kernel)⟩
theorem fp_X7_27 : ab_fp RX7 27 7 3 false .int := ⟨(RX7, TX7, 4), rfl, by decide, ab_gw_of 265 (by decide +kernel) (by decide +kernel), rfl, by decide +kernel, fun h => by cases h⟩
theorem fl_X8_195 : ab_fl RX8 195 7 3 := ⟨(RX7, TX7, 4), rfl, by decide, ab_gw_of 266 (by decide +kernel) (by decide +kernel)⟩
theorem fp_X8_195 : ab_fp RX8 195 7 3 false .int := ⟨(RX7, TX7, 4), rfl, by decide, ab_gw_of 266 (by decide +kernel) (by decide +kernel), rfl, by decide +kernel, fun h => by cases h⟩
theorem fl_X8_10 : ab_fl RX8 10 8 0 := ⟨(RX8, TX8, 8), rfl, by decide, ab_gw_of 276 (by decide +kernel) (by decide +kernel)⟩
theorem fp_X8_10 : ab_fp RX8 10 8 0 true (.object "HairBridge$Pad") := ⟨(RX8, TX8, 8), rfl, by decide, ab_gw_of 276 (by decide +kernel) (by decide +kernel), rfl, by decide +kernel, fun _ => rfl⟩
theorem fl_X8_19 : ab_fl RX8 19 8 1 := ⟨(RX8, TX8, 8), rfl, by decide, ab_gw_of 277 (by decide +kernel) (by decide +kernel)⟩
theorem fp_X8_19 : ab_fp RX8 19 8 1 true (.object "HairBridge$Whole") := ⟨(RX8, TX8, 8), rfl, by decide, ab_gw_of 277 (by decide +kernel) (by decide +kernel), rfl, by decide +kernel, fun _ => rfl⟩
theorem fl_X8_23 : ab_fl RX8 23 8 2 := ⟨(RX8, TX8, 8), rfl, by decide, ab_gw_of 278 (by decide +kernel) (by decide +kernel)⟩
theorem fp_X8_23 : ab_fp RX8 23 8 2 true (.array (.object "HairBridge$Whole")) := ⟨(RX8, TX8, 8), rfl, by decide, ab_gw_of 278 (by decide +kernel) (by decide +kernel), rfl, by decide +kernel, fun _ => rfl⟩
theorem fl_X8_27 : ab_fl RX8 27 8 3 := ⟨(RX8, TX8, 8), rfl, by decide, ab_gw_of 279 (by decide +kernel) (by decide +kernel)⟩
theorem fp_X8_27 : ab_fp RX8 27 8 3 true (.array .boolean) := ⟨(RX8, TX8, 8), rfl, by decide, ab_gw_of 279 (by decide +kernel) (by decide +kernel), rfl, by decide +kernel, fun _ => rfl⟩
theorem fl_X8_34 : ab_fl RX8 34 8 4 := ⟨(RX8, TX8, 8), rfl, by decide, ab_gw_of 280 (by decide +kernel) (by decide +kernel)⟩
theorem fp_X8_34 : ab_fp RX8 34 8 4 true (.object "HairBridge$Abbey") := ⟨(RX8, TX8, 8), rfl, by decide, ab_gw_of 280 (by decide +kernel) (by decide +kernel), rfl, by decide +kernel, fun _ => rfl⟩
theorem fl_X8_41 : ab_fl RX8 41 8 5 := ⟨(RX8, TX8, 8), rfl, by decide, ab_gw_of 281 (by decide +kernel) (by decide +kernel)⟩
theorem fp_X8_41 : ab_fp RX8 41 8 5 true (.object "HairBridge$Crossing") := ⟨(RX8, TX8, 8), rfl, by decide, ab_gw_of 281 (by decide +kernel) (by decide +kernel), rfl, by decide +kernel, fun _ => rfl⟩
theorem fl_X8_48 : ab_fl RX8 48 8 6 := ⟨(RX8, TX8, 8), rfl, by decide, ab_gw_of 282 (by decide +kernel) (by decide +kernel)⟩
theorem fp_X8_48 : ab_fp RX8 48 8 6 true (.object "HairBridge$Renewal") := ⟨(RX8, TX8, 8), rfl, by decide, ab_gw_of 282 (by decide +kernel) (by decide +kernel), rfl, by decide +kernel, fun _ => rfl⟩
theorem fl_X8_55 : ab_fl RX8 55 8 7 := ⟨(RX8, TX8, 8), rfl, by decide, ab_gw_of 283 (by decide +kernel) (by decide +kernel)⟩
theorem fp_X8_55 : ab_fp RX8 55 8 7 true (.object "HairBridge$Wigs") := ⟨(RX8, TX8, 8), rfl, by decide, ab_gw_of 283 (by decide +kernel) (by decide +kernel), rfl, by decide +kernel, fun _ => rfl⟩
theorem fl_X9_7 : ab_fl RX9 7 9 0 := ⟨(RX9, TX9, 37), rfl, by decide, ab_gw_of 695 (by decide +kernel) (by decide +kernel)⟩
theorem fp_X9_7 : ab_fp RX9 7 9 0 true (.array .int) := ⟨(RX9, TX9, 37), rfl, by decide, ab_gw_of 695 (by decide +kernel) (by decide +kernel), rfl, by decide +kernel, fun _ => rfl⟩
theorem fl_X9_13 : ab_fl RX9 13 9 1 := ⟨(RX9, TX9, 37), rfl, by decide, ab_gw_of 696 (by decide +kernel) (by decide +kernel)⟩
theorem fp_X9_13 : ab_fp RX9 13 9 1 true (.array .int) := ⟨(RX9, TX9, 37), rfl, by decide, ab_gw_of 696 (by decide +kernel) (by decide +kernel), rfl, by decide +kernel, fun _ => rfl⟩
theorem fl_X9_16 : ab_fl RX9 16 9 2 := ⟨(RX9, TX9, 37), rfl, by decide, ab_gw_of 697 (by decide +kernel) (by decide +kernel)⟩
theorem fp_X9_16 : ab_fp RX9 16 9 2 true (.array .int) := ⟨(RX9, TX9, 37), rfl, by decide, ab_gw_of 697 (by decide +kernel) (by decide +kernel), rfl, by decide +kernel, fun _ => rfl⟩
theorem fl_X9_19 : ab_fl RX9 19 9 3 := ⟨(RX9, TX9, 37), rfl, by decide, ab_gw_of 698 (by decide +kernel) (by decide +kernel)⟩
theorem fp_X9_19 : ab_fp RX9 19 9 3 true (.array .int) := ⟨(RX9, TX9, 37), rfl, by decide, ab_gw_of 698 (by decide +kernel) (by decide +kernel), rfl, by decide +kernel, fun _ => rfl⟩
theorem fl_X9_22 : ab_fl RX9 22 9 4 := ⟨(RX9, TX9, 37), rfl, by decide, ab_gw_of 699 (by decide +kernel) (by decide +kernel)⟩
theorem fp_X9_22 : ab_fp RX9 22 9 4 true (.array .int) := ⟨(RX9, TX9, 37), rfl, by decide, ab_gw_of 699 (by decide +kernel) (by decide +kernel), rfl, by decide +kernel, fun _ => rfl⟩
theorem fl_X9_25 : ab_fl RX9 25 9 5 := ⟨(RX9, TX9, 37), rfl, by decide, ab_gw_of 700 (by decide +kernel) (by decide +kernel)⟩
theorem fp_X9_25 : ab_fp RX9 25 9 5 true (.array .int) := ⟨(RX9, TX9, 37), rfl, by decide, ab_gw_of 700 (by decide +kernel) (by decide +kernel), rfl, by decide +kernel, fun _ => rfl⟩
theorem fl_X9_28 : ab_fl RX9 28 9 6 := ⟨(RX9, TX9, 37), rfl, by decide, ab_gw_of 701 (by decide +kernel) (by decide +kernel)⟩
theorem fp_X9_28 : ab_fp RX9 28 9 6 true (.array .int) := ⟨(RX9, TX9, 37), rfl, by decide, ab_gw_of 701 (by decide +kernel) (by decide +kernel), rfl, by decide +kernel, fun _ => rfl⟩
theorem fl_X9_31 : ab_fl RX9 31 9 7 := ⟨(RX9, TX9, 37), rfl, by decide, ab_gw_of 702 (by decide +kernel) (by decide +kernel)⟩
theorem fp_X9_31 : ab_fp RX9 31 9 7 true (.array .int) := ⟨(RX9, TX9, 37), rfl, by decide, ab_gw_of 702 (by decide +kernel) (by decide +kernel), rfl, by decide +kernel, fun _ => rfl⟩
theorem fl_X9_89 : ab_fl RX9 89 9 8 := ⟨(RX9, TX9, 37), rfl, by decide, ab_gw_of 703 (by decide +kernel) (by decide +kernel)⟩
theorem fp_X9_89 : ab_fp RX9 89 9 8 false .int := ⟨(RX9, TX9, 37), rfl, by decide, ab_gw_of 703 (by decide +kernel) (by decide +kernel), rfl, by decide +kernel, fun h => by cases h⟩
theorem fl_X9_101 : ab_fl RX9 101 9 9 := ⟨(RX9, TX9, 37), rfl, by decide, ab_gw_of 704 (by decide +kernel) (by decide +kernel)⟩
theorem fp_X9_101 : ab_fp RX9 101 9 9 false .int := ⟨(RX9, TX9, 37), rfl, by decide, ab_gw_of 704 (by decide +kernel) (by decide +kernel), rfl, by decide +kernel, fun h => by cases h⟩
theorem fl_X9_34 : ab_fl RX9 34 9 10 := ⟨(RX9, TX9, 37), rfl, by decide, ab_gw_of 705 (by decide +kernel) (by decide +kernel)⟩
theorem fp_X9_34 : ab_fp RX9 34 9 10 true (.array .int) := ⟨(RX9, TX9, 37), rfl, by decide, ab_gw_of 705 (by decide +kernel) (by decide +kernel), rfl, by decide +kernel, fun _ => rfl⟩
theorem fl_X9_37 : ab_fl RX9 37 9 11 := ⟨(RX9, TX9, 37), rfl, by decide, ab_gw_of 706 (by decide +kernel) (by decide +kernel)⟩
theorem fp_X9_37 : ab_fp RX9 37 9 11 true (.array .int) := ⟨(RX9, TX9, 37), rfl, by decide, ab_gw_of 706 (by decide +kernel) (by decide +kernel), rfl, by decide +kernel, fun _ => rfl⟩
theorem fl_X9_206 : ab_fl RX9 206 9 12 := ⟨(RX9, TX9, 37), rfl, by decide, ab_gw_of 707 (by decide +kernel) (by decide +kernel)⟩
theorem fp_X9_206 : ab_fp RX9 206 9 12 false .int := ⟨(RX9, TX9, 37), rfl, by decide, ab_gw_of 707 (by decide +kernel) (by decide +kernel), rfl, by decide +kernel, fun h => by cases h⟩
theorem fl_X9_40 : ab_fl RX9 40 9 13 := ⟨(RX9, TX9, 37), rfl, by decide, ab_gw_of 708 (by decide +kernel) (by decide +kernel)⟩
theorem fp_X9_40 : ab_fp RX9 40 9 13 true (.array .int) := ⟨(RX9, TX9, 37), rfl, by decide, ab_gw_of 708 (by decide +kernel) (by decide +kernel), rfl, by decide +kernel, fun _ => rfl⟩
theorem fl_X9_43 : ab_fl RX9 43 9 14 := ⟨(RX9, TX9, 37), rfl, by decide, ab_gw_of 709 (by decide +kernel) (by decide +kernel)⟩
theorem fp_X9_43 : ab_fp RX9 43 9 14 true (.array .int) := ⟨(RX9, TX9, 37), rfl, by decide, ab_gw_of 709 (by decide +kernel) (by decide +kernel), rfl, by decide +kernel, fun _ => rfl⟩
theorem fl_X9_234 : ab_fl RX9 234 9 15 := ⟨(RX9, TX9, 37), rfl, by decide, ab_gw_of 710 (by decide +kernel) (by decide +kernel)⟩
theorem fp_X9_234 : ab_fp RX9 234 9 15 false .int := ⟨(RX9, TX9, 37), rfl, by decide, ab_gw_of 710 (by decide +kernel) (by decide +kernel), rfl, by decide +kernel, fun h => by cases h⟩
theorem fl_X9_46 : ab_fl RX9 46 9 16 := ⟨(RX9, TX9, 37), rfl, by decide, ab_gw_of 711 (by decide +kernel) (by decide +kernel)⟩
theorem fp_X9_46 : ab_fp RX9 46 9 16 true (.array .int) := ⟨(RX9, TX9, 37), rfl, by decide, ab_gw_of 711 (by decide +kernel) (by decide +kernel), rfl, by decide +kernel, fun _ => rfl⟩
theorem fl_X9_49 : ab_fl RX9 49 9 17 := ⟨(RX9, TX9, 37), rfl, by decide, ab_gw_of 712 (by decide +kernel) (by decide +kernel)⟩
theorem fp_X9_49 : ab_fp RX9 49 9 17 true (.array .int) := ⟨(RX9, TX9, 37), rfl, by decide, ab_gw_of 712 (by decide +kernel) (by decide +kernel), rfl, by decide +kernel, fun _ => rfl⟩
theorem fl_X9_52 : ab_fl RX9 52 9 18 := ⟨(RX9, TX9, 37), rfl, by decide, ab_gw_of 713 (by decide +kernel) (by decide +kernel)⟩
theorem fp_X9_52 : ab_fp RX9 52 9 18 true (.array .int) := ⟨(RX9, TX9, 37), rfl, by decide, ab_gw_of 713 (by decide +kernel) (by decide +kernel), rfl, by decide +kernel, fun _ => rfl⟩
theorem fl_X9_55 : ab_fl RX9 55 9 19 := ⟨(RX9, TX9, 37), rfl, by decide, ab_gw_of 714 (by decide +kernel) (by decide +kernel)⟩
theorem fp_X9_55 : ab_fp RX9 55 9 19 true (.array .int) := ⟨(RX9, TX9, 37), rfl, by decide, ab_gw_of 714 (by decide +kernel) (by decide +kernel), rfl, by decide +kernel, fun _ => rfl⟩
theorem fl_X9_58 : ab_fl RX9 58 9 20 := ⟨(RX9, TX9, 37), rfl, by decide, ab_gw_of 715 (by decide +kernel) (by decide +kernel)⟩
theorem fp_X9_58 : ab_fp RX9 58 9 20 true (.array .int) := ⟨(RX9, TX9, 37), rfl, by decide, ab_gw_of 715 (by decide +kernel) (by decide +kernel), rfl, by decide +kernel, fun _ => rfl⟩
theorem fl_X9_61 : ab_fl RX9 61 9 21 := ⟨(RX9, TX9, 37), rfl, by decide, ab_gw_of 716 (by decide +kernel) (by decide +kernel)⟩
theorem fp_X9_61 : ab_fp RX9 61 9 21 true (.array .int) := ⟨(RX9, TX9, 37), rfl, by decide, ab_gw_of 716 (by decide +kernel) (by decide +kernel), rfl, by decide +kernel, fun _ => rfl⟩
theorem fl_X9_64 : ab_fl RX9 64 9 22 := ⟨(RX9, TX9, 37), rfl, by decide, ab_gw_of 717 (by decide +kernel) (by decide +kernel)⟩
theorem fp_X9_64 : ab_fp RX9 64 9 22 true (.array .int) := ⟨(RX9, TX9, 37), rfl, by decide, ab_gw_of 717 (by decide +kernel) (by decide +kernel), rfl, by decide +kernel, fun _ => rfl⟩
theorem fl_X9_104 : ab_fl RX9 104 9 23 := ⟨(RX9, TX9, 37), rfl, by decide, ab_gw_of 718 (by decide +kernel) (by decide +kernel)⟩
theorem fp_X9_104 : ab_fp RX9 104 9 23 false .int := ⟨(RX9, TX9, 37), rfl, by decide, ab_gw_of 718 (by decide +kernel) (by decide +kernel), rfl, by decide +kernel, fun h => by cases h⟩
theorem fl_X9_67 : ab_fl RX9 67 9 24 := ⟨(RX9, TX9, 37), rfl, by decide, ab_gw_of 719 (by decide +kernel) (by decide +kernel)⟩
theorem fp_X9_67 : ab_fp RX9 67 9 24 true (.array .int) := ⟨(RX9, TX9, 37), rfl, by decide, ab_gw_of 719 (by decide +kernel) (by decide +kernel), rfl, by decide +kernel, fun _ => rfl⟩
theorem fl_X9_130 : ab_fl RX9 130 9 25 := ⟨(RX9, TX9, 37), rfl, by decide, ab_gw_of 720 (by decide +kernel) (by decide +kernel)⟩
theorem fp_X9_130 : ab_fp RX9 130 9 25 false .int := ⟨(RX9, TX9, 37), rfl, by decide, ab_gw_of 720 (by decide +kernel) (by decide +kernel), rfl, by decide +kernel, fun h => by cases h⟩
theorem fl_X9_162 : ab_fl RX9 162 9 26 := ⟨(RX9, TX9, 37), rfl, by decide, ab_gw_of 721 (by decide +kernel) (by decide +kernel)⟩
theorem fp_X9_162 : ab_fp RX9 162 9 26 false .int := ⟨(RX9, TX9, 37), rfl, by decide, ab_gw_of 721 (by decide +kernel) (by decide +kernel), rfl, by decide +kernel, fun h => by cases h⟩
theorem fl_X9_165 : ab_fl RX9 165 9 27 := ⟨(RX9, TX9, 37), rfl, by decide, ab_gw_of 722 (by decide +kernel) (by decide +kernel)⟩
theorem fp_X9_165 : ab_fp RX9 165 9 27 false .int := ⟨(RX9, TX9, 37), rfl, by decide, ab_gw_of 722 (by decide +kernel) (by decide +kernel), rfl, by decide +kernel, fun h => by cases h⟩
theorem fl_X9_70 : ab_fl RX9 70 9 28 := ⟨(RX9, TX9, 37), rfl, by decide, ab_gw_of 723 (by decide +kernel) (by decide +kernel)⟩
theorem fp_X9_70 : ab_fp RX9 70 9 28 true (.array .int) := ⟨(RX9, TX9, 37), rfl, by decide, ab_gw_of 723 (by decide +kernel) (by decide +kernel), rfl, by decide +kernel, fun _ => rfl⟩
theorem fl_X9_73 : ab_fl RX9 73 9 29 := ⟨(RX9, TX9, 37), rfl, by decide, ab_gw_of 724 (by decide +kernel) (by decide +kernel)⟩
theorem fp_X9_73 : ab_fp RX9 73 9 29 true (.array .int) := ⟨(RX9, TX9, 37), rfl, by decide, ab_gw_of 724 (by decide +kernel) (by decide +kernel), rfl, by decide +kernel, fun _ => rfl⟩
theorem fl_X9_76 : ab_fl RX9 76 9 30 := ⟨(RX9, TX9, 37), rfl, by decide, ab_gw_of 725 (by decide +kernel) (by decide +kernel)⟩
theorem fp_X9_76 : ab_fp RX9 76 9 30 true (.array .int) := ⟨(RX9, TX9, 37), rfl, by decide, ab_gw_of 725 (by decide +kernel) (by decide +kernel), rfl, by decide +kernel, fun _ => rfl⟩
theorem fl_X9_215 : ab_fl RX9 215 9 31 := ⟨(RX9, TX9, 37), rfl, by decide, ab_gw_of 726 (by decide +kernel) (by decide +kernel)⟩
theorem fp_X9_215 : ab_fp RX9 215 9 31 false .int := ⟨(RX9, TX9, 37), rfl, by decide, ab_gw_of 726 (by decide +kernel) (by decide +kernel), rfl, by decide +kernel, fun h => by cases h⟩
theorem fl_X9_79 : ab_fl RX9 79 9 32 := ⟨(RX9, TX9, 37), rfl, by decide, ab_gw_of 727 (by decide +kernel) (by decide +kernel)⟩
theorem fp_X9_79 : ab_fp RX9 79 9 32 true (.array .int) := ⟨(RX9, TX9, 37), rfl, by decide, ab_gw_of 727 (by decide +kernel) (by decide +kernel), rfl, by decide +kernel, fun _ => rfl⟩
theorem fl_X9_82 : ab_fl RX9 82 9 33 := ⟨(RX9, TX9, 37), rfl, by decide, ab_gw_of 728 (by decide +kernel) (by decide +kernel)⟩
theorem fp_X9_82 : ab_fp RX9 82 9 33 true (.array .int) := ⟨(RX9, TX9, 37), rfl, by decide, ab_gw_of 728 (by decide +kernel) (by decide +kernel), rfl, by decide +kernel, fun _ => rfl⟩
theorem fl_X9_85 : ab_fl RX9 85 9 34 := ⟨(RX9, TX9, 37), rfl, by decide, ab_gw_of 729 (by decide +kernel) (by decide +kernel)⟩
theorem fp_X9_85 : ab_fp RX9 85 9 34 true (.array .boolean) := ⟨(RX9, TX9, 37), rfl, by decide, ab_gw_of 729 (by decide +kernel) (by decide +kernel), rfl, by decide +kernel, fun _ => rfl⟩
theorem fl_X9_266 : ab_fl RX9 266 9 35 := ⟨(RX9, TX9, 37), rfl, by decide, ab_gw_of 730 (by decide +kernel) (by decide +kernel)⟩
theorem fp_X9_266 : ab_fp RX9 266 9 35 false .int := ⟨(RX9, TX9, 37), rfl, by decide, ab_gw_of 730 (by decide +kernel) (by decide +kernel), rfl, by decide +kernel, fun h => by cases h⟩
theorem fl_X9_262 : ab_fl RX9 262 9 36 := ⟨(RX9, TX9, 37), rfl, by decide, ab_gw_of 731 (by decide +kernel) (by decide +kernel)⟩
theorem fp_X9_262 : ab_fp RX9 262 9 36 false .boolean := ⟨(RX9, TX9, 37), rfl, by decide, ab_gw_of 731 (by decide +kernel) (by decide +kernel), rfl, by decide +kernel, fun h => by cases h⟩
theorem mi_L_9 : ab_mi RL 9 YX8_init 0 := ⟨ab_gw_of 59 (by decide +kernel) (by decide +kernel), ab_gw_of 60 (by decide +kernel) (by decide +kernel), rfl, rfl, mw_X8_init⟩
theorem wo_X8_1 : Cond.methodLink RX8 1 objectInit ∈ ab_gw := ab_gw_of 62 (by decide +kernel) (by decide +kernel)
theorem mi_X8_9 : ab_mi RX8 9 YX2_init 0 := ⟨ab_gw_of 67 (by decide +kernel) (by decide +kernel), ab_gw_of 68 (by decide +kernel) (by decide +kernel), rfl, rfl, mw_X2_init⟩
theorem wo_X2_3 : Cond.methodLink RX2 3 objectInit ∈ ab_gw := ab_gw_of 70 (by decide +kernel) (by decide +kernel)
theorem mi_X8_18 : ab_mi RX8 18 YX6_init 0 := ⟨ab_gw_of 82 (by decide +kernel) (by decide +kernel), ab_gw_of 83 (by decide +kernel) (by decide +kernel), rfl, rfl, mw_X6_init⟩
theorem wo_X6_1 : Cond.methodLink RX6 1 objectInit ∈ ab_gw := ab_gw_of 85 (by decide +kernel) (by decide +kernel)
theorem mi_X6_9 : ab_mi RX6 9 YX0_init 0 := ⟨ab_gw_of 88 (by decide +kernel) (by decide +kernel), ab_gw_of 89 (by decide +kernel) (by decide +kernel), rfl, rfl, mw_X0_init⟩
theorem wo_X0_3 : Cond.methodLink RX0 3 objectInit ∈ ab_gw := ab_gw_of 91 (by decide +kernel) (by decide +kernel)
theorem ms_X0_33 : ab_ms RX0 33 YJ7_fill_53178 2 := ⟨ab_gw_of 94 (by decide +kernel) (by decide +kernel), ab_gw_of 95 (by decide +kernel) (by decide +kernel), mw_J7_fill_53178⟩
theorem mi_X0_39 : ab_mi RX0 39 YX5_init 0 := ⟨ab_gw_of 98 (by decide +kernel) (by decide +kernel), ab_gw_of 99 (by decide +kernel) (by decide +kernel), rfl, rfl, mw_X5_init⟩
theorem wo_X5_3 : Cond.methodLink RX5 3 objectInit ∈ ab_gw := ab_gw_of 101 (by decide +kernel) (by decide +kernel)
theorem mi_X6_18 : ab_mi RX6 18 YX3_init 0 := ⟨ab_gw_of 157 (by decide +kernel) (by decide +kernel), ab_gw_of 158 (by decide +kernel) (by decide +kernel), rfl, rfl, mw_X3_init⟩
theorem wo_X3_3 : Cond.methodLink RX3 3 objectInit ∈ ab_gw := ab_gw_of 160 (by decide +kernel) (by decide +kernel)
theorem mi_X8_33 : ab_mi RX8 33 YX0_init 0 := ⟨ab_gw_of 193 (by decide +kernel) (by decide +kernel), ab_gw_of 89 (by decide +kernel) (by decide +kernel), rfl, rfl, mw_X0_init⟩
theorem mi_X8_40 : ab_mi RX8 40 YX1_init 0 := ⟨ab_gw_of 196 (by decide +kernel) (by decide +kernel), ab_gw_of 197 (by decide +kernel) (by decide +kernel), rfl, rfl, mw_X1_init⟩
theorem wo_X1_3 : Cond.methodLink RX1 3 objectInit ∈ ab_gw := ab_gw_of 199 (by decide +kernel) (by decide +kernel)
theorem mi_X1_11 : ab_mi RX1 11 YX3_init 0 := ⟨ab_gw_of 201 (by decide +kernel) (by decide +kernel), ab_gw_of 158 (by decide +kernel) (by decide +kernel), rfl, rfl, mw_X3_init⟩
theorem mi_X8_47 : ab_mi RX8 47 YX4_init 0 := ⟨ab_gw_of 218 (by decide +kernel) (by decide +kernel), ab_gw_of 219 (by decide +kernel) (by decide +kernel), rfl, rfl, mw_X4_init⟩
theorem wo_X4_3 : Cond.methodLink RX4 3 objectInit ∈ ab_gw := ab_gw_of 221 (by decide +kernel) (by decide +kernel)
theorem mi_X4_17 : ab_mi RX4 17 YX0_init 0 := ⟨ab_gw_of 224 (by decide +kernel) (by decide +kernel), ab_gw_of 89 (by decide +kernel) (by decide +kernel), rfl, rfl, mw_X0_init⟩
theorem mi_X8_54 : ab_mi RX8 54 YX7_init 0 := ⟨ab_gw_of 257 (by decide +kernel) (by decide +kernel), ab_gw_of 258 (by decide +kernel) (by decide +kernel), rfl, rfl, mw_X7_init⟩
theorem wo_X7_3 : Cond.methodLink RX7 3 objectInit ∈ ab_gw := ab_gw_of 260 (by decide +kernel) (by decide +kernel)
theorem mv_L_13 : ab_mv RL 13 YX8_monk 3 := ⟨ab_gw_of 301 (by decide +kernel) (by decide +kernel), ab_gw_of 302 (by decide +kernel) (by decide +kernel), ab_gw_of 303 (by decide +kernel) (by decide +kernel), mw_X8_monk⟩
theorem ms_X8_59 : ab_ms RX8 59 YX8_isIn 3 := ⟨ab_gw_of 305 (by decide +kernel) (by decide +kernel), ab_gw_of 306 (by decide +kernel) (by decide +kernel), mw_X8_isIn⟩
theorem mv_L_18 : ab_mv RL 18 YX8_wear 1 := ⟨ab_gw_of 308 (by decide +kernel) (by decide +kernel), ab_gw_of 309 (by decide +kernel) (by decide +kernel), ab_gw_of 310 (by decide +kernel) (by decide +kernel), mw_X8_wear⟩
theorem mv_L_23 : ab_mv RL 23 YX8_say 1 := ⟨ab_gw_of 312 (by decide +kernel) (by decide +kernel), ab_gw_of 313 (by decide +kernel) (by decide +kernel), ab_gw_of 314 (by decide +kernel) (by decide +kernel), mw_X8_say⟩
theorem mv_X8_77 : ab_mv RX8 77 YX2_put 1 := ⟨ab_gw_of 316 (by decide +kernel) (by decide +kernel), ab_gw_of 317 (by decide +kernel) (by decide +kernel), ab_gw_of 318 (by decide +kernel) (by decide +kernel), mw_X2_put⟩
theorem mv_L_27 : ab_mv RL 27 YX8_wipe 0 := ⟨ab_gw_of 320 (by decide +kernel) (by decide +kernel), ab_gw_of 321 (by decide +kernel) (by decide +kernel), ab_gw_of 322 (by decide +kernel) (by decide +kernel), mw_X8_wipe⟩
theorem mv_X8_84 : ab_mv RX8 84 YX2_clear 0 := ⟨ab_gw_of 324 (by decide +kernel) (by decide +kernel), ab_gw_of 325 (by decide +kernel) (by decide +kernel), ab_gw_of 326 (by decide +kernel) (by decide +kernel), mw_X2_clear⟩
theorem mv_L_32 : ab_mv RL 32 YX8_fault 0 := ⟨ab_gw_of 328 (by decide +kernel) (by decide +kernel), ab_gw_of 329 (by decide +kernel) (by decide +kernel), ab_gw_of 330 (by decide +kernel) (by decide +kernel), mw_X8_fault⟩
theorem mv_X8_88 : ab_mv RX8 88 YX2_firstFault 0 := ⟨ab_gw_of 332 (by decide +kernel) (by decide +kernel), ab_gw_of 333 (by decide +kernel) (by decide +kernel), ab_gw_of 334 (by decide +kernel) (by decide +kernel), mw_X2_firstFault⟩
theorem ms_X2_19 : ab_ms RX2 19 YX2_behind 2 := ⟨ab_gw_of 336 (by decide +kernel) (by decide +kernel), ab_gw_of 337 (by decide +kernel) (by decide +kernel), mw_X2_behind⟩
theorem mv_L_36 : ab_mv RL 36 YX8_judge 1 := ⟨ab_gw_of 340 (by decide +kernel) (by decide +kernel), ab_gw_of 341 (by decide +kernel) (by decide +kernel), ab_gw_of 342 (by decide +kernel) (by decide +kernel), mw_X8_judge⟩
theorem mv_X8_91 : ab_mv RX8 91 YX8_tryText 0 := ⟨ab_gw_of 344 (by decide +kernel) (by decide +kernel), ab_gw_of 346 (by decide +kernel) (by decide +kernel), ab_gw_of 0 (by decide +kernel) (by decide +kernel), mw_X8_tryText⟩
theorem mv_X8_101 : ab_mv RX8 101 YX0_become 1 := ⟨ab_gw_of 348 (by decide +kernel) (by decide +kernel), ab_gw_of 349 (by decide +kernel) (by decide +kernel), ab_gw_of 350 (by decide +kernel) (by decide +kernel), mw_X0_become⟩
theorem wa_X0_44 : Cond.methodLink RX0 44 arraycopyName ∈ ab_gw := ab_gw_of 352 (by decide +kernel) (by decide +kernel)
theorem mv_X0_50 : ab_mv RX0 50 YX5_become 1 := ⟨ab_gw_of 355 (by decide +kernel) (by decide +kernel), ab_gw_of 356 (by decide +kernel) (by decide +kernel), ab_gw_of 357 (by decide +kernel) (by decide +kernel), mw_X5_become⟩
theorem wa_X5_25 : Cond.methodLink RX5 25 arraycopyName ∈ ab_gw := ab_gw_of 359 (by decide +kernel) (by decide +kernel)
theorem mv_X8_225 : ab_mv RX8 225 YX2_follow 1 := ⟨ab_gw_of 360 (by decide +kernel) (by decide +kernel), ab_gw_of 361 (by decide +kernel) (by decide +kernel), ab_gw_of 362 (by decide +kernel) (by decide +kernel), mw_X2_follow⟩
theorem mv_X2_27 : ab_mv RX2 27 YX2_doPart 3 := ⟨ab_gw_of 364 (by decide +kernel) (by decide +kernel), ab_gw_of 366 (by decide +kernel) (by decide +kernel), ab_gw_of 1 (by decide +kernel) (by decide +kernel), mw_X2_doPart⟩
theorem mv_X2_31 : ab_mv RX2 31 YX0_passWeek 0 := ⟨ab_gw_of 368 (by decide +kernel) (by decide +kernel), ab_gw_of 369 (by decide +kernel) (by decide +kernel), ab_gw_of 370 (by decide +kernel) (by decide +kernel), mw_X0_passWeek⟩
theorem mv_X0_65 : ab_mv RX0 65 YX5_lose 2 := ⟨ab_gw_of 372 (by decide +kernel) (by decide +kernel), ab_gw_of 373 (by decide +kernel) (by decide +kernel), ab_gw_of 374 (by decide +kernel) (by decide +kernel), mw_X5_lose⟩
theorem mv_X5_35 : ab_mv RX5 35 YX5_dropOldest 1 := ⟨ab_gw_of 376 (by decide +kernel) (by decide +kernel), ab_gw_of 378 (by decide +kernel) (by decide +kernel), ab_gw_of 2 (by decide +kernel) (by decide +kernel), mw_X5_dropOldest⟩
theorem mv_X2_36 : ab_mv RX2 36 YX0_sin 2 := ⟨ab_gw_of 380 (by decide +kernel) (by decide +kernel), ab_gw_of 381 (by decide +kernel) (by decide +kernel), ab_gw_of 382 (by decide +kernel) (by decide +kernel), mw_X0_sin⟩
theorem mv_X2_39 : ab_mv RX2 39 YX0_pray 2 := ⟨ab_gw_of 384 (by decide +kernel) (by decide +kernel), ab_gw_of 385 (by decide +kernel) (by decide +kernel), ab_gw_of 386 (by decide +kernel) (by decide +kernel), mw_X0_pray⟩
theorem mv_X2_42 : ab_mv RX2 42 YX0_weave 2 := ⟨ab_gw_of 388 (by decide +kernel) (by decide +kernel), ab_gw_of 389 (by decide +kernel) (by decide +kernel), ab_gw_of 390 (by decide +kernel) (by decide +kernel), mw_X0_weave⟩
theorem mv_X0_57 : ab_mv RX0 57 YX5_hasRoom 0 := ⟨ab_gw_of 392 (by decide +kernel) (by decide +kernel), ab_gw_of 393 (by decide +kernel) (by decide +kernel), ab_gw_of 394 (by decide +kernel) (by decide +kernel), mw_X5_hasRoom⟩
theorem mv_X0_61 : ab_mv RX0 61 YX5_add 3 := ⟨ab_gw_of 396 (by decide +kernel) (by decide +kernel), ab_gw_of 397 (by decide +kernel) (by decide +kernel), ab_gw_of 398 (by decide +kernel) (by decide +kernel), mw_X5_add⟩
theorem mv_X5_31 : ab_mv RX5 31 YX5_hasRoom 0 := ⟨ab_gw_of 400 (by decide +kernel) (by decide +kernel), ab_gw_of 393 (by decide +kernel) (by decide +kernel), ab_gw_of 394 (by decide +kernel) (by decide +kernel), mw_X5_hasRoom⟩
theorem ms_X8_94 : ab_ms RX8 94 YX2_why 1 := ⟨ab_gw_of 401 (by decide +kernel) (by decide +kernel), ab_gw_of 402 (by decide +kernel) (by decide +kernel), mw_X2_why⟩
theorem ms_X8_98 : ab_ms RX8 98 YX2_parts 1 := ⟨ab_gw_of 404 (by decide +kernel) (by decide +kernel), ab_gw_of 405 (by decide +kernel) (by decide +kernel), mw_X2_parts⟩
theorem mv_L_40 : ab_mv RL 40 YX8_done 0 := ⟨ab_gw_of 407 (by decide +kernel) (by decide +kernel), ab_gw_of 408 (by decide +kernel) (by decide +kernel), ab_gw_of 409 (by decide +kernel) (by decide +kernel), mw_X8_done⟩
theorem mv_L_44 : ab_mv RL 44 YX8_lock 3 := ⟨ab_gw_of 411 (by decide +kernel) (by decide +kernel), ab_gw_of 412 (by decide +kernel) (by decide +kernel), ab_gw_of 413 (by decide +kernel) (by decide +kernel), mw_X8_lock⟩
theorem mv_L_48 : ab_mv RL 48 YX8_power 1 := ⟨ab_gw_of 415 (by decide +kernel) (by decide +kernel), ab_gw_of 416 (by decide +kernel) (by decide +kernel), ab_gw_of 417 (by decide +kernel) (by decide +kernel), mw_X8_power⟩
theorem mv_X8_123 : ab_mv RX8 123 YX5_powerLess 2 := ⟨ab_gw_of 419 (by decide +kernel) (by decide +kernel), ab_gw_of 420 (by decide +kernel) (by decide +kernel), ab_gw_of 421 (by decide +kernel) (by decide +kernel), mw_X5_powerLess⟩
theorem ms_X5_39 : ab_ms RX5 39 YJ9_min_7cf53 2 := ⟨ab_gw_of 423 (by decide +kernel) (by decide +kernel), ab_gw_of 424 (by decide +kernel) (by decide +kernel), mw_J9_min_7cf53⟩
theorem mv_L_52 : ab_mv RL 52 YX8_bears 0 := ⟨ab_gw_of 426 (by decide +kernel) (by decide +kernel), ab_gw_of 427 (by decide +kernel) (by decide +kernel), ab_gw_of 428 (by decide +kernel) (by decide +kernel), mw_X8_bears⟩
theorem mv_X8_127 : ab_mv RX8 127 YX0_bearsLess 1 := ⟨ab_gw_of 430 (by decide +kernel) (by decide +kernel), ab_gw_of 431 (by decide +kernel) (by decide +kernel), ab_gw_of 432 (by decide +kernel) (by decide +kernel), mw_X0_bearsLess⟩
theorem mv_X0_85 : ab_mv RX0 85 YX5_powerLess 2 := ⟨ab_gw_of 434 (by decide +kernel) (by decide +kernel), ab_gw_of 420 (by decide +kernel) (by decide +kernel), ab_gw_of 421 (by decide +kernel) (by decide +kernel), mw_X5_powerLess⟩
theorem ms_X8_229 : ab_ms RX8 229 YJ9_max_7cf53 2 := ⟨ab_gw_of 438 (by decide +kernel) (by decide +kernel), ab_gw_of 439 (by decide +kernel) (by decide +kernel), mw_J9_max_7cf53⟩
theorem mv_L_56 : ab_mv RL 56 YX8_broken 1 := ⟨ab_gw_of 441 (by decide +kernel) (by decide +kernel), ab_gw_of 442 (by decide +kernel) (by decide +kernel), ab_gw_of 443 (by decide +kernel) (by decide +kernel), mw_X8_broken⟩
theorem mv_X8_131 : ab_mv RX8 131 YX0_brokenUnder 1 := ⟨ab_gw_of 446 (by decide +kernel) (by decide +kernel), ab_gw_of 447 (by decide +kernel) (by decide +kernel), ab_gw_of 448 (by decide +kernel) (by decide +kernel), mw_X0_brokenUnder⟩
theorem mv_X0_93 : ab_mv RX0 93 YX0_breaking 2 := ⟨ab_gw_of 450 (by decide +kernel) (by decide +kernel), ab_gw_of 452 (by decide +kernel) (by decide +kernel), ab_gw_of 3 (by decide +kernel) (by decide +kernel), mw_X0_breaking⟩
theorem ms_X0_96 : ab_ms RX0 96 YJ6_bitCount_0f7a4 1 := ⟨ab_gw_of 454 (by decide +kernel) (by decide +kernel), ab_gw_of 455 (by decide +kernel) (by decide +kernel), mw_J6_bitCount_0f7a4⟩
theorem mv_L_60 : ab_mv RL 60 YX8_share 2 := ⟨ab_gw_of 460 (by decide +kernel) (by decide +kernel), ab_gw_of 461 (by decide +kernel) (by decide +kernel), ab_gw_of 462 (by decide +kernel) (by decide +kernel), mw_X8_share⟩
theorem mv_X8_138 : ab_mv RX8 138 YX0_powerOf 1 := ⟨ab_gw_of 466 (by decide +kernel) (by decide +kernel), ab_gw_of 467 (by decide +kernel) (by decide +kernel), ab_gw_of 468 (by decide +kernel) (by decide +kernel), mw_X0_powerOf⟩
theorem mv_X0_105 : ab_mv RX0 105 YX0_inchesOf 1 := ⟨ab_gw_of 470 (by decide +kernel) (by decide +kernel), ab_gw_of 471 (by decide +kernel) (by decide +kernel), ab_gw_of 472 (by decide +kernel) (by decide +kernel), mw_X0_inchesOf⟩
theorem mv_X0_102 : ab_mv RX0 102 YX5_lengthOf 1 := ⟨ab_gw_of 474 (by decide +kernel) (by decide +kernel), ab_gw_of 475 (by decide +kernel) (by decide +kernel), ab_gw_of 476 (by decide +kernel) (by decide +kernel), mw_X5_lengthOf⟩
theorem ms_X8_143 : ab_ms RX8 143 YX8_commonDivisor 2 := ⟨ab_gw_of 479 (by decide +kernel) (by decide +kernel), ab_gw_of 480 (by decide +kernel) (by decide +kernel), mw_X8_commonDivisor⟩
theorem mv_L_65 : ab_mv RL 65 YX8_led 2 := ⟨ab_gw_of 482 (by decide +kernel) (by decide +kernel), ab_gw_of 483 (by decide +kernel) (by decide +kernel), ab_gw_of 484 (by decide +kernel) (by decide +kernel), mw_X8_led⟩
theorem mv_X8_147 : ab_mv RX8 147 YX0_inchesOf 1 := ⟨ab_gw_of 486 (by decide +kernel) (by decide +kernel), ab_gw_of 471 (by decide +kernel) (by decide +kernel), ab_gw_of 472 (by decide +kernel) (by decide +kernel), mw_X0_inchesOf⟩
theorem mv_L_70 : ab_mv RL 70 YX8_load 2 := ⟨ab_gw_of 487 (by decide +kernel) (by decide +kernel), ab_gw_of 488 (by decide +kernel) (by decide +kernel), ab_gw_of 489 (by decide +kernel) (by decide +kernel), mw_X8_load⟩
theorem mv_X8_157 : ab_mv RX8 157 YX3_put 2 := ⟨ab_gw_of 491 (by decide +kernel) (by decide +kernel), ab_gw_of 492 (by decide +kernel) (by decide +kernel), ab_gw_of 493 (by decide +kernel) (by decide +kernel), mw_X3_put⟩
theorem mv_L_74 : ab_mv RL 74 YX8_drop 0 := ⟨ab_gw_of 495 (by decide +kernel) (by decide +kernel), ab_gw_of 496 (by decide +kernel) (by decide +kernel), ab_gw_of 497 (by decide +kernel) (by decide +kernel), mw_X8_drop⟩
theorem mv_X8_163 : ab_mv RX8 163 YX3_clear 0 := ⟨ab_gw_of 499 (by decide +kernel) (by decide +kernel), ab_gw_of 500 (by decide +kernel) (by decide +kernel), ab_gw_of 501 (by decide +kernel) (by decide +kernel), mw_X3_clear⟩
theorem mv_L_78 : ab_mv RL 78 YX8_best 1 := ⟨ab_gw_of 503 (by decide +kernel) (by decide +kernel), ab_gw_of 504 (by decide +kernel) (by decide +kernel), ab_gw_of 505 (by decide +kernel) (by decide +kernel), mw_X8_best⟩
theorem mv_X8_164 : ab_mv RX8 164 YX1_reckon 2 := ⟨ab_gw_of 507 (by decide +kernel) (by decide +kernel), ab_gw_of 508 (by decide +kernel) (by decide +kernel), ab_gw_of 509 (by decide +kernel) (by decide +kernel), mw_X1_reckon⟩
theorem mv_X1_28 : ab_mv RX1 28 YX3_become 1 := ⟨ab_gw_of 511 (by decide +kernel) (by decide +kernel), ab_gw_of 512 (by decide +kernel) (by decide +kernel), ab_gw_of 513 (by decide +kernel) (by decide +kernel), mw_X3_become⟩
theorem wa_X3_22 : Cond.methodLink RX3 22 arraycopyName ∈ ab_gw := ab_gw_of 515 (by decide +kernel) (by decide +kernel)
theorem mv_X1_36 : ab_mv RX1 36 YX0_bearsLess 1 := ⟨ab_gw_of 516 (by decide +kernel) (by decide +kernel), ab_gw_of 431 (by decide +kernel) (by decide +kernel), ab_gw_of 432 (by decide +kernel) (by decide +kernel), mw_X0_bearsLess⟩
theorem ms_X1_42 : ab_ms RX1 42 YJ6_bitCount_0f7a4 1 := ⟨ab_gw_of 517 (by decide +kernel) (by decide +kernel), ab_gw_of 455 (by decide +kernel) (by decide +kernel), mw_J6_bitCount_0f7a4⟩
theorem mv_X1_47 : ab_mv RX1 47 YX1_mostFrom 2 := ⟨ab_gw_of 518 (by decide +kernel) (by decide +kernel), ab_gw_of 520 (by decide +kernel) (by decide +kernel), ab_gw_of 4 (by decide +kernel) (by decide +kernel), mw_X1_mostFrom⟩
theorem mv_X1_54 : ab_mv RX1 54 YX1_worthBy 3 := ⟨ab_gw_of 522 (by decide +kernel) (by decide +kernel), ab_gw_of 524 (by decide +kernel) (by decide +kernel), ab_gw_of 5 (by decide +kernel) (by decide +kernel), mw_X1_worthBy⟩
theorem mv_X1_66 : ab_mv RX1 66 YX1_crosses 2 := ⟨ab_gw_of 526 (by decide +kernel) (by decide +kernel), ab_gw_of 528 (by decide +kernel) (by decide +kernel), ab_gw_of 6 (by decide +kernel) (by decide +kernel), mw_X1_crosses⟩
theorem ms_X1_58 : ab_ms RX1 58 YJ9_max_7cf53 2 := ⟨ab_gw_of 530 (by decide +kernel) (by decide +kernel), ab_gw_of 439 (by decide +kernel) (by decide +kernel), mw_J9_max_7cf53⟩
theorem mv_X1_51 : ab_mv RX1 51 YX1_findOrder 0 := ⟨ab_gw_of 531 (by decide +kernel) (by decide +kernel), ab_gw_of 533 (by decide +kernel) (by decide +kernel), ab_gw_of 7 (by decide +kernel) (by decide +kernel), mw_X1_findOrder⟩
theorem mv_X1_73 : ab_mv RX1 73 YX1_firstBest 2 := ⟨ab_gw_of 535 (by decide +kernel) (by decide +kernel), ab_gw_of 537 (by decide +kernel) (by decide +kernel), ab_gw_of 8 (by decide +kernel) (by decide +kernel), mw_X1_firstBest⟩
theorem mv_X8_168 : ab_mv RX8 168 YX1_most 0 := ⟨ab_gw_of 539 (by decide +kernel) (by decide +kernel), ab_gw_of 540 (by decide +kernel) (by decide +kernel), ab_gw_of 541 (by decide +kernel) (by decide +kernel), mw_X1_most⟩
theorem mv_X8_171 : ab_mv RX8 171 YX1_turn 1 := ⟨ab_gw_of 543 (by decide +kernel) (by decide +kernel), ab_gw_of 544 (by decide +kernel) (by decide +kernel), ab_gw_of 545 (by decide +kernel) (by decide +kernel), mw_X1_turn⟩
theorem mv_L_82 : ab_mv RL 82 YX8_renewed 3 := ⟨ab_gw_of 547 (by decide +kernel) (by decide +kernel), ab_gw_of 548 (by decide +kernel) (by decide +kernel), ab_gw_of 549 (by decide +kernel) (by decide +kernel), mw_X8_renewed⟩
theorem mv_X8_174 : ab_mv RX8 174 YX4_fewestInches 3 := ⟨ab_gw_of 551 (by decide +kernel) (by decide +kernel), ab_gw_of 552 (by decide +kernel) (by decide +kernel), ab_gw_of 553 (by decide +kernel) (by decide +kernel), mw_X4_fewestInches⟩
theorem mv_X4_46 : ab_mv RX4 46 YX0_become 1 := ⟨ab_gw_of 555 (by decide +kernel) (by decide +kernel), ab_gw_of 349 (by decide +kernel) (by decide +kernel), ab_gw_of 350 (by decide +kernel) (by decide +kernel), mw_X0_become⟩
theorem mv_X4_50 : ab_mv RX4 50 YX4_sortByBasket 1 := ⟨ab_gw_of 556 (by decide +kernel) (by decide +kernel), ab_gw_of 558 (by decide +kernel) (by decide +kernel), ab_gw_of 9 (by decide +kernel) (by decide +kernel), mw_X4_sortByBasket⟩
theorem mv_X4_57 : ab_mv RX4 57 YX0_powerInBasket 1 := ⟨ab_gw_of 560 (by decide +kernel) (by decide +kernel), ab_gw_of 561 (by decide +kernel) (by decide +kernel), ab_gw_of 562 (by decide +kernel) (by decide +kernel), mw_X0_powerInBasket⟩
theorem mv_X4_53 : ab_mv RX4 53 YX4_tryFrom 2 := ⟨ab_gw_of 564 (by decide +kernel) (by decide +kernel), ab_gw_of 566 (by decide +kernel) (by decide +kernel), ab_gw_of 10 (by decide +kernel) (by decide +kernel), mw_X4_tryFrom⟩
theorem wa_X4_61 : Cond.methodLink RX4 61 arraycopyName ∈ ab_gw := ab_gw_of 568 (by decide +kernel) (by decide +kernel)
theorem mv_X4_67 : ab_mv RX4 67 YX4_isHopeless 1 := ⟨ab_gw_of 569 (by decide +kernel) (by decide +kernel), ab_gw_of 571 (by decide +kernel) (by decide +kernel), ab_gw_of 11 (by decide +kernel) (by decide +kernel), mw_X4_isHopeless⟩
theorem mv_X4_118 : ab_mv RX4 118 YX5_powerLess 2 := ⟨ab_gw_of 573 (by decide +kernel) (by decide +kernel), ab_gw_of 420 (by decide +kernel) (by decide +kernel), ab_gw_of 421 (by decide +kernel) (by decide +kernel), mw_X5_powerLess⟩
theorem mv_X4_71 : ab_mv RX4 71 YX4_foresee 1 := ⟨ab_gw_of 574 (by decide +kernel) (by decide +kernel), ab_gw_of 576 (by decide +kernel) (by decide +kernel), ab_gw_of 12 (by decide +kernel) (by decide +kernel), mw_X4_foresee⟩
theorem mv_X4_122 : ab_mv RX4 122 YX5_length 0 := ⟨ab_gw_of 578 (by decide +kernel) (by decide +kernel), ab_gw_of 579 (by decide +kernel) (by decide +kernel), ab_gw_of 580 (by decide +kernel) (by decide +kernel), mw_X5_length⟩
theorem ms_X4_97 : ab_ms RX4 97 YJ9_max_7cf53 2 := ⟨ab_gw_of 582 (by decide +kernel) (by decide +kernel), ab_gw_of 439 (by decide +kernel) (by decide +kernel), mw_J9_max_7cf53⟩
theorem mv_X4_75 : ab_mv RX4 75 YX4_tryStep 4 := ⟨ab_gw_of 583 (by decide +kernel) (by decide +kernel), ab_gw_of 585 (by decide +kernel) (by decide +kernel), ab_gw_of 13 (by decide +kernel) (by decide +kernel), mw_X4_tryStep⟩
theorem mv_X4_82 : ab_mv RX4 82 YX4_holdsBehind 3 := ⟨ab_gw_of 587 (by decide +kernel) (by decide +kernel), ab_gw_of 589 (by decide +kernel) (by decide +kernel), ab_gw_of 14 (by decide +kernel) (by decide +kernel), mw_X4_holdsBehind⟩
theorem mv_X4_109 : ab_mv RX4 109 YX5_hasRoom 0 := ⟨ab_gw_of 592 (by decide +kernel) (by decide +kernel), ab_gw_of 393 (by decide +kernel) (by decide +kernel), ab_gw_of 394 (by decide +kernel) (by decide +kernel), mw_X5_hasRoom⟩
theorem mv_X4_86 : ab_mv RX4 86 YX0_weave 2 := ⟨ab_gw_of 593 (by decide +kernel) (by decide +kernel), ab_gw_of 389 (by decide +kernel) (by decide +kernel), ab_gw_of 390 (by decide +kernel) (by decide +kernel), mw_X0_weave⟩
theorem mv_X4_90 : ab_mv RX4 90 YX0_passWeek 0 := ⟨ab_gw_of 594 (by decide +kernel) (by decide +kernel), ab_gw_of 369 (by decide +kernel) (by decide +kernel), ab_gw_of 370 (by decide +kernel) (by decide +kernel), mw_X0_passWeek⟩
theorem mv_X8_178 : ab_mv RX8 178 YX4_wovenAhead 1 := ⟨ab_gw_of 595 (by decide +kernel) (by decide +kernel), ab_gw_of 596 (by decide +kernel) (by decide +kernel), ab_gw_of 597 (by decide +kernel) (by decide +kernel), mw_X4_wovenAhead⟩
theorem mv_L_86 : ab_mv RL 86 YX8_soon 4 := ⟨ab_gw_of 599 (by decide +kernel) (by decide +kernel), ab_gw_of 600 (by decide +kernel) (by decide +kernel), ab_gw_of 601 (by decide +kernel) (by decide +kernel), mw_X8_soon⟩
theorem mv_X8_181 : ab_mv RX8 181 YX0_giveAll 3 := ⟨ab_gw_of 603 (by decide +kernel) (by decide +kernel), ab_gw_of 604 (by decide +kernel) (by decide +kernel), ab_gw_of 605 (by decide +kernel) (by decide +kernel), mw_X0_giveAll⟩
theorem ms_X0_69 : ab_ms RX0 69 YJ9_min_7cf53 2 := ⟨ab_gw_of 607 (by decide +kernel) (by decide +kernel), ab_gw_of 424 (by decide +kernel) (by decide +kernel), mw_J9_min_7cf53⟩
theorem mv_X0_75 : ab_mv RX0 75 YX0_weave 2 := ⟨ab_gw_of 608 (by decide +kernel) (by decide +kernel), ab_gw_of 389 (by decide +kernel) (by decide +kernel), ab_gw_of 390 (by decide +kernel) (by decide +kernel), mw_X0_weave⟩
theorem mv_X8_185 : ab_mv RX8 185 YX0_passWeek 0 := ⟨ab_gw_of 609 (by decide +kernel) (by decide +kernel), ab_gw_of 369 (by decide +kernel) (by decide +kernel), ab_gw_of 370 (by decide +kernel) (by decide +kernel), mw_X0_passWeek⟩
theorem mv_L_91 : ab_mv RL 91 YX8_weighed 2 := ⟨ab_gw_of 610 (by decide +kernel) (by decide +kernel), ab_gw_of 611 (by decide +kernel) (by decide +kernel), ab_gw_of 612 (by decide +kernel) (by decide +kernel), mw_X8_weighed⟩
theorem mv_L_95 : ab_mv RL 95 YX8_forget 0 := ⟨ab_gw_of 614 (by decide +kernel) (by decide +kernel), ab_gw_of 615 (by decide +kernel) (by decide +kernel), ab_gw_of 616 (by decide +kernel) (by decide +kernel), mw_X8_forget⟩
theorem mv_L_99 : ab_mv RL 99 YX8_canBe 1 := ⟨ab_gw_of 618 (by decide +kernel) (by decide +kernel), ab_gw_of 619 (by decide +kernel) (by decide +kernel), ab_gw_of 620 (by decide +kernel) (by decide +kernel), mw_X8_canBe⟩
theorem mv_X8_191 : ab_mv RX8 191 YX7_find 2 := ⟨ab_gw_of 622 (by decide +kernel) (by decide +kernel), ab_gw_of 623 (by decide +kernel) (by decide +kernel), ab_gw_of 624 (by decide +kernel) (by decide +kernel), mw_X7_find⟩
theorem ms_X7_21 : ab_ms RX7 21 YJ6_numberOfTrailingZeros_0f7a4 1 := ⟨ab_gw_of 626 (by decide +kernel) (by decide +kernel), ab_gw_of 627 (by decide +kernel) (by decide +kernel), mw_J6_numberOfTrailingZeros_0f7a4⟩
theorem mv_X7_31 : ab_mv RX7 31 YX7_fits 2 := ⟨ab_gw_of 630 (by decide +kernel) (by decide +kernel), ab_gw_of 632 (by decide +kernel) (by decide +kernel), ab_gw_of 15 (by decide +kernel) (by decide +kernel), mw_X7_fits⟩
theorem mv_L_103 : ab_mv RL 103 YX8_sure 1 := ⟨ab_gw_of 634 (by decide +kernel) (by decide +kernel), ab_gw_of 635 (by decide +kernel) (by decide +kernel), ab_gw_of 636 (by decide +kernel) (by decide +kernel), mw_X8_sure⟩
theorem mv_X8_199 : ab_mv RX8 199 YX7_inEach 0 := ⟨ab_gw_of 638 (by decide +kernel) (by decide +kernel), ab_gw_of 639 (by decide +kernel) (by decide +kernel), ab_gw_of 640 (by decide +kernel) (by decide +kernel), mw_X7_inEach⟩
theorem mv_X8_202 : ab_mv RX8 202 YX7_inNone 0 := ⟨ab_gw_of 642 (by decide +kernel) (by decide +kernel), ab_gw_of 643 (by decide +kernel) (by decide +kernel), ab_gw_of 644 (by decide +kernel) (by decide +kernel), mw_X7_inNone⟩
theorem mv_X8_205 : ab_mv RX8 205 YX7_bestToAsk 0 := ⟨ab_gw_of 646 (by decide +kernel) (by decide +kernel), ab_gw_of 647 (by decide +kernel) (by decide +kernel), ab_gw_of 648 (by decide +kernel) (by decide +kernel), mw_X7_bestToAsk⟩
theorem mv_X7_44 : ab_mv RX7 44 YX7_mostAlike 1 := ⟨ab_gw_of 650 (by decide +kernel) (by decide +kernel), ab_gw_of 652 (by decide +kernel) (by decide +kernel), ab_gw_of 16 (by decide +kernel) (by decide +kernel), mw_X7_mostAlike⟩
theorem ms_X7_47 : ab_ms RX7 47 YJ9_max_7cf53 2 := ⟨ab_gw_of 654 (by decide +kernel) (by decide +kernel), ab_gw_of 439 (by decide +kernel) (by decide +kernel), mw_J9_max_7cf53⟩
theorem mv_L_107 : ab_mv RL 107 YX8_year 3 := ⟨ab_gw_of 655 (by decide +kernel) (by decide +kernel), ab_gw_of 656 (by decide +kernel) (by decide +kernel), ab_gw_of 657 (by decide +kernel) (by decide +kernel), mw_X8_year⟩
theorem mv_X8_208 : ab_mv RX8 208 YX0_drawDeeds 1 := ⟨ab_gw_of 659 (by decide +kernel) (by decide +kernel), ab_gw_of 660 (by decide +kernel) (by decide +kernel), ab_gw_of 661 (by decide +kernel) (by decide +kernel), mw_X0_drawDeeds⟩
theorem mv_X0_79 : ab_mv RX0 79 YX0_sin 2 := ⟨ab_gw_of 664 (by decide +kernel) (by decide +kernel), ab_gw_of 381 (by decide +kernel) (by decide +kernel), ab_gw_of 382 (by decide +kernel) (by decide +kernel), mw_X0_sin⟩
theorem mv_X0_82 : ab_mv RX0 82 YX0_pray 2 := ⟨ab_gw_of 665 (by decide +kernel) (by decide +kernel), ab_gw_of 385 (by decide +kernel) (by decide +kernel), ab_gw_of 386 (by decide +kernel) (by decide +kernel), mw_X0_pray⟩
theorem ms_X8_211 : ab_ms RX8 211 YJ9_min_7cf53 2 := ⟨ab_gw_of 666 (by decide +kernel) (by decide +kernel), ab_gw_of 424 (by decide +kernel) (by decide +kernel), mw_J9_min_7cf53⟩
theorem mv_L_111 : ab_mv RL 111 YX8_image 1 := ⟨ab_gw_of 667 (by decide +kernel) (by decide +kernel), ab_gw_of 668 (by decide +kernel) (by decide +kernel), ab_gw_of 669 (by decide +kernel) (by decide +kernel), mw_X8_image⟩
theorem mv_X8_216 : ab_mv RX8 216 YX6_become 1 := ⟨ab_gw_of 671 (by decide +kernel) (by decide +kernel), ab_gw_of 672 (by decide +kernel) (by decide +kernel), ab_gw_of 673 (by decide +kernel) (by decide +kernel), mw_X6_become⟩
theorem mv_X6_26 : ab_mv RX6 26 YX0_become 1 := ⟨ab_gw_of 675 (by decide +kernel) (by decide +kernel), ab_gw_of 349 (by decide +kernel) (by decide +kernel), ab_gw_of 350 (by decide +kernel) (by decide +kernel), mw_X0_become⟩
theorem mv_X6_30 : ab_mv RX6 30 YX3_become 1 := ⟨ab_gw_of 676 (by decide +kernel) (by decide +kernel), ab_gw_of 512 (by decide +kernel) (by decide +kernel), ab_gw_of 513 (by decide +kernel) (by decide +kernel), mw_X3_become⟩
theorem mv_L_115 : ab_mv RL 115 YX8_restore 1 := ⟨ab_gw_of 677 (by decide +kernel) (by decide +kernel), ab_gw_of 678 (by decide +kernel) (by decide +kernel), ab_gw_of 679 (by decide +kernel) (by decide +kernel), mw_X8_restore⟩
theorem mv_L_119 : ab_mv RL 119 YX8_told 1 := ⟨ab_gw_of 681 (by decide +kernel) (by decide +kernel), ab_gw_of 682 (by decide +kernel) (by decide +kernel), ab_gw_of 683 (by decide +kernel) (by decide +kernel), mw_X8_told⟩
theorem mv_X8_219 : ab_mv RX8 219 YX8_toldOfOne 1 := ⟨ab_gw_of 685 (by decide +kernel) (by decide +kernel), ab_gw_of 687 (by decide +kernel) (by decide +kernel), ab_gw_of 17 (by decide +kernel) (by decide +kernel), mw_X8_toldOfOne⟩
theorem mi_L_12 : ab_mi RL 12 YX9_init 0 := ⟨ab_gw_of 691 (by decide +kernel) (by decide +kernel), ab_gw_of 692 (by decide +kernel) (by decide +kernel), rfl, rfl, mw_X9_init⟩
theorem wo_X9_1 : Cond.methodLink RX9 1 objectInit ∈ ab_gw := ab_gw_of 694 (by decide +kernel) (by decide +kernel)
theorem mv_L_17 : ab_mv RL 17 YX9_monk 3 := ⟨ab_gw_of 807 (by decide +kernel) (by decide +kernel), ab_gw_of 808 (by decide +kernel) (by decide +kernel), ab_gw_of 809 (by decide +kernel) (by decide +kernel), mw_X9_monk⟩
theorem ms_X9_118 : ab_ms RX9 118 YX9_isMonk 1 := ⟨ab_gw_of 811 (by decide +kernel) (by decide +kernel), ab_gw_of 812 (by decide +kernel) (by decide +kernel), mw_X9_isMonk⟩
theorem ms_X9_95 : ab_ms RX9 95 YX9_in 3 := ⟨ab_gw_of 815 (by decide +kernel) (by decide +kernel), ab_gw_of 816 (by decide +kernel) (by decide +kernel), mw_X9_in⟩
theorem mv_L_22 : ab_mv RL 22 YX9_wear 1 := ⟨ab_gw_of 820 (by decide +kernel) (by decide +kernel), ab_gw_of 821 (by decide +kernel) (by decide +kernel), ab_gw_of 822 (by decide +kernel) (by decide +kernel), mw_X9_wear⟩
theorem mv_L_26 : ab_mv RL 26 YX9_say 1 := ⟨ab_gw_of 824 (by decide +kernel) (by decide +kernel), ab_gw_of 825 (by decide +kernel) (by decide +kernel), ab_gw_of 826 (by decide +kernel) (by decide +kernel), mw_X9_say⟩
theorem mv_L_31 : ab_mv RL 31 YX9_wipe 0 := ⟨ab_gw_of 830 (by decide +kernel) (by decide +kernel), ab_gw_of 831 (by decide +kernel) (by decide +kernel), ab_gw_of 832 (by decide +kernel) (by decide +kernel), mw_X9_wipe⟩
theorem mv_L_35 : ab_mv RL 35 YX9_fault 0 := ⟨ab_gw_of 834 (by decide +kernel) (by decide +kernel), ab_gw_of 835 (by decide +kernel) (by decide +kernel), ab_gw_of 836 (by decide +kernel) (by decide +kernel), mw_X9_fault⟩
theorem mv_L_39 : ab_mv RL 39 YX9_judge 1 := ⟨ab_gw_of 844 (by decide +kernel) (by decide +kernel), ab_gw_of 845 (by decide +kernel) (by decide +kernel), ab_gw_of 846 (by decide +kernel) (by decide +kernel), mw_X9_judge⟩
theorem mv_X9_171 : ab_mv RX9 171 YX9_fault 0 := ⟨ab_gw_of 848 (by decide +kernel) (by decide +kernel), ab_gw_of 835 (by decide +kernel) (by decide +kernel), ab_gw_of 836 (by decide +kernel) (by decide +kernel), mw_X9_fault⟩
theorem mv_X9_175 : ab_mv RX9 175 YX9_goText 0 := ⟨ab_gw_of 849 (by decide +kernel) (by decide +kernel), ab_gw_of 851 (by decide +kernel) (by decide +kernel), ab_gw_of 18 (by decide +kernel) (by decide +kernel), mw_X9_goText⟩
theorem mv_X9_159 : ab_mv RX9 159 YX9_layNow 0 := ⟨ab_gw_of 853 (by decide +kernel) (by decide +kernel), ab_gw_of 855 (by decide +kernel) (by decide +kernel), ab_gw_of 19 (by decide +kernel) (by decide +kernel), mw_X9_layNow⟩
theorem mv_X9_168 : ab_mv RX9 168 YX9_does 1 := ⟨ab_gw_of 857 (by decide +kernel) (by decide +kernel), ab_gw_of 859 (by decide +kernel) (by decide +kernel), ab_gw_of 20 (by decide +kernel) (by decide +kernel), mw_X9_does⟩
theorem mv_X9_145 : ab_mv RX9 145 YX9_goWeek 0 := ⟨ab_gw_of 861 (by decide +kernel) (by decide +kernel), ab_gw_of 863 (by decide +kernel) (by decide +kernel), ab_gw_of 21 (by decide +kernel) (by decide +kernel), mw_X9_goWeek⟩
theorem mv_X9_111 : ab_mv RX9 111 YX9_lose 1 := ⟨ab_gw_of 865 (by decide +kernel) (by decide +kernel), ab_gw_of 867 (by decide +kernel) (by decide +kernel), ab_gw_of 22 (by decide +kernel) (by decide +kernel), mw_X9_lose⟩
theorem mv_X9_107 : ab_mv RX9 107 YX9_dropFirst 1 := ⟨ab_gw_of 869 (by decide +kernel) (by decide +kernel), ab_gw_of 871 (by decide +kernel) (by decide +kernel), ab_gw_of 23 (by decide +kernel) (by decide +kernel), mw_X9_dropFirst⟩
theorem mv_X9_148 : ab_mv RX9 148 YX9_whyNoMore 2 := ⟨ab_gw_of 873 (by decide +kernel) (by decide +kernel), ab_gw_of 875 (by decide +kernel) (by decide +kernel), ab_gw_of 24 (by decide +kernel) (by decide +kernel), mw_X9_whyNoMore⟩
theorem mv_X9_152 : ab_mv RX9 152 YX9_whyNoLock 2 := ⟨ab_gw_of 877 (by decide +kernel) (by decide +kernel), ab_gw_of 879 (by decide +kernel) (by decide +kernel), ab_gw_of 25 (by decide +kernel) (by decide +kernel), mw_X9_whyNoLock⟩
theorem mv_X9_155 : ab_mv RX9 155 YX9_weave 2 := ⟨ab_gw_of 881 (by decide +kernel) (by decide +kernel), ab_gw_of 883 (by decide +kernel) (by decide +kernel), ab_gw_of 26 (by decide +kernel) (by decide +kernel), mw_X9_weave⟩
theorem mv_L_43 : ab_mv RL 43 YX9_done 0 := ⟨ab_gw_of 885 (by decide +kernel) (by decide +kernel), ab_gw_of 886 (by decide +kernel) (by decide +kernel), ab_gw_of 887 (by decide +kernel) (by decide +kernel), mw_X9_done⟩
theorem mv_X9_179 : ab_mv RX9 179 YX9_keepTried 0 := ⟨ab_gw_of 889 (by decide +kernel) (by decide +kernel), ab_gw_of 891 (by decide +kernel) (by decide +kernel), ab_gw_of 27 (by decide +kernel) (by decide +kernel), mw_X9_keepTried⟩
theorem mv_L_47 : ab_mv RL 47 YX9_lock 3 := ⟨ab_gw_of 893 (by decide +kernel) (by decide +kernel), ab_gw_of 894 (by decide +kernel) (by decide +kernel), ab_gw_of 895 (by decide +kernel) (by decide +kernel), mw_X9_lock⟩
theorem ms_X9_182 : ab_ms RX9 182 YX9_isRope 1 := ⟨ab_gw_of 897 (by decide +kernel) (by decide +kernel), ab_gw_of 898 (by decide +kernel) (by decide +kernel), mw_X9_isRope⟩
theorem mv_L_51 : ab_mv RL 51 YX9_power 1 := ⟨ab_gw_of 901 (by decide +kernel) (by decide +kernel), ab_gw_of 902 (by decide +kernel) (by decide +kernel), ab_gw_of 903 (by decide +kernel) (by decide +kernel), mw_X9_power⟩
theorem mv_X9_114 : ab_mv RX9 114 YX9_powerOf 1 := ⟨ab_gw_of 905 (by decide +kernel) (by decide +kernel), ab_gw_of 907 (by decide +kernel) (by decide +kernel), ab_gw_of 28 (by decide +kernel) (by decide +kernel), mw_X9_powerOf⟩
theorem mv_L_55 : ab_mv RL 55 YX9_bears 0 := ⟨ab_gw_of 909 (by decide +kernel) (by decide +kernel), ab_gw_of 910 (by decide +kernel) (by decide +kernel), ab_gw_of 911 (by decide +kernel) (by decide +kernel), mw_X9_bears⟩
theorem mv_X9_185 : ab_mv RX9 185 YX9_borne 0 := ⟨ab_gw_of 913 (by decide +kernel) (by decide +kernel), ab_gw_of 915 (by decide +kernel) (by decide +kernel), ab_gw_of 29 (by decide +kernel) (by decide +kernel), mw_X9_borne⟩
theorem mv_L_59 : ab_mv RL 59 YX9_broken 1 := ⟨ab_gw_of 917 (by decide +kernel) (by decide +kernel), ab_gw_of 918 (by decide +kernel) (by decide +kernel), ab_gw_of 919 (by decide +kernel) (by decide +kernel), mw_X9_broken⟩
theorem ms_X9_190 : ab_ms RX9 190 YX9_ones 1 := ⟨ab_gw_of 922 (by decide +kernel) (by decide +kernel), ab_gw_of 923 (by decide +kernel) (by decide +kernel), mw_X9_ones⟩
theorem mv_L_64 : ab_mv RL 64 YX9_share 2 := ⟨ab_gw_of 925 (by decide +kernel) (by decide +kernel), ab_gw_of 926 (by decide +kernel) (by decide +kernel), ab_gw_of 927 (by decide +kernel) (by decide +kernel), mw_X9_share⟩
theorem mv_X9_197 : ab_mv RX9 197 YX9_inchesOf 2 := ⟨ab_gw_of 931 (by decide +kernel) (by decide +kernel), ab_gw_of 933 (by decide +kernel) (by decide +kernel), ab_gw_of 30 (by decide +kernel) (by decide +kernel), mw_X9_inchesOf⟩
theorem mv_L_69 : ab_mv RL 69 YX9_led 2 := ⟨ab_gw_of 936 (by decide +kernel) (by decide +kernel), ab_gw_of 937 (by decide +kernel) (by decide +kernel), ab_gw_of 938 (by decide +kernel) (by decide +kernel), mw_X9_led⟩
theorem mv_L_73 : ab_mv RL 73 YX9_load 2 := ⟨ab_gw_of 940 (by decide +kernel) (by decide +kernel), ab_gw_of 941 (by decide +kernel) (by decide +kernel), ab_gw_of 942 (by decide +kernel) (by decide +kernel), mw_X9_load⟩
theorem mv_L_77 : ab_mv RL 77 YX9_drop 0 := ⟨ab_gw_of 946 (by decide +kernel) (by decide +kernel), ab_gw_of 947 (by decide +kernel) (by decide +kernel), ab_gw_of 948 (by decide +kernel) (by decide +kernel), mw_X9_drop⟩
theorem mv_L_81 : ab_mv RL 81 YX9_best 1 := ⟨ab_gw_of 950 (by decide +kernel) (by decide +kernel), ab_gw_of 951 (by decide +kernel) (by decide +kernel), ab_gw_of 952 (by decide +kernel) (by decide +kernel), mw_X9_best⟩
theorem mv_X9_209 : ab_mv RX9 209 YX9_layOrder 1 := ⟨ab_gw_of 954 (by decide +kernel) (by decide +kernel), ab_gw_of 956 (by decide +kernel) (by decide +kernel), ab_gw_of 31 (by decide +kernel) (by decide +kernel), mw_X9_layOrder⟩
theorem mv_X9_212 : ab_mv RX9 212 YX9_worthOfOrder 0 := ⟨ab_gw_of 958 (by decide +kernel) (by decide +kernel), ab_gw_of 960 (by decide +kernel) (by decide +kernel), ab_gw_of 32 (by decide +kernel) (by decide +kernel), mw_X9_worthOfOrder⟩
theorem mv_L_85 : ab_mv RL 85 YX9_renewed 3 := ⟨ab_gw_of 962 (by decide +kernel) (by decide +kernel), ab_gw_of 963 (by decide +kernel) (by decide +kernel), ab_gw_of 964 (by decide +kernel) (by decide +kernel), mw_X9_renewed⟩
theorem mv_X9_222 : ab_mv RX9 222 YX9_badWeek 3 := ⟨ab_gw_of 968 (by decide +kernel) (by decide +kernel), ab_gw_of 970 (by decide +kernel) (by decide +kernel), ab_gw_of 33 (by decide +kernel) (by decide +kernel), mw_X9_badWeek⟩
theorem mv_L_90 : ab_mv RL 90 YX9_soon 4 := ⟨ab_gw_of 972 (by decide +kernel) (by decide +kernel), ab_gw_of 973 (by decide +kernel) (by decide +kernel), ab_gw_of 974 (by decide +kernel) (by decide +kernel), mw_X9_soon⟩
theorem mv_X9_228 : ab_mv RX9 228 YX9_sinAll 3 := ⟨ab_gw_of 977 (by decide +kernel) (by decide +kernel), ab_gw_of 979 (by decide +kernel) (by decide +kernel), ab_gw_of 34 (by decide +kernel) (by decide +kernel), mw_X9_sinAll⟩
theorem mv_L_94 : ab_mv RL 94 YX9_weighed 2 := ⟨ab_gw_of 981 (by decide +kernel) (by decide +kernel), ab_gw_of 982 (by decide +kernel) (by decide +kernel), ab_gw_of 983 (by decide +kernel) (by decide +kernel), mw_X9_weighed⟩
theorem mv_L_98 : ab_mv RL 98 YX9_forget 0 := ⟨ab_gw_of 986 (by decide +kernel) (by decide +kernel), ab_gw_of 987 (by decide +kernel) (by decide +kernel), ab_gw_of 988 (by decide +kernel) (by decide +kernel), mw_X9_forget⟩
theorem mv_L_102 : ab_mv RL 102 YX9_canBe 1 := ⟨ab_gw_of 990 (by decide +kernel) (by decide +kernel), ab_gw_of 991 (by decide +kernel) (by decide +kernel), ab_gw_of 992 (by decide +kernel) (by decide +kernel), mw_X9_canBe⟩
theorem mv_X9_240 : ab_mv RX9 240 YX9_fits 1 := ⟨ab_gw_of 994 (by decide +kernel) (by decide +kernel), ab_gw_of 996 (by decide +kernel) (by decide +kernel), ab_gw_of 35 (by decide +kernel) (by decide +kernel), mw_X9_fits⟩
theorem mv_X9_237 : ab_mv RX9 237 YX9_weightOf 2 := ⟨ab_gw_of 998 (by decide +kernel) (by decide +kernel), ab_gw_of 1000 (by decide +kernel) (by decide +kernel), ab_gw_of 36 (by decide +kernel) (by decide +kernel), mw_X9_weightOf⟩
theorem mv_L_106 : ab_mv RL 106 YX9_sure 1 := ⟨ab_gw_of 1002 (by decide +kernel) (by decide +kernel), ab_gw_of 1003 (by decide +kernel) (by decide +kernel), ab_gw_of 1004 (by decide +kernel) (by decide +kernel), mw_X9_sure⟩
theorem mv_X9_248 : ab_mv RX9 248 YX9_ask 0 := ⟨ab_gw_of 1007 (by decide +kernel) (by decide +kernel), ab_gw_of 1009 (by decide +kernel) (by decide +kernel), ab_gw_of 37 (by decide +kernel) (by decide +kernel), mw_X9_ask⟩
theorem mv_X9_243 : ab_mv RX9 243 YX9_alikeBy 1 := ⟨ab_gw_of 1011 (by decide +kernel) (by decide +kernel), ab_gw_of 1013 (by decide +kernel) (by decide +kernel), ab_gw_of 38 (by decide +kernel) (by decide +kernel), mw_X9_alikeBy⟩
theorem mv_L_110 : ab_mv RL 110 YX9_year 3 := ⟨ab_gw_of 1015 (by decide +kernel) (by decide +kernel), ab_gw_of 1016 (by decide +kernel) (by decide +kernel), ab_gw_of 1017 (by decide +kernel) (by decide +kernel), mw_X9_year⟩
theorem mv_X9_259 : ab_mv RX9 259 YX9_doesBy 2 := ⟨ab_gw_of 1023 (by decide +kernel) (by decide +kernel), ab_gw_of 1025 (by decide +kernel) (by decide +kernel), ab_gw_of 39 (by decide +kernel) (by decide +kernel), mw_X9_doesBy⟩
theorem mv_L_114 : ab_mv RL 114 YX9_image 1 := ⟨ab_gw_of 1027 (by decide +kernel) (by decide +kernel), ab_gw_of 1028 (by decide +kernel) (by decide +kernel), ab_gw_of 1029 (by decide +kernel) (by decide +kernel), mw_X9_image⟩
theorem mv_X9_272 : ab_mv RX9 272 YX9_passAll 0 := ⟨ab_gw_of 1031 (by decide +kernel) (by decide +kernel), ab_gw_of 1033 (by decide +kernel) (by decide +kernel), ab_gw_of 40 (by decide +kernel) (by decide +kernel), mw_X9_passAll⟩
theorem mv_X9_269 : ab_mv RX9 269 YX9_pass 1 := ⟨ab_gw_of 1035 (by decide +kernel) (by decide +kernel), ab_gw_of 1037 (by decide +kernel) (by decide +kernel), ab_gw_of 41 (by decide +kernel) (by decide +kernel), mw_X9_pass⟩
theorem mv_L_118 : ab_mv RL 118 YX9_restore 1 := ⟨ab_gw_of 1039 (by decide +kernel) (by decide +kernel), ab_gw_of 1040 (by decide +kernel) (by decide +kernel), ab_gw_of 1041 (by decide +kernel) (by decide +kernel), mw_X9_restore⟩
theorem mv_L_122 : ab_mv RL 122 YX9_told 1 := ⟨ab_gw_of 1043 (by decide +kernel) (by decide +kernel), ab_gw_of 1044 (by decide +kernel) (by decide +kernel), ab_gw_of 1045 (by decide +kernel) (by decide +kernel), mw_X9_told⟩
theorem mn_X2_23 : ab_msn RX2 23 YX8_isIn 3 RX8 := ⟨ab_nest0, ab_gw_of 306 (by decide +kernel) (by decide +kernel), mw_X8_isIn⟩
theorem mnw_X2_23 : Cond.methodLinkNest RX2 23 yX8_isIn RX8 ∈ lw_tbl := List.mem_of_getElem? (i := 339) (by decide +kernel)
theorem mn_X0_89 : ab_msn RX0 89 YX8_greatestLoad 1 RX8 := ⟨ab_nest1, ab_gw_of 436 (by decide +kernel) (by decide +kernel), mw_X8_greatestLoad⟩
theorem mnw_X0_89 : Cond.methodLinkNest RX0 89 yX8_greatestLoad RX8 ∈ lw_tbl := List.mem_of_getElem? (i := 435) (by decide +kernel)
theorem mn_X4_93 : ab_msn RX4 93 YX8_greatestLoad 1 RX8 := ⟨ab_nest2, ab_gw_of 436 (by decide +kernel) (by decide +kernel), mw_X8_greatestLoad⟩
theorem mnw_X4_93 : Cond.methodLinkNest RX4 93 yX8_greatestLoad RX8 ∈ lw_tbl := List.mem_of_getElem? (i := 591) (by decide +kernel)
theorem wl_L_7 : Cond.classLink RL 7 RX8 ∈ ab_gw := ab_gw_of 57 (by decide +kernel) (by decide +kernel)
theorem wl_X8_7 : Cond.classLink RX8 7 RX2 ∈ ab_gw := ab_gw_of 65 (by decide +kernel) (by decide +kernel)
theorem wl_X8_16 : Cond.classLink RX8 16 RX6 ∈ ab_gw := ab_gw_of 80 (by decide +kernel) (by decide +kernel)
theorem wl_X6_7 : Cond.classLink RX6 7 RX0 ∈ ab_gw := ab_gw_of 86 (by decide +kernel) (by decide +kernel)
theorem wl_X0_24 : Cond.classLink RX0 24 RX5 ∈ ab_gw := ab_gw_of 92 (by decide +kernel) (by decide +kernel)
theorem wl_X6_16 : Cond.classLink RX6 16 RX3 ∈ ab_gw := ab_gw_of 155 (by decide +kernel) (by decide +kernel)
theorem wl_X8_31 : Cond.classLink RX8 31 RX0 ∈ ab_gw := ab_gw_of 192 (by decide +kernel) (by decide +kernel)
theorem wl_X8_38 : Cond.classLink RX8 38 RX1 ∈ ab_gw := ab_gw_of 194 (by decide +kernel) (by decide +kernel)
theorem wl_X1_9 : Cond.classLink RX1 9 RX3 ∈ ab_gw := ab_gw_of 200 (by decide +kernel) (by decide +kernel)
theorem wl_X8_45 : Cond.classLink RX8 45 RX4 ∈ ab_gw := ab_gw_of 216 (by decide +kernel) (by decide +kernel)
theorem wl_X4_9 : Cond.classLink RX4 9 RX0 ∈ ab_gw := ab_gw_of 222 (by decide +kernel) (by decide +kernel)
theorem wl_X4_18 : Cond.classLink RX4 18 "[[I" ∈ ab_gw := ab_gw_of 225 (by decide +kernel) (by decide +kernel)
theorem wl_X8_52 : Cond.classLink RX8 52 RX7 ∈ ab_gw := ab_gw_of 255 (by decide +kernel) (by decide +kernel)
theorem wl_L_10 : Cond.classLink RL 10 RX9 ∈ ab_gw := ab_gw_of 689 (by decide +kernel) (by decide +kernel)
theorem wc_X8_130 : Cond.constant RX8 130 (99999) ∈ ab_gw := ab_gw_of 445 (by decide +kernel) (by decide +kernel)
theorem wc_J6_265 : Cond.constant RJ6 265 (1431655765) ∈ ab_gw := ab_gw_of 457 (by decide +kernel) (by decide +kernel)
theorem wc_J6_266 : Cond.constant RJ6 266 (858993459) ∈ ab_gw := ab_gw_of 458 (by decide +kernel) (by decide +kernel)
theorem wc_J6_267 : Cond.constant RJ6 267 (252645135) ∈ ab_gw := ab_gw_of 459 (by decide +kernel) (by decide +kernel)
theorem wc_X8_134 : Cond.constantLong RX8 134 (-1000000000000000001) ∈ ab_gw := ab_gw_of 464 (by decide +kernel) (by decide +kernel)
theorem wc_X8_136 : Cond.constantLong RX8 136 (-1000000000000000002) ∈ ab_gw := ab_gw_of 465 (by decide +kernel) (by decide +kernel)
theorem wc_X8_141 : Cond.constantLong RX8 141 (-1000000000000000003) ∈ ab_gw := ab_gw_of 478 (by decide +kernel) (by decide +kernel)
theorem wc_J6_264 : Cond.constant RJ6 264 (65536) ∈ ab_gw := ab_gw_of 629 (by decide +kernel) (by decide +kernel)
theorem wc_X0_78 : Cond.constant RX0 78 (65537) ∈ ab_gw := ab_gw_of 663 (by decide +kernel) (by decide +kernel)
theorem wc_X9_93 : Cond.constantLong RX9 93 (5) ∈ ab_gw := ab_gw_of 814 (by decide +kernel) (by decide +kernel)
theorem wc_X9_122 : Cond.constantLong RX9 122 (40) ∈ ab_gw := ab_gw_of 818 (by decide +kernel) (by decide +kernel)
theorem wc_X9_124 : Cond.constantLong RX9 124 (9) ∈ ab_gw := ab_gw_of 819 (by decide +kernel) (by decide +kernel)
theorem wc_X9_126 : Cond.constantLong RX9 126 (33) ∈ ab_gw := ab_gw_of 828 (by decide +kernel) (by decide +kernel)
theorem wc_X9_128 : Cond.constantLong RX9 128 (126) ∈ ab_gw := ab_gw_of 829 (by decide +kernel) (by decide +kernel)
theorem wc_X9_133 : Cond.constantLong RX9 133 (65) ∈ ab_gw := ab_gw_of 838 (by decide +kernel) (by decide +kernel)
theorem wc_X9_135 : Cond.constantLong RX9 135 (70) ∈ ab_gw := ab_gw_of 839 (by decide +kernel) (by decide +kernel)
theorem wc_X9_137 : Cond.constantLong RX9 137 (48) ∈ ab_gw := ab_gw_of 840 (by decide +kernel) (by decide +kernel)
theorem wc_X9_139 : Cond.constantLong RX9 139 (51) ∈ ab_gw := ab_gw_of 841 (by decide +kernel) (by decide +kernel)
theorem wc_X9_141 : Cond.constantLong RX9 141 (49) ∈ ab_gw := ab_gw_of 842 (by decide +kernel) (by decide +kernel)
theorem wc_X9_143 : Cond.constantLong RX9 143 (57) ∈ ab_gw := ab_gw_of 843 (by decide +kernel) (by decide +kernel)
theorem wc_X9_99 : Cond.constantLong RX9 99 (3) ∈ ab_gw := ab_gw_of 900 (by decide +kernel) (by decide +kernel)
theorem wc_X9_188 : Cond.constantLong RX9 188 (99999) ∈ ab_gw := ab_gw_of 921 (by decide +kernel) (by decide +kernel)
theorem wc_X9_193 : Cond.constantLong RX9 193 (-1000000000000000001) ∈ ab_gw := ab_gw_of 929 (by decide +kernel) (by decide +kernel)
theorem wc_X9_195 : Cond.constantLong RX9 195 (-1000000000000000002) ∈ ab_gw := ab_gw_of 930 (by decide +kernel) (by decide +kernel)
theorem wc_X9_200 : Cond.constantLong RX9 200 (-1000000000000000003) ∈ ab_gw := ab_gw_of 935 (by decide +kernel) (by decide +kernel)
theorem wc_X9_202 : Cond.constantLong RX9 202 (9999) ∈ ab_gw := ab_gw_of 944 (by decide +kernel) (by decide +kernel)
theorem wc_X9_204 : Cond.constantLong RX9 204 (99) ∈ ab_gw := ab_gw_of 945 (by decide +kernel) (by decide +kernel)
theorem wc_X9_218 : Cond.constantLong RX9 218 (4) ∈ ab_gw := ab_gw_of 966 (by decide +kernel) (by decide +kernel)
theorem wc_X9_220 : Cond.constantLong RX9 220 (-1) ∈ ab_gw := ab_gw_of 967 (by decide +kernel) (by decide +kernel)
theorem wc_X9_226 : Cond.constantLong RX9 226 (63) ∈ ab_gw := ab_gw_of 976 (by decide +kernel) (by decide +kernel)
theorem wc_X9_232 : Cond.constantLong RX9 232 (240) ∈ ab_gw := ab_gw_of 985 (by decide +kernel) (by decide +kernel)
theorem wc_X9_246 : Cond.constantLong RX9 246 (2) ∈ ab_gw := ab_gw_of 1006 (by decide +kernel) (by decide +kernel)
theorem wc_X9_251 : Cond.constantLong RX9 251 (60) ∈ ab_gw := ab_gw_of 1019 (by decide +kernel) (by decide +kernel)
theorem wc_X9_253 : Cond.constantLong RX9 253 (75) ∈ ab_gw := ab_gw_of 1020 (by decide +kernel) (by decide +kernel)
theorem wc_X9_255 : Cond.constantLong RX9 255 (74) ∈ ab_gw := ab_gw_of 1021 (by decide +kernel) (by decide +kernel)
theorem wc_X9_257 : Cond.constantLong RX9 257 (65537) ∈ ab_gw := ab_gw_of 1022 (by decide +kernel) (by decide +kernel)
theorem wc_X9_275 : Cond.constantLong RX9 275 (10) ∈ ab_gw := ab_gw_of 1047 (by decide +kernel) (by decide +kernel)
theorem wc_X9_277 : Cond.constantLong RX9 277 (39) ∈ ab_gw := ab_gw_of 1048 (by decide +kernel) (by decide +kernel)
theorem wc_X9_279 : Cond.constantLong RX9 279 (43) ∈ ab_gw := ab_gw_of 1049 (by decide +kernel) (by decide +kernel)
theorem wi_X8 : Cond.instantiable RX8 8 ∈ ab_gw := ab_gw_of 58 (by decide +kernel) (by decide +kernel)
theorem wi_X2 : Cond.instantiable RX2 2 ∈ ab_gw := ab_gw_of 66 (by decide +kernel) (by decide +kernel)
theorem wi_X6 : Cond.instantiable RX6 3 ∈ ab_gw := ab_gw_of 81 (by decide +kernel) (by decide +kernel)
theorem wi_X0 : Cond.instantiable RX0 8 ∈ ab_gw := ab_gw_of 87 (by decide +kernel) (by decide +kernel)
theorem wi_X5 : Cond.instantiable RX5 4 ∈ ab_gw := ab_gw_of 97 (by decide +kernel) (by decide +kernel)
theorem wi_X3 : Cond.instantiable RX3 3 ∈ ab_gw := ab_gw_of 156 (by decide +kernel) (by decide +kernel)
theorem wi_X1 : Cond.instantiable RX1 4 ∈ ab_gw := ab_gw_of 195 (by decide +kernel) (by decide +kernel)
theorem wi_X4 : Cond.instantiable RX4 9 ∈ ab_gw := ab_gw_of 217 (by decide +kernel) (by decide +kernel)
theorem wi_X7 : Cond.instantiable RX7 4 ∈ ab_gw := ab_gw_of 256 (by decide +kernel) (by decide +kernel)
theorem wi_X9 : Cond.instantiable RX9 37 ∈ ab_gw := ab_gw_of 690 (by decide +kernel) (by decide +kernel)
theorem wn_L : Cond.initialized RL ∈ ab_gw := ab_gw_of 42 (by decide +kernel) (by decide +kernel)
theorem wn_X8 : Cond.initialized RX8 ∈ ab_gw := ab_gw_of 43 (by decide +kernel) (by decide +kernel)
theorem wn_X2 : Cond.initialized RX2 ∈ ab_gw := ab_gw_of 44 (by decide +kernel) (by decide +kernel)
theorem wn_X6 : Cond.initialized RX6 ∈ ab_gw := ab_gw_of 45 (by decide +kernel) (by decide +kernel)
theorem wn_X0 : Cond.initialized RX0 ∈ ab_gw := ab_gw_of 46 (by decide +kernel) (by decide +kernel)
theorem wn_J7 : Cond.initialized RJ7 ∈ ab_gw := ab_gw_of 47 (by decide +kernel) (by decide +kernel)
theorem wn_X5 : Cond.initialized RX5 ∈ ab_gw := ab_gw_of 48 (by decide +kernel) (by decide +kernel)
theorem wn_X3 : Cond.initialized RX3 ∈ ab_gw := ab_gw_of 49 (by decide +kernel) (by decide +kernel)
theorem wn_X1 : Cond.initialized RX1 ∈ ab_gw := ab_gw_of 50 (by decide +kernel) (by decide +kernel)
theorem wn_X4 : Cond.initialized RX4 ∈ ab_gw := ab_gw_of 51 (by decide +kernel) (by decide +kernel)
theorem wn_X7 : Cond.initialized RX7 ∈ ab_gw := ab_gw_of 52 (by decide +kernel) (by decide +kernel)
theorem wn_X9 : Cond.initialized RX9 ∈ ab_gw := ab_gw_of 53 (by decide +kernel) (by decide +kernel)
theorem wn_J10 : Cond.initialized RJ10 ∈ ab_gw := ab_gw_of 54 (by decide +kernel) (by decide +kernel)
theorem wn_J9 : Cond.initialized RJ9 ∈ ab_gw := ab_gw_of 55 (by decide +kernel) (by decide +kernel)
theorem wn_J6 : Cond.initialized RJ6 ∈ ab_gw := ab_gw_of 56 (by decide +kernel) (by decide +kernel)
theorem w_native : Cond.native arraycopyName ∈ ab_gw := ab_gw_of 354 (by decide +kernel) (by decide +kernel)
theorem w_acstat : Cond.static arraycopyName ∈ ab_gw := ab_gw_of 353 (by decide +kernel) (by decide +kernel)
theorem w_sysini : Cond.initialized "java/lang/System" ∈ ab_gw := ab_gw_of 54 (by decide +kernel) (by decide +kernel)
theorem w_objinst : Cond.instanceMethod objectInit ∈ ab_gw := ab_gw_of 63 (by decide +kernel) (by decide +kernel)
theorem w_objcode : Cond.code objectInit ⟨#[0xb1]⟩ 1 none ∈ ab_gw := ab_gw_of 64 (by decide +kernel) (by decide +kernel)
theorem w_arr_int : Cond.arrayClass .int ∈ ab_gw := ab_gw_of 79 (by decide +kernel) (by decide +kernel)
theorem w_arr_boolean : Cond.arrayClass .boolean ∈ ab_gw := ab_gw_of 215 (by decide +kernel) (by decide +kernel)
