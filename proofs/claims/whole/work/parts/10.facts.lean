theorem xv_atsin {L : List Cond} (h1 : L.all (fun w => decide (w ∈ lw_tbl)) = true) (h2 : L.all xv_g = true) : ∀ w ∈ L, w ∈ xv_tbl := fun w hw => List.mem_filter.mpr ⟨of_decide_eq_true (List.all_eq_true.mp h1 w hw), List.all_eq_true.mp h2 w hw⟩
abbrev mX0_init : xv_M := (yX0_init, cX0_init, 7, none, [])
abbrev mX0_lowestPage : xv_M := (yX0_lowestPage, cX0_lowestPage, 1, some (.int), [])
abbrev mX0_highestPage : xv_M := (yX0_highestPage, cX0_highestPage, 1, some (.int), [])
abbrev mX0_isPlaced : xv_M := (yX0_isPlaced, cX0_isPlaced, 1, some (.boolean), [])
abbrev mX0_putAt : xv_M := (yX0_putAt, cX0_putAt, 3, none, [])
abbrev mX0_whereItIs : xv_M := (yX0_whereItIs, cX0_whereItIs, 1, some (.int), [])
abbrev mX1_init : xv_M := (yX1_init, cX1_init, 1, none, [])
abbrev mX1_keep : xv_M := (yX1_keep, cX1_keep, 5, none, [])
abbrev mX1_isKept : xv_M := (yX1_isKept, cX1_isKept, 2, some (.boolean), [])
abbrev mX1_at : xv_M := (yX1_at, cX1_at, 4, some (.int), [])
abbrev mX1_minuteOf : xv_M := (yX1_minuteOf, cX1_minuteOf, 2, some (.int), [])
abbrev mX1_has : xv_M := (yX1_has, cX1_has, 5, some (.boolean), [])
abbrev mX1_owes : xv_M := (yX1_owes, cX1_owes, 3, some (.boolean), [])
abbrev mX1_addOwed : xv_M := (yX1_addOwed, cX1_addOwed, 2, none, [])
abbrev mX1_longestOwed : xv_M := (yX1_longestOwed, cX1_longestOwed, 1, some (.int), [])
abbrev mX1_dropLongestOwed : xv_M := (yX1_dropLongestOwed, cX1_dropLongestOwed, 2, none, [])
abbrev mX2_init : xv_M := (yX2_init, cX2_init, 1, none, [])
abbrev mX2_add : xv_M := (yX2_add, cX2_add, 3, none, [])
abbrev mX2_bestWithin : xv_M := (yX2_bestWithin, cX2_bestWithin, 6, some (.int), [])
abbrev mX2_widthOf : xv_M := (yX2_widthOf, cX2_widthOf, 4, some (.int), [])
abbrev mX2_isLongFirst : xv_M := (yX2_isLongFirst, cX2_isLongFirst, 3, some (.boolean), [])
abbrev mX3_init : xv_M := (yX3_init, cX3_init, 2, none, [])
abbrev mX3_find : xv_M := (yX3_find, cX3_find, 5, some (.boolean), [])
abbrev mX3_tryOnePage : xv_M := (yX3_tryOnePage, cX3_tryOnePage, 5, none, [])
abbrev mX3_tryTwoPages : xv_M := (yX3_tryTwoPages, cX3_tryTwoPages, 8, none, [])
abbrev mX3_setRun : xv_M := (yX3_setRun, cX3_setRun, 6, some (.boolean), [])
abbrev mX3_keepIfCheaper : xv_M := (yX3_keepIfCheaper, cX3_keepIfCheaper, 2, none, [])
abbrev mX4_init : xv_M := (yX4_init, cX4_init, 1, none, [])
abbrev mX4_setRow : xv_M := (yX4_setRow, cX4_setRow, 4, none, [])
abbrev mX4_countSolutions : xv_M := (yX4_countSolutions, cX4_countSolutions, 1, some (.int), [])
abbrev mX4_countFrom : xv_M := (yX4_countFrom, cX4_countFrom, 7, some (.int), [])
abbrev mX4_quarterOf : xv_M := (yX4_quarterOf, cX4_quarterOf, 2, some (.int), [])
abbrev mX4_isOpen : xv_M := (yX4_isOpen, cX4_isOpen, 6, some (.boolean), [])
abbrev mX4_turn : xv_M := (yX4_turn, cX4_turn, 5, none, [])
abbrev mX5_init : xv_M := (yX5_init, cX5_init, 1, none, [])
abbrev mX5_setKind : xv_M := (yX5_setKind, cX5_setKind, 4, none, [])
abbrev mX5_sectionOf : xv_M := (yX5_sectionOf, cX5_sectionOf, 2, some (.int), [])
abbrev mX5_hasColour : xv_M := (yX5_hasColour, cX5_hasColour, 2, some (.boolean), [])
abbrev mX5_at : xv_M := (yX5_at, cX5_at, 3, some (.int), [])
abbrev mX5_put : xv_M := (yX5_put, cX5_put, 4, none, [])
abbrev mX5_isBare : xv_M := (yX5_isBare, cX5_isBare, 3, some (.boolean), [])
abbrev mX5_lowestFree : xv_M := (yX5_lowestFree, cX5_lowestFree, 3, some (.int), [])
abbrev mX5_freeAllOf : xv_M := (yX5_freeAllOf, cX5_freeAllOf, 4, none, [])
abbrev mX5_platesOf : xv_M := (yX5_platesOf, cX5_platesOf, 5, some (.int), [])
abbrev mX5_freeRectangle : xv_M := (yX5_freeRectangle, cX5_freeRectangle, 6, some (.int), [])
abbrev mX5_isFreeRectangle : xv_M := (yX5_isFreeRectangle, cX5_isFreeRectangle, 7, some (.boolean), [])
abbrev mX5_fillRectangle : xv_M := (yX5_fillRectangle, cX5_fillRectangle, 5, none, [])
abbrev mX5_freeRun : xv_M := (yX5_freeRun, cX5_freeRun, 7, some (.int), [])
abbrev mX5_isThere : xv_M := (yX5_isThere, cX5_isThere, 2, some (.boolean), [])
abbrev mX5_letLeave : xv_M := (yX5_letLeave, cX5_letLeave, 4, none, [])
abbrev mX5_letComeBack : xv_M := (yX5_letComeBack, cX5_letComeBack, 2, none, [])
abbrev mX5_hasSigned : xv_M := (yX5_hasSigned, cX5_hasSigned, 3, some (.boolean), [])
abbrev mX5_addSignature : xv_M := (yX5_addSignature, cX5_addSignature, 3, some (.int), [])
abbrev mX5_turnHold : xv_M := (yX5_turnHold, cX5_turnHold, 3, some (.boolean), [])
abbrev mX5_canGo : xv_M := (yX5_canGo, cX5_canGo, 2, some (.boolean), [])
abbrev mX5_canAllGo : xv_M := (yX5_canAllGo, cX5_canAllGo, 2, some (.boolean), [])
abbrev mX6_init : xv_M := (yX6_init, cX6_init, 5, none, [])
abbrev mX6_isLaid : xv_M := (yX6_isLaid, cX6_isLaid, 1, some (.boolean), [])
abbrev mX6_linesOfFirst : xv_M := (yX6_linesOfFirst, cX6_linesOfFirst, 5, some (.int), [])
abbrev mX6_cellsFor : xv_M := (yX6_cellsFor, cX6_cellsFor, 4, some (.int), [])
abbrev mX7_init : xv_M := (yX7_init, cX7_init, 1, none, [])
abbrev mX7_add : xv_M := (yX7_add, cX7_add, 3, none, [])
abbrev mX7_minutesLate : xv_M := (yX7_minutesLate, cX7_minutesLate, 5, some (.int), [])
abbrev mX7_isAhead : xv_M := (yX7_isAhead, cX7_isAhead, 3, some (.boolean), [])
abbrev mX8_init : xv_M := (yX8_init, cX8_init, 1, none, [])
abbrev mX8_clear : xv_M := (yX8_clear, cX8_clear, 2, none, [])
abbrev mX8_setPart : xv_M := (yX8_setPart, cX8_setPart, 5, none, [])
abbrev mX8_copy : xv_M := (yX8_copy, cX8_copy, 3, none, [])
abbrev mX8_pageOf : xv_M := (yX8_pageOf, cX8_pageOf, 2, some (.int), [])
abbrev mX8_start : xv_M := (yX8_start, cX8_start, 2, some (.int), [])
abbrev mX8_size : xv_M := (yX8_size, cX8_size, 2, some (.int), [])
abbrev mX8_plates : xv_M := (yX8_plates, cX8_plates, 3, some (.int), [])
abbrev mX9_init : xv_M := (yX9_init, cX9_init, 1, none, [])
abbrev mX9_firstAlike : xv_M := (yX9_firstAlike, cX9_firstAlike, 4, some (.int), [])
abbrev mX9_merge : xv_M := (yX9_merge, cX9_merge, 4, none, [])
abbrev mX9_add : xv_M := (yX9_add, cX9_add, 3, none, [])
abbrev mX9_mostUrgent : xv_M := (yX9_mostUrgent, cX9_mostUrgent, 3, some (.int), [])
abbrev mX9_remove : xv_M := (yX9_remove, cX9_remove, 4, some (.int), [])
abbrev mX10_init : xv_M := (yX10_init, cX10_init, 1, none, [])
abbrev mX10_page : xv_M := (yX10_page, cX10_page, 4, none, [])
abbrev mX10_cell : xv_M := (yX10_cell, cX10_cell, 3, some (.int), [])
abbrev mX10_touched : xv_M := (yX10_touched, cX10_touched, 1, some (.int), [])
abbrev mX10_distance : xv_M := (yX10_distance, cX10_distance, 4, some (.int), [])
abbrev mX10_advert : xv_M := (yX10_advert, cX10_advert, 7, some (.int), [])
abbrev mX10_place : xv_M := (yX10_place, cX10_place, 5, some (.int), [])
abbrev mX10_takeOff : xv_M := (yX10_takeOff, cX10_takeOff, 4, some (.int), [])
abbrev mX10_advertsIn : xv_M := (yX10_advertsIn, cX10_advertsIn, 5, some (.int), [])
abbrev mX10_story : xv_M := (yX10_story, cX10_story, 5, some (.int), [])
abbrev mX10_lay : xv_M := (yX10_lay, cX10_lay, 3, some (.int), [])
abbrev mX10_lift : xv_M := (yX10_lift, cX10_lift, 4, some (.int), [])
abbrev mX10_change : xv_M := (yX10_change, cX10_change, 7, some (.int), [])
abbrev mX10_part : xv_M := (yX10_part, cX10_part, 5, some (.int), [])
abbrev mX10_person : xv_M := (yX10_person, cX10_person, 2, some (.boolean), [])
abbrev mX10_sign : xv_M := (yX10_sign, cX10_sign, 3, some (.int), [])
abbrev mX10_hold : xv_M := (yX10_hold, cX10_hold, 3, some (.boolean), [])
abbrev mX10_isReady : xv_M := (yX10_isReady, cX10_isReady, 2, some (.boolean), [])
abbrev mX10_close : xv_M := (yX10_close, cX10_close, 1, some (.int), [])
abbrev mX10_printed : xv_M := (yX10_printed, cX10_printed, 4, some (.int), [])
abbrev mX10_correct : xv_M := (yX10_correct, cX10_correct, 3, some (.int), [])
abbrev mX10_placeCorrection : xv_M := (yX10_placeCorrection, cX10_placeCorrection, 5, some (.int), [])
abbrev mX10_clean : xv_M := (yX10_clean, cX10_clean, 4, some (.int), [])
abbrev mX10_pass : xv_M := (yX10_pass, cX10_pass, 2, some (.int), [])
abbrev mX10_truck : xv_M := (yX10_truck, cX10_truck, 3, some (.int), [])
abbrev mX10_late : xv_M := (yX10_late, cX10_late, 3, some (.int), [])
abbrev mX10_word : xv_M := (yX10_word, cX10_word, 3, some (.int), [])
abbrev mX10_fit : xv_M := (yX10_fit, cX10_fit, 2, some (.int), [])
abbrev mX10_dropWords : xv_M := (yX10_dropWords, cX10_dropWords, 2, some (.int), [])
abbrev mX10_weigh : xv_M := (yX10_weigh, cX10_weigh, 4, some (.int), [])
abbrev mX10_crop : xv_M := (yX10_crop, cX10_crop, 8, some (.int), [])
abbrev mX10_wire : xv_M := (yX10_wire, cX10_wire, 4, some (.int), [])
abbrev mX10_take : xv_M := (yX10_take, cX10_take, 1, some (.int), [])
abbrev mX10_numbers : xv_M := (yX10_numbers, cX10_numbers, 3, none, [])
abbrev mX10_solutions : xv_M := (yX10_solutions, cX10_solutions, 1, some (.int), [])
abbrev mX10_needPage : xv_M := (yX10_needPage, cX10_needPage, 1, none, [])
abbrev mX10_needCell : xv_M := (yX10_needCell, cX10_needCell, 1, none, [])
abbrev mX10_needPerson : xv_M := (yX10_needPerson, cX10_needPerson, 1, none, [])
abbrev mX10_needRange : xv_M := (yX10_needRange, cX10_needRange, 3, none, [])
abbrev mX10_needEdition : xv_M := (yX10_needEdition, cX10_needEdition, 2, none, [])
abbrev mX10_needAdvert : xv_M := (yX10_needAdvert, cX10_needAdvert, 3, some (.object "PressHall$Advert"), [])
abbrev mX10_needStory : xv_M := (yX10_needStory, cX10_needStory, 3, some (.object "PressHall$Story"), [])
abbrev mX10_storyAt : xv_M := (yX10_storyAt, cX10_storyAt, 2, some (.object "PressHall$Story"), [])
abbrev mX10_isPage : xv_M := (yX10_isPage, cX10_isPage, 1, some (.boolean), [])
abbrev mX10_isCell : xv_M := (yX10_isCell, cX10_isCell, 1, some (.boolean), [])
abbrev mX10_isZonePage : xv_M := (yX10_isZonePage, cX10_isZonePage, 1, some (.boolean), [])
abbrev mX10_isInCopies : xv_M := (yX10_isInCopies, cX10_isInCopies, 2, some (.boolean), [])
abbrev mX10_plateOf : xv_M := (yX10_plateOf, cX10_plateOf, 1, some (.int), [])
abbrev mX10_cellInColumns : xv_M := (yX10_cellInColumns, cX10_cellInColumns, 1, some (.int), [])
abbrev mX10_pagesApart : xv_M := (yX10_pagesApart, cX10_pagesApart, 2, some (.int), [])
abbrev mX10_distanceOf : xv_M := (yX10_distanceOf, cX10_distanceOf, 2, some (.int), [])
abbrev mX10_fits : xv_M := (yX10_fits, cX10_fits, 3, some (.boolean), [])
abbrev mX10_isFarFromItsLike : xv_M := (yX10_isFarFromItsLike, cX10_isFarFromItsLike, 5, some (.boolean), [])
abbrev mX10_paragraphsOf : xv_M := (yX10_paragraphsOf, cX10_paragraphsOf, 3, some (.int), [])
abbrev mX10_putOut : xv_M := (yX10_putOut, cX10_putOut, 7, none, [])
abbrev mX10_weightOf : xv_M := (yX10_weightOf, cX10_weightOf, 8, some (.int), [])
abbrev mX10_digitAt : xv_M := (yX10_digitAt, cX10_digitAt, 5, some (.int), [])
abbrev mX10_isPuzzleRow : xv_M := (yX10_isPuzzleRow, cX10_isPuzzleRow, 2, some (.boolean), [])
abbrev mX11_init : xv_M := (yX11_init, cX11_init, 2, none, [])
abbrev mX11_thrown : xv_M := (yX11_thrown, cX11_thrown, 1, some (.int), [])
abbrev mX11_fails : xv_M := (yX11_fails, cX11_fails, 2, some (.boolean), [])
abbrev mX11_isIn : xv_M := (yX11_isIn, cX11_isIn, 3, some (.boolean), [])
abbrev mX11_isPage : xv_M := (yX11_isPage, cX11_isPage, 1, some (.boolean), [])
abbrev mX11_isCell : xv_M := (yX11_isCell, cX11_isCell, 2, some (.boolean), [])
abbrev mX11_size : xv_M := (yX11_size, cX11_size, 3, some (.int), [])
abbrev mX11_isEmpty : xv_M := (yX11_isEmpty, cX11_isEmpty, 4, some (.boolean), [])
abbrev mX11_page : xv_M := (yX11_page, cX11_page, 4, none, [])
abbrev mX11_cell : xv_M := (yX11_cell, cX11_cell, 3, some (.int), [])
abbrev mX11_touched : xv_M := (yX11_touched, cX11_touched, 1, some (.int), [])
abbrev mX11_puts : xv_M := (yX11_puts, cX11_puts, 5, none, [])
abbrev mX11_distance : xv_M := (yX11_distance, cX11_distance, 4, some (.int), [])
abbrev mX11_advert : xv_M := (yX11_advert, cX11_advert, 8, some (.int), [])
abbrev mX11_apart : xv_M := (yX11_apart, cX11_apart, 2, some (.int), [])
abbrev mX11_fits : xv_M := (yX11_fits, cX11_fits, 5, some (.boolean), [])
abbrev mX11_isFree : xv_M := (yX11_isFree, cX11_isFree, 7, some (.boolean), [])
abbrev mX11_fills : xv_M := (yX11_fills, cX11_fills, 7, none, [])
abbrev mX11_isAdvert : xv_M := (yX11_isAdvert, cX11_isAdvert, 2, some (.boolean), [])
abbrev mX11_place : xv_M := (yX11_place, cX11_place, 5, some (.int), [])
abbrev mX11_takeOff : xv_M := (yX11_takeOff, cX11_takeOff, 4, some (.int), [])
abbrev mX11_advertsIn : xv_M := (yX11_advertsIn, cX11_advertsIn, 4, some (.int), [])
abbrev mX11_story : xv_M := (yX11_story, cX11_story, 8, some (.int), [])
abbrev mX11_cellsFor : xv_M := (yX11_cellsFor, cX11_cellsFor, 6, some (.int), [])
abbrev mX11_cellAt : xv_M := (yX11_cellAt, cX11_cellAt, 1, some (.int), [])
abbrev mX11_firstFor : xv_M := (yX11_firstFor, cX11_firstFor, 8, some (.int), [])
abbrev mX11_platesOf : xv_M := (yX11_platesOf, cX11_platesOf, 4, some (.int), [])
abbrev mX11_keeps : xv_M := (yX11_keeps, cX11_keeps, 11, none, [])
abbrev mX11_ways : xv_M := (yX11_ways, cX11_ways, 15, none, [])
abbrev mX11_finds : xv_M := (yX11_finds, cX11_finds, 5, some (.int), [])
abbrev mX11_lays : xv_M := (yX11_lays, cX11_lays, 5, none, [])
abbrev mX11_isStory : xv_M := (yX11_isStory, cX11_isStory, 2, some (.boolean), [])
abbrev mX11_lay : xv_M := (yX11_lay, cX11_lay, 4, some (.int), [])
abbrev mX11_clears : xv_M := (yX11_clears, cX11_clears, 5, some (.int), [])
abbrev mX11_lifts : xv_M := (yX11_lifts, cX11_lifts, 3, none, [])
abbrev mX11_lift : xv_M := (yX11_lift, cX11_lift, 4, some (.int), [])
abbrev mX11_change : xv_M := (yX11_change, cX11_change, 6, some (.int), [])
abbrev mX11_part : xv_M := (yX11_part, cX11_part, 5, some (.int), [])
abbrev mX11_isPerson : xv_M := (yX11_isPerson, cX11_isPerson, 1, some (.boolean), [])
abbrev mX11_person : xv_M := (yX11_person, cX11_person, 3, some (.boolean), [])
abbrev mX11_many : xv_M := (yX11_many, cX11_many, 5, some (.int), [])
abbrev mX11_sign : xv_M := (yX11_sign, cX11_sign, 4, some (.int), [])
abbrev mX11_hold : xv_M := (yX11_hold, cX11_hold, 4, some (.boolean), [])
abbrev mX11_ready : xv_M := (yX11_ready, cX11_ready, 2, some (.boolean), [])
abbrev mX11_isReady : xv_M := (yX11_isReady, cX11_isReady, 2, some (.boolean), [])
abbrev mX11_close : xv_M := (yX11_close, cX11_close, 3, some (.int), [])
abbrev mX11_isEdition : xv_M := (yX11_isEdition, cX11_isEdition, 2, some (.boolean), [])
abbrev mX11_printed : xv_M := (yX11_printed, cX11_printed, 5, some (.int), [])
abbrev mX11_correct : xv_M := (yX11_correct, cX11_correct, 7, some (.int), [])
abbrev mX11_placeCorrection : xv_M := (yX11_placeCorrection, cX11_placeCorrection, 4, some (.int), [])
abbrev mX11_clean : xv_M := (yX11_clean, cX11_clean, 4, some (.int), [])
abbrev mX11_pass : xv_M := (yX11_pass, cX11_pass, 2, some (.int), [])
abbrev mX11_truck : xv_M := (yX11_truck, cX11_truck, 4, some (.int), [])
abbrev mX11_late : xv_M := (yX11_late, cX11_late, 7, some (.int), [])
abbrev mX11_word : xv_M := (yX11_word, cX11_word, 4, some (.int), [])
abbrev mX11_fit : xv_M := (yX11_fit, cX11_fit, 9, some (.int), [])
abbrev mX11_dropWords : xv_M := (yX11_dropWords, cX11_dropWords, 2, some (.int), [])
abbrev mX11_weigh : xv_M := (yX11_weigh, cX11_weigh, 4, some (.int), [])
abbrev mX11_digit : xv_M := (yX11_digit, cX11_digit, 4, some (.int), [])
abbrev mX11_crop : xv_M := (yX11_crop, cX11_crop, 9, some (.int), [])
abbrev mX11_wire : xv_M := (yX11_wire, cX11_wire, 7, some (.int), [])
abbrev mX11_take : xv_M := (yX11_take, cX11_take, 4, some (.int), [])
abbrev mX11_numbers : xv_M := (yX11_numbers, cX11_numbers, 5, none, [])
abbrev mX11_isPossible : xv_M := (yX11_isPossible, cX11_isPossible, 5, some (.boolean), [])
abbrev mX11_solutions : xv_M := (yX11_solutions, cX11_solutions, 3, some (.int), [])
abbrev mJ6_bitCount_0f7a4 : xv_M := (yJ6_bitCount_0f7a4, cJ6_bitCount_0f7a4, 1, some (.int), [])
abbrev mJ9_max_7cf53 : xv_M := (yJ9_max_7cf53, cJ9_max_7cf53, 2, some (.int), [])
abbrev mL_page : xv_M := (yL_page, cL_page, 5, some (.int), [(0, 7, 10, 13), (0, 7, 14, 15), (0, 7, 18, 17)])
abbrev mL_cell : xv_M := (yL_cell, cL_cell, 5, some (.int), [(0, 10, 13, 13)])
abbrev mL_distance : xv_M := (yL_distance, cL_distance, 5, some (.int), [(0, 10, 13, 15)])
abbrev mL_advert : xv_M := (yL_advert, cL_advert, 9, some (.int), [(0, 18, 21, 15), (0, 18, 25, 17)])
abbrev mL_place : xv_M := (yL_place, cL_place, 4, some (.int), [(0, 9, 12, 13), (0, 9, 15, 17)])
abbrev mL_takeOff : xv_M := (yL_takeOff, cL_takeOff, 4, some (.int), [(0, 9, 12, 13), (0, 9, 15, 17)])
abbrev mL_advertsIn : xv_M := (yL_advertsIn, cL_advertsIn, 4, some (.int), [(0, 9, 12, 13)])
abbrev mL_story : xv_M := (yL_story, cL_story, 6, some (.int), [(0, 12, 15, 15), (0, 12, 19, 17)])
abbrev mL_lay : xv_M := (yL_lay, cL_lay, 4, some (.int), [(0, 9, 12, 13), (0, 9, 15, 17)])
abbrev mL_lift : xv_M := (yL_lift, cL_lift, 4, some (.int), [(0, 9, 12, 13), (0, 9, 15, 17)])
abbrev mL_change : xv_M := (yL_change, cL_change, 5, some (.int), [(0, 10, 13, 13), (0, 10, 17, 17)])
abbrev mL_part : xv_M := (yL_part, cL_part, 5, some (.int), [(0, 10, 13, 13), (0, 10, 17, 15)])
abbrev mL_person : xv_M := (yL_person, cL_person, 4, some (.int), [(0, 16, 19, 13)])
abbrev mL_sign : xv_M := (yL_sign, cL_sign, 5, some (.int), [(0, 10, 13, 13), (0, 10, 17, 17)])
abbrev mL_hold : xv_M := (yL_hold, cL_hold, 5, some (.int), [(0, 17, 20, 13), (0, 17, 24, 17)])
abbrev mL_isReady : xv_M := (yL_isReady, cL_isReady, 4, some (.int), [(0, 16, 19, 13)])
abbrev mL_close : xv_M := (yL_close, cL_close, 3, some (.int), [(0, 8, 11, 17)])
abbrev mL_printed : xv_M := (yL_printed, cL_printed, 6, some (.int), [(0, 12, 15, 13)])
abbrev mL_correct : xv_M := (yL_correct, cL_correct, 5, some (.int), [(0, 10, 13, 13), (0, 10, 17, 17)])
abbrev mL_placeCorrection : xv_M := (yL_placeCorrection, cL_placeCorrection, 3, some (.int), [(0, 8, 11, 17)])
abbrev mL_clean : xv_M := (yL_clean, cL_clean, 4, some (.int), [(0, 9, 12, 13)])
abbrev mL_pass : xv_M := (yL_pass, cL_pass, 4, some (.int), [(0, 9, 12, 15)])
abbrev mL_truck : xv_M := (yL_truck, cL_truck, 5, some (.int), [(0, 10, 13, 15), (0, 10, 17, 17)])
abbrev mL_late : xv_M := (yL_late, cL_late, 5, some (.int), [(0, 10, 13, 13)])
abbrev mL_word : xv_M := (yL_word, cL_word, 5, some (.int), [(0, 10, 13, 15), (0, 10, 17, 17)])
abbrev mL_fit : xv_M := (yL_fit, cL_fit, 4, some (.int), [(0, 9, 12, 15)])
abbrev mL_weigh : xv_M := (yL_weigh, cL_weigh, 5, some (.int), [(0, 10, 13, 15)])
abbrev mL_crop : xv_M := (yL_crop, cL_crop, 5, some (.int), [(0, 10, 13, 15)])
abbrev mL_wire : xv_M := (yL_wire, cL_wire, 5, some (.int), [(0, 10, 13, 15), (0, 10, 17, 17)])
abbrev mL_take : xv_M := (yL_take, cL_take, 3, some (.int), [(0, 8, 11, 17)])
abbrev mL_numbers : xv_M := (yL_numbers, cL_numbers, 4, some (.int), [(0, 6, 9, 15)])
abbrev mL_law : xv_M := (yL_law, cL_law, 7, some .boolean, [])
theorem inX0 : ∀ w ∈ u_ws RX0 TX0 8, w ∈ xv_tbl := List.forall_mem_cons.mpr ⟨(xv_tbl_mem 472 (by decide +kernel) rfl), List.forall_mem_cons.mpr ⟨(xv_tbl_mem 474 (by decide +kernel) rfl), List.forall_mem_cons.mpr ⟨(xv_tbl_mem 476 (by decide +kernel) rfl), List.forall_mem_cons.mpr ⟨(xv_tbl_mem 478 (by decide +kernel) rfl), List.forall_mem_cons.mpr ⟨(xv_tbl_mem 480 (by decide +kernel) rfl), List.forall_mem_cons.mpr ⟨(xv_tbl_mem 482 (by decide +kernel) rfl), List.forall_mem_cons.mpr ⟨(xv_tbl_mem 484 (by decide +kernel) rfl), List.forall_mem_cons.mpr ⟨(xv_tbl_mem 486 (by decide +kernel) rfl), fun _ h => absurd h List.not_mem_nil⟩⟩⟩⟩⟩⟩⟩⟩
theorem inX1 : ∀ w ∈ u_ws RX1 TX1 5, w ∈ xv_tbl := List.forall_mem_cons.mpr ⟨(xv_tbl_mem 128 (by decide +kernel) rfl), List.forall_mem_cons.mpr ⟨(xv_tbl_mem 130 (by decide +kernel) rfl), List.forall_mem_cons.mpr ⟨(xv_tbl_mem 132 (by decide +kernel) rfl), List.forall_mem_cons.mpr ⟨(xv_tbl_mem 134 (by decide +kernel) rfl), List.forall_mem_cons.mpr ⟨(xv_tbl_mem 136 (by decide +kernel) rfl), fun _ h => absurd h List.not_mem_nil⟩⟩⟩⟩⟩
theorem inX2 : ∀ w ∈ u_ws RX2 TX2 3, w ∈ xv_tbl := List.forall_mem_cons.mpr ⟨(xv_tbl_mem 166 (by decide +kernel) rfl), List.forall_mem_cons.mpr ⟨(xv_tbl_mem 168 (by decide +kernel) rfl), List.forall_mem_cons.mpr ⟨(xv_tbl_mem 170 (by decide +kernel) rfl), fun _ h => absurd h List.not_mem_nil⟩⟩⟩
theorem inX3 : ∀ w ∈ u_ws RX3 TX3 6, w ∈ xv_tbl := List.forall_mem_cons.mpr ⟨(xv_tbl_mem 101 (by decide +kernel) rfl), List.forall_mem_cons.mpr ⟨(xv_tbl_mem 103 (by decide +kernel) rfl), List.forall_mem_cons.mpr ⟨(xv_tbl_mem 105 (by decide +kernel) rfl), List.forall_mem_cons.mpr ⟨(xv_tbl_mem 107 (by decide +kernel) rfl), List.forall_mem_cons.mpr ⟨(xv_tbl_mem 109 (by decide +kernel) rfl), List.forall_mem_cons.mpr ⟨(xv_tbl_mem 111 (by decide +kernel) rfl), fun _ h => absurd h List.not_mem_nil⟩⟩⟩⟩⟩⟩
theorem inX4 : ∀ w ∈ u_ws RX4 TX4 4, w ∈ xv_tbl := List.forall_mem_cons.mpr ⟨(xv_tbl_mem 200 (by decide +kernel) rfl), List.forall_mem_cons.mpr ⟨(xv_tbl_mem 202 (by decide +kernel) rfl), List.forall_mem_cons.mpr ⟨(xv_tbl_mem 204 (by decide +kernel) rfl), List.forall_mem_cons.mpr ⟨(xv_tbl_mem 206 (by decide +kernel) rfl), fun _ h => absurd h List.not_mem_nil⟩⟩⟩⟩
theorem inX5 : ∀ w ∈ u_ws RX5 TX5 7, w ∈ xv_tbl := List.forall_mem_cons.mpr ⟨(xv_tbl_mem 45 (by decide +kernel) rfl), List.forall_mem_cons.mpr ⟨(xv_tbl_mem 47 (by decide +kernel) rfl), List.forall_mem_cons.mpr ⟨(xv_tbl_mem 49 (by decide +kernel) rfl), List.forall_mem_cons.mpr ⟨(xv_tbl_mem 51 (by decide +kernel) rfl), List.forall_mem_cons.mpr ⟨(xv_tbl_mem 53 (by decide +kernel) rfl), List.forall_mem_cons.mpr ⟨(xv_tbl_mem 55 (by decide +kernel) rfl), List.forall_mem_cons.mpr ⟨(xv_tbl_mem 57 (by decide +kernel) rfl), fun _ h => absurd h List.not_mem_nil⟩⟩⟩⟩⟩⟩⟩
theorem inX6 : ∀ w ∈ u_ws RX6 TX6 5, w ∈ xv_tbl := List.forall_mem_cons.mpr ⟨(xv_tbl_mem 614 (by decide +kernel) rfl), List.forall_mem_cons.mpr ⟨(xv_tbl_mem 616 (by decide +kernel) rfl), List.forall_mem_cons.mpr ⟨(xv_tbl_mem 618 (by decide +kernel) rfl), List.forall_mem_cons.mpr ⟨(xv_tbl_mem 620 (by decide +kernel) rfl), List.forall_mem_cons.mpr ⟨(xv_tbl_mem 622 (by decide +kernel) rfl), fun _ h => absurd h List.not_mem_nil⟩⟩⟩⟩⟩
theorem inX7 : ∀ w ∈ u_ws RX7 TX7 3, w ∈ xv_tbl := List.forall_mem_cons.mpr ⟨(xv_tbl_mem 149 (by decide +kernel) rfl), List.forall_mem_cons.mpr ⟨(xv_tbl_mem 151 (by decide +kernel) rfl), List.forall_mem_cons.mpr ⟨(xv_tbl_mem 153 (by decide +kernel) rfl), fun _ h => absurd h List.not_mem_nil⟩⟩⟩
theorem inX8 : ∀ w ∈ u_ws RX8 TX8 4, w ∈ xv_tbl := List.forall_mem_cons.mpr ⟨(xv_tbl_mem 85 (by decide +kernel) rfl), List.forall_mem_cons.mpr ⟨(xv_tbl_mem 87 (by decide +kernel) rfl), List.forall_mem_cons.mpr ⟨(xv_tbl_mem 89 (by decide +kernel) rfl), List.forall_mem_cons.mpr ⟨(xv_tbl_mem 91 (by decide +kernel) rfl), fun _ h => absurd h List.not_mem_nil⟩⟩⟩⟩
theorem inX9 : ∀ w ∈ u_ws RX9 TX9 3, w ∈ xv_tbl := List.forall_mem_cons.mpr ⟨(xv_tbl_mem 183 (by decide +kernel) rfl), List.forall_mem_cons.mpr ⟨(xv_tbl_mem 185 (by decide +kernel) rfl), List.forall_mem_cons.mpr ⟨(xv_tbl_mem 187 (by decide +kernel) rfl), fun _ h => absurd h List.not_mem_nil⟩⟩⟩
theorem inX10 : ∀ w ∈ u_ws RX10 TX10 14, w ∈ xv_tbl := List.forall_mem_cons.mpr ⟨(xv_tbl_mem 223 (by decide +kernel) rfl), List.forall_mem_cons.mpr ⟨(xv_tbl_mem 225 (by decide +kernel) rfl), List.forall_mem_cons.mpr ⟨(xv_tbl_mem 227 (by decide +kernel) rfl), List.forall_mem_cons.mpr ⟨(xv_tbl_mem 229 (by decide +kernel) rfl), List.forall_mem_cons.mpr ⟨(xv_tbl_mem 231 (by decide +kernel) rfl), List.forall_mem_cons.mpr ⟨(xv_tbl_mem 233 (by decide +kernel) rfl), List.forall_mem_cons.mpr ⟨(xv_tbl_mem 235 (by decide +kernel) rfl), List.forall_mem_cons.mpr ⟨(xv_tbl_mem 237 (by decide +kernel) rfl), List.forall_mem_cons.mpr ⟨(xv_tbl_mem 239 (by decide +kernel) rfl), List.forall_mem_cons.mpr ⟨(xv_tbl_mem 241 (by decide +kernel) rfl), List.forall_mem_cons.mpr ⟨(xv_tbl_mem 243 (by decide +kernel) rfl), List.forall_mem_cons.mpr ⟨(xv_tbl_mem 245 (by decide +kernel) rfl), List.forall_mem_cons.mpr ⟨(xv_tbl_mem 247 (by decide +kernel) rfl), List.forall_mem_cons.mpr ⟨(xv_tbl_mem 249 (by decide +kernel) rfl), fun _ h => absurd h List.not_mem_nil⟩⟩⟩⟩⟩⟩⟩⟩⟩⟩⟩⟩⟩⟩
theorem inX11 : ∀ w ∈ u_ws RX11 TX11 49, w ∈ xv_tbl := List.forall_mem_cons.mpr ⟨(xv_tbl_mem 1113 (by decide +kernel) rfl), List.forall_mem_cons.mpr ⟨(xv_tbl_mem 1115 (by decide +kernel) rfl), List.forall_mem_cons.mpr ⟨(xv_tbl_mem 1117 (by decide +kernel) rfl), List.forall_mem_cons.mpr ⟨(xv_tbl_mem 1119 (by decide +kernel) rfl), List.forall_mem_cons.mpr ⟨(xv_tbl_mem 1121 (by decide +kernel) rfl), List.forall_mem_cons.mpr ⟨(xv_tbl_mem 1123 (by decide +kernel) rfl), List.forall_mem_cons.mpr ⟨(xv_tbl_mem 1125 (by decide +kernel) rfl), List.forall_mem_cons.mpr ⟨(xv_tbl_mem 1127 (by decide +kernel) rfl), List.forall_mem_cons.mpr ⟨(xv_tbl_mem 1129 (by decide +kernel) rfl), List.forall_mem_cons.mpr ⟨(xv_tbl_mem 1131 (by decide +kernel) rfl), List.forall_mem_cons.mpr ⟨(xv_tbl_mem 1133 (by decide +kernel) rfl), List.forall_mem_cons.mpr ⟨(xv_tbl_mem 1135 (by decide +kernel) rfl), List.forall_mem_cons.mpr ⟨(xv_tbl_mem 1137 (by decide +kernel) rfl), List.forall_mem_cons.mpr ⟨(xv_tbl_mem 1139 (by decide +kernel) rfl), List.forall_mem_cons.mpr ⟨(xv_tbl_mem 1141 (by decide +kernel) rfl), List.forall_mem_cons.mpr ⟨(xv_tbl_mem 1143 (by decide +kernel) rfl), List.forall_mem_cons.mpr ⟨(xv_tbl_mem 1145 (by decide +kernel) rfl), List.forall_mem_cons.mpr ⟨(xv_tbl_mem 1147 (by decide +kernel) rfl), List.forall_mem_cons.mpr ⟨(xv_tbl_mem 1149 (by decide +kernel) rfl), List.forall_mem_cons.mpr ⟨(xv_tbl_mem 1151 (by decide +kernel) rfl), List.forall_mem_cons.mpr ⟨(xv_tbl_mem 1153 (by decide +kernel) rfl), List.forall_mem_cons.mpr ⟨(xv_tbl_mem 1155 (by decide +kernel) rfl), List.forall_mem_cons.mpr ⟨(xv_tbl_mem 1157 (by decide +kernel) rfl), List.forall_mem_cons.mpr ⟨(xv_tbl_mem 1159 (by decide +kernel) rfl), List.forall_mem_cons.mpr ⟨(xv_tbl_mem 1161 (by decide +kernel) rfl), List.forall_mem_cons.mpr ⟨(xv_tbl_mem 1163 (by decide +kernel) rfl), List.forall_mem_cons.mpr ⟨(xv_tbl_mem 1165 (by decide +kernel) rfl), List.forall_mem_cons.mpr ⟨(xv_tbl_mem 1167 (by decide +kernel) rfl), List.forall_mem_cons.mpr ⟨(xv_tbl_mem 1169 (by decide +kernel) rfl), List.forall_mem_cons.mpr ⟨(xv_tbl_mem 1171 (by decide +kernel) rfl), List.forall_mem_cons.mpr ⟨(xv_tbl_mem 1173 (by decide +kernel) rfl), List.forall_mem_cons.mpr ⟨(xv_tbl_mem 1175 (by decide +kernel) rfl), List.forall_mem_cons.mpr ⟨(xv_tbl_mem 1177 (by decide +kernel) rfl), List.forall_mem_cons.mpr ⟨(xv_tbl_mem 1179 (by decide +kernel) rfl), List.forall_mem_cons.mpr ⟨(xv_tbl_mem 1181 (by decide +kernel) rfl), List.forall_mem_cons.mpr ⟨(xv_tbl_mem 1183 (by decide +kernel) rfl), List.forall_mem_cons.mpr ⟨(xv_tbl_mem 1185 (by decide +kernel) rfl), List.forall_mem_cons.mpr ⟨(xv_tbl_mem 1187 (by decide +kernel) rfl), List.forall_mem_cons.mpr ⟨(xv_tbl_mem 1189 (by decide +kernel) rfl), List.forall_mem_cons.mpr ⟨(xv_tbl_mem 1191 (by decide +kernel) rfl), List.forall_mem_cons.mpr ⟨(xv_tbl_mem 1193 (by decide +kernel) rfl), List.forall_mem_cons.mpr ⟨(xv_tbl_mem 1195 (by decide +kernel) rfl), List.forall_mem_cons.mpr ⟨(xv_tbl_mem 1197 (by decide +kernel) rfl), List.forall_mem_cons.mpr ⟨(xv_tbl_mem 1199 (by decide +kernel) rfl), List.forall_mem_cons.mpr ⟨(xv_tbl_mem 1201 (by decide +kernel) rfl), List.forall_mem_cons.mpr ⟨(xv_tbl_mem 1203 (by decide +kernel) rfl), List.forall_mem_cons.mpr ⟨(xv_tbl_mem 1205 (by decide +kernel) rfl), List.forall_mem_cons.mpr ⟨(xv_tbl_mem 1207 (by decide +kernel) rfl), List.forall_mem_cons.mpr ⟨(xv_tbl_mem 1209 (by decide +kernel) rfl), fun _ h => absurd h List.not_mem_nil⟩⟩⟩⟩⟩⟩⟩⟩⟩⟩⟩⟩⟩⟩⟩⟩⟩⟩⟩⟩⟩⟩⟩⟩⟩⟩⟩⟩⟩⟩⟩⟩⟩⟩⟩⟩⟩⟩⟩⟩⟩⟩⟩⟩⟩⟩⟩⟩⟩
theorem YX0_init : xv_Y mX0_init 6 := ⟨(xv_tbl_mem 452 (by decide +kernel) rfl), (xv_tbl_mem 17 (by decide +kernel) rfl), by decide +kernel, by decide +kernel, by decide +kernel, by decide⟩
theorem VX0_init : Cond.instanceMethod mX0_init.1 ∈ xv_tbl ∧ mX0_init.1.name = "<init>" ∧ mX0_init.2.2.2.1 = none := ⟨(xv_tbl_mem 451 (by decide +kernel) rfl), rfl, rfl⟩
theorem YX0_lowestPage : xv_Y mX0_lowestPage 0 := ⟨(xv_tbl_mem 509 (by decide +kernel) rfl), (xv_tbl_mem 17 (by decide +kernel) rfl), by decide +kernel, by decide +kernel, by decide +kernel, by decide⟩
theorem VX0_lowestPage : Cond.instanceMethod mX0_lowestPage.1 ∈ xv_tbl ∧ Cond.selects mX0_lowestPage.1.cls mX0_lowestPage.1 mX0_lowestPage.1 ∈ xv_tbl ∧ (vwCl[0]?.map fun q => q.1) = some mX0_lowestPage.1.cls := ⟨(xv_tbl_mem 507 (by decide +kernel) rfl), (xv_tbl_mem 508 (by decide +kernel) rfl), rfl⟩
theorem YX0_highestPage : xv_Y mX0_highestPage 0 := ⟨(xv_tbl_mem 513 (by decide +kernel) rfl), (xv_tbl_mem 17 (by decide +kernel) rfl), by decide +kernel, by decide +kernel, by decide +kernel, by decide⟩
theorem VX0_highestPage : Cond.instanceMethod mX0_highestPage.1 ∈ xv_tbl ∧ Cond.selects mX0_highestPage.1.cls mX0_highestPage.1 mX0_highestPage.1 ∈ xv_tbl ∧ (vwCl[0]?.map fun q => q.1) = some mX0_highestPage.1.cls := ⟨(xv_tbl_mem 511 (by decide +kernel) rfl), (xv_tbl_mem 512 (by decide +kernel) rfl), rfl⟩
theorem YX0_isPlaced : xv_Y mX0_isPlaced 0 := ⟨(xv_tbl_mem 504 (by decide +kernel) rfl), (xv_tbl_mem 17 (by decide +kernel) rfl), by decide +kernel, by decide +kernel, by decide +kernel, by decide⟩
theorem VX0_isPlaced : Cond.instanceMethod mX0_isPlaced.1 ∈ xv_tbl ∧ Cond.selects mX0_isPlaced.1.cls mX0_isPlaced.1 mX0_isPlaced.1 ∈ xv_tbl ∧ (vwCl[0]?.map fun q => q.1) = some mX0_isPlaced.1.cls := ⟨(xv_tbl_mem 502 (by decide +kernel) rfl), (xv_tbl_mem 503 (by decide +kernel) rfl), rfl⟩
theorem YX0_putAt : xv_Y mX0_putAt 2 := ⟨(xv_tbl_mem 547 (by decide +kernel) rfl), (xv_tbl_mem 17 (by decide +kernel) rfl), by decide +kernel, by decide +kernel, by decide +kernel, by decide⟩
theorem VX0_putAt : Cond.instanceMethod mX0_putAt.1 ∈ xv_tbl ∧ Cond.selects mX0_putAt.1.cls mX0_putAt.1 mX0_putAt.1 ∈ xv_tbl ∧ (vwCl[0]?.map fun q => q.1) = some mX0_putAt.1.cls := ⟨(xv_tbl_mem 545 (by decide +kernel) rfl), (xv_tbl_mem 546 (by decide +kernel) rfl), rfl⟩
theorem YX0_whereItIs : xv_Y mX0_whereItIs 0 := ⟨(xv_tbl_mem 562 (by decide +kernel) rfl), (xv_tbl_mem 17 (by decide +kernel) rfl), by decide +kernel, by decide +kernel, by decide +kernel, by decide⟩
theorem VX0_whereItIs : Cond.instanceMethod mX0_whereItIs.1 ∈ xv_tbl ∧ Cond.selects mX0_whereItIs.1.cls mX0_whereItIs.1 mX0_whereItIs.1 ∈ xv_tbl ∧ (vwCl[0]?.map fun q => q.1) = some mX0_whereItIs.1.cls := ⟨(xv_tbl_mem 560 (by decide +kernel) rfl), (xv_tbl_mem 561 (by decide +kernel) rfl), rfl⟩
theorem YX1_init : xv_Y mX1_init 0 := ⟨(xv_tbl_mem 118 (by decide +kernel) rfl), (xv_tbl_mem 5 (by decide +kernel) rfl), by decide +kernel, by decide +kernel, by decide +kernel, by decide⟩
theorem VX1_init : Cond.instanceMethod mX1_init.1 ∈ xv_tbl ∧ mX1_init.1.name = "<init>" ∧ mX1_init.2.2.2.1 = none := ⟨(xv_tbl_mem 117 (by decide +kernel) rfl), rfl, rfl⟩
theorem YX1_keep : xv_Y mX1_keep 2 := ⟨(xv_tbl_mem 837 (by decide +kernel) rfl), (xv_tbl_mem 5 (by decide +kernel) rfl), by decide +kernel, by decide +kernel, by decide +kernel, by decide⟩
theorem VX1_keep : Cond.instanceMethod mX1_keep.1 ∈ xv_tbl ∧ Cond.selects mX1_keep.1.cls mX1_keep.1 mX1_keep.1 ∈ xv_tbl ∧ (vwCl[1]?.map fun q => q.1) = some mX1_keep.1.cls := ⟨(xv_tbl_mem 835 (by decide +kernel) rfl), (xv_tbl_mem 836 (by decide +kernel) rfl), rfl⟩
theorem YX1_isKept : xv_Y mX1_isKept 1 := ⟨(xv_tbl_mem 858 (by decide +kernel) rfl), (xv_tbl_mem 5 (by decide +kernel) rfl), by decide +kernel, by decide +kernel, by decide +kernel, by decide⟩
theorem VX1_isKept : Cond.instanceMethod mX1_isKept.1 ∈ xv_tbl ∧ Cond.selects mX1_isKept.1.cls mX1_isKept.1 mX1_isKept.1 ∈ xv_tbl ∧ (vwCl[1]?.map fun q => q.1) = some mX1_isKept.1.cls := ⟨(xv_tbl_mem 857 (by decide +kernel) rfl), (xv_tbl_sel 17 (by decide +kernel) rfl), rfl⟩
theorem YX1_at : xv_Y mX1_at 3 := ⟨(xv_tbl_mem 854 (by decide +kernel) rfl), (xv_tbl_mem 5 (by decide +kernel) rfl), by decide +kernel, by decide +kernel, by decide +kernel, by decide⟩
theorem VX1_at : Cond.instanceMethod mX1_at.1 ∈ xv_tbl ∧ Cond.selects mX1_at.1.cls mX1_at.1 mX1_at.1 ∈ xv_tbl ∧ (vwCl[1]?.map fun q => q.1) = some mX1_at.1.cls := ⟨(xv_tbl_mem 852 (by decide +kernel) rfl), (xv_tbl_mem 853 (by decide +kernel) rfl), rfl⟩
theorem YX1_minuteOf : xv_Y mX1_minuteOf 1 := ⟨(xv_tbl_mem 939 (by decide +kernel) rfl), (xv_tbl_mem 5 (by decide +kernel) rfl), by decide +kernel, by decide +kernel, by decide +kernel, by decide⟩
theorem VX1_minuteOf : Cond.instanceMethod mX1_minuteOf.1 ∈ xv_tbl ∧ Cond.selects mX1_minuteOf.1.cls mX1_minuteOf.1 mX1_minuteOf.1 ∈ xv_tbl ∧ (vwCl[1]?.map fun q => q.1) = some mX1_minuteOf.1.cls := ⟨(xv_tbl_mem 937 (by decide +kernel) rfl), (xv_tbl_mem 938 (by decide +kernel) rfl), rfl⟩
theorem YX1_has : xv_Y mX1_has 2 := ⟨(xv_tbl_mem 871 (by decide +kernel) rfl), (xv_tbl_mem 5 (by decide +kernel) rfl), by decide +kernel, by decide +kernel, by decide +kernel, by decide⟩
theorem VX1_has : Cond.instanceMethod mX1_has.1 ∈ xv_tbl ∧ Cond.selects mX1_has.1.cls mX1_has.1 mX1_has.1 ∈ xv_tbl ∧ (vwCl[1]?.map fun q => q.1) = some mX1_has.1.cls := ⟨(xv_tbl_mem 869 (by decide +kernel) rfl), (xv_tbl_mem 870 (by decide +kernel) rfl), rfl⟩
theorem YX1_owes : xv_Y mX1_owes 1 := ⟨(xv_tbl_mem 876 (by decide +kernel) rfl), (xv_tbl_mem 5 (by decide +kernel) rfl), by decide +kernel, by decide +kernel, by decide +kernel, by decide⟩
theorem VX1_owes : Cond.instanceMethod mX1_owes.1 ∈ xv_tbl ∧ Cond.selects mX1_owes.1.cls mX1_owes.1 mX1_owes.1 ∈ xv_tbl ∧ (vwCl[1]?.map fun q => q.1) = some mX1_owes.1.cls := ⟨(xv_tbl_mem 874 (by decide +kernel) rfl), (xv_tbl_mem 875 (by decide +kernel) rfl), rfl⟩
theorem YX1_addOwed : xv_Y mX1_addOwed 1 := ⟨(xv_tbl_mem 881 (by decide +kernel) rfl), (xv_tbl_mem 5 (by decide +kernel) rfl), by decide +kernel, by decide +kernel, by decide +kernel, by decide⟩
theorem VX1_addOwed : Cond.instanceMethod mX1_addOwed.1 ∈ xv_tbl ∧ Cond.selects mX1_addOwed.1.cls mX1_addOwed.1 mX1_addOwed.1 ∈ xv_tbl ∧ (vwCl[1]?.map fun q => q.1) = some mX1_addOwed.1.cls := ⟨(xv_tbl_mem 879 (by decide +kernel) rfl), (xv_tbl_mem 880 (by decide +kernel) rfl), rfl⟩
theorem YX1_longestOwed : xv_Y mX1_longestOwed 0 := ⟨(xv_tbl_mem 893 (by decide +kernel) rfl), (xv_tbl_mem 5 (by decide +kernel) rfl), by decide +kernel, by decide +kernel, by decide +kernel, by decide⟩
theorem VX1_longestOwed : Cond.instanceMethod mX1_longestOwed.1 ∈ xv_tbl ∧ Cond.selects mX1_longestOwed.1.cls mX1_longestOwed.1 mX1_longestOwed.1 ∈ xv_tbl ∧ (vwCl[1]?.map fun q => q.1) = some mX1_longestOwed.1.cls := ⟨(xv_tbl_mem 891 (by decide +kernel) rfl), (xv_tbl_mem 892 (by decide +kernel) rfl), rfl⟩
theorem YX1_dropLongestOwed : xv_Y mX1_dropLongestOwed 0 := ⟨(xv_tbl_mem 901 (by decide +kernel) rfl), (xv_tbl_mem 5 (by decide +kernel) rfl), by decide +kernel, by decide +kernel, by decide +kernel, by decide⟩
theorem VX1_dropLongestOwed : Cond.instanceMethod mX1_dropLongestOwed.1 ∈ xv_tbl ∧ Cond.selects mX1_dropLongestOwed.1.cls mX1_dropLongestOwed.1 mX1_dropLongestOwed.1 ∈ xv_tbl ∧ (vwCl[1]?.map fun q => q.1) = some mX1_dropLongestOwed.1.cls := ⟨(xv_tbl_mem 899 (by decide +kernel) rfl), (xv_tbl_mem 900 (by decide +kernel) rfl), rfl⟩
theorem YX2_init : xv_Y mX2_init 0 := ⟨(xv_tbl_mem 160 (by decide +kernel) rfl), (xv_tbl_mem 7 (by decide +kernel) rfl), by decide +kernel, by decide +kernel, by decide +kernel, by decide⟩
theorem VX2_init : Cond.instanceMethod mX2_init.1 ∈ xv_tbl ∧ mX2_init.1.name = "<init>" ∧ mX2_init.2.2.2.1 = none := ⟨(xv_tbl_mem 159 (by decide +kernel) rfl), rfl, rfl⟩
theorem YX2_add : xv_Y mX2_add 2 := ⟨(xv_tbl_mem 962 (by decide +kernel) rfl), (xv_tbl_mem 7 (by decide +kernel) rfl), by decide +kernel, by decide +kernel, by decide +kernel, by decide⟩
theorem VX2_add : Cond.instanceMethod mX2_add.1 ∈ xv_tbl ∧ Cond.selects mX2_add.1.cls mX2_add.1 mX2_add.1 ∈ xv_tbl ∧ (vwCl[2]?.map fun q => q.1) = some mX2_add.1.cls := ⟨(xv_tbl_mem 960 (by decide +kernel) rfl), (xv_tbl_mem 961 (by decide +kernel) rfl), rfl⟩
theorem YX2_bestWithin : xv_Y mX2_bestWithin 1 := ⟨(xv_tbl_mem 973 (by decide +kernel) rfl), (xv_tbl_mem 7 (by decide +kernel) rfl), by decide +kernel, by decide +kernel, by decide +kernel, by decide⟩
theorem VX2_bestWithin : Cond.instanceMethod mX2_bestWithin.1 ∈ xv_tbl ∧ Cond.selects mX2_bestWithin.1.cls mX2_bestWithin.1 mX2_bestWithin.1 ∈ xv_tbl ∧ (vwCl[2]?.map fun q => q.1) = some mX2_bestWithin.1.cls := ⟨(xv_tbl_mem 971 (by decide +kernel) rfl), (xv_tbl_mem 972 (by decide +kernel) rfl), rfl⟩
theorem YX2_widthOf : xv_Y mX2_widthOf 1 := ⟨(xv_tbl_mem 977 (by decide +kernel) rfl), (xv_tbl_mem 7 (by decide +kernel) rfl), by decide +kernel, by decide +kernel, by decide +kernel, by decide⟩
theorem VX2_widthOf : Cond.instanceMethod mX2_widthOf.1 ∈ xv_tbl ∧ Cond.selects mX2_widthOf.1.cls mX2_widthOf.1 mX2_widthOf.1 ∈ xv_tbl ∧ (vwCl[2]?.map fun q => q.1) = some mX2_widthOf.1.cls := ⟨(xv_tbl_mem 976 (by decide +kernel) rfl), (xv_tbl_sel 19 (by decide +kernel) rfl), rfl⟩
theorem YX2_isLongFirst : xv_Y mX2_isLongFirst 2 := ⟨(xv_tbl_mem 980 (by decide +kernel) rfl), (xv_tbl_mem 7 (by decide +kernel) rfl), by decide +kernel, by decide +kernel, by decide +kernel, by decide⟩
theorem VX2_isLongFirst : Cond.static mX2_isLongFirst.1 ∈ xv_tbl := (xv_tbl_mem 979 (by decide +kernel) rfl)
theorem YX3_init : xv_Y mX3_init 1 := ⟨(xv_tbl_mem 70 (by decide +kernel) rfl), (xv_tbl_mem 3 (by decide +kernel) rfl), by decide +kernel, by decide +kernel, by decide +kernel, by decide⟩
theorem VX3_init : Cond.instanceMethod mX3_init.1 ∈ xv_tbl ∧ mX3_init.1.name = "<init>" ∧ mX3_init.2.2.2.1 = none := ⟨(xv_tbl_mem 69 (by decide +kernel) rfl), rfl, rfl⟩
theorem YX3_find : xv_Y mX3_find 3 := ⟨(xv_tbl_mem 649 (by decide +kernel) rfl), (xv_tbl_mem 3 (by decide +kernel) rfl), by decide +kernel, by decide +kernel, by decide +kernel, by decide⟩
theorem VX3_find : Cond.instanceMethod mX3_find.1 ∈ xv_tbl ∧ Cond.selects mX3_find.1.cls mX3_find.1 mX3_find.1 ∈ xv_tbl ∧ (vwCl[3]?.map fun q => q.1) = some mX3_find.1.cls := ⟨(xv_tbl_mem 647 (by decide +kernel) rfl), (xv_tbl_mem 648 (by decide +kernel) rfl), rfl⟩
theorem YX3_tryOnePage : xv_Y mX3_tryOnePage 2 := ⟨(xv_tbl_mem 661 (by decide +kernel) rfl), (xv_tbl_mem 3 (by decide +kernel) rfl), by decide +kernel, by decide +kernel, by decide +kernel, by decide⟩
theorem VX3_tryOnePage : Cond.instanceMethod mX3_tryOnePage.1 ∈ xv_tbl ∧ Cond.selects mX3_tryOnePage.1.cls mX3_tryOnePage.1 mX3_tryOnePage.1 ∈ xv_tbl ∧ (vwCl[3]?.map fun q => q.1) = some mX3_tryOnePage.1.cls := ⟨(xv_tbl_mem 660 (by decide +kernel) rfl), (xv_tbl_sel 10 (by decide +kernel) rfl), rfl⟩
theorem YX3_tryTwoPages : xv_Y mX3_tryTwoPages 2 := ⟨(xv_tbl_mem 717 (by decide +kernel) rfl), (xv_tbl_mem 3 (by decide +kernel) rfl), by decide +kernel, by decide +kernel, by decide +kernel, by decide⟩
theorem VX3_tryTwoPages : Cond.instanceMethod mX3_tryTwoPages.1 ∈ xv_tbl ∧ Cond.selects mX3_tryTwoPages.1.cls mX3_tryTwoPages.1 mX3_tryTwoPages.1 ∈ xv_tbl ∧ (vwCl[3]?.map fun q => q.1) = some mX3_tryTwoPages.1.cls := ⟨(xv_tbl_mem 716 (by decide +kernel) rfl), (xv_tbl_sel 14 (by decide +kernel) rfl), rfl⟩
theorem YX3_setRun : xv_Y mX3_setRun 4 := ⟨(xv_tbl_mem 673 (by decide +kernel) rfl), (xv_tbl_mem 3 (by decide +kernel) rfl), by decide +kernel, by decide +kernel, by decide +kernel, by decide⟩
theorem VX3_setRun : Cond.instanceMethod mX3_setRun.1 ∈ xv_tbl ∧ Cond.selects mX3_setRun.1.cls mX3_setRun.1 mX3_setRun.1 ∈ xv_tbl ∧ (vwCl[3]?.map fun q => q.1) = some mX3_setRun.1.cls := ⟨(xv_tbl_mem 672 (by decide +kernel) rfl), (xv_tbl_sel 12 (by decide +kernel) rfl), rfl⟩
theorem YX3_keepIfCheaper : xv_Y mX3_keepIfCheaper 0 := ⟨(xv_tbl_mem 686 (by decide +kernel) rfl), (xv_tbl_mem 3 (by decide +kernel) rfl), by decide +kernel, by decide +kernel, by decide +kernel, by decide⟩
theorem VX3_keepIfCheaper : Cond.instanceMethod mX3_keepIfCheaper.1 ∈ xv_tbl ∧ Cond.selects mX3_keepIfCheaper.1.cls mX3_keepIfCheaper.1 mX3_keepIfCheaper.1 ∈ xv_tbl ∧ (vwCl[3]?.map fun q => q.1) = some mX3_keepIfCheaper.1.cls := ⟨(xv_tbl_mem 685 (by decide +kernel) rfl), (xv_tbl_sel 13 (by decide +kernel) rfl), rfl⟩
theorem YX4_init : xv_Y mX4_init 0 := ⟨(xv_tbl_mem 194 (by decide +kernel) rfl), (xv_tbl_mem 9 (by decide +kernel) rfl), by decide +kernel, by decide +kernel, by decide +kernel, by decide⟩
theorem VX4_init : Cond.instanceMethod mX4_init.1 ∈ xv_tbl ∧ mX4_init.1.name = "<init>" ∧ mX4_init.2.2.2.1 = none := ⟨(xv_tbl_mem 193 (by decide +kernel) rfl), rfl, rfl⟩
theorem YX4_setRow : xv_Y mX4_setRow 2 := ⟨(xv_tbl_mem 1056 (by decide +kernel) rfl), (xv_tbl_mem 9 (by decide +kernel) rfl), by decide +kernel, by decide +kernel, by decide +kernel, by decide⟩
theorem VX4_setRow : Cond.instanceMethod mX4_setRow.1 ∈ xv_tbl ∧ Cond.selects mX4_setRow.1.cls mX4_setRow.1 mX4_setRow.1 ∈ xv_tbl ∧ (vwCl[4]?.map fun q => q.1) = some mX4_setRow.1.cls := ⟨(xv_tbl_mem 1054 (by decide +kernel) rfl), (xv_tbl_mem 1055 (by decide +kernel) rfl), rfl⟩
theorem YX4_countSolutions : xv_Y mX4_countSolutions 0 := ⟨(xv_tbl_mem 267 (by decide +kernel) rfl), (xv_tbl_mem 9 (by decide +kernel) rfl), by decide +kernel, by decide +kernel, by decide +kernel, by decide⟩
theorem VX4_countSolutions : Cond.instanceMethod mX4_countSolutions.1 ∈ xv_tbl ∧ Cond.selects mX4_countSolutions.1.cls mX4_countSolutions.1 mX4_countSolutions.1 ∈ xv_tbl ∧ (vwCl[4]?.map fun q => q.1) = some mX4_countSolutions.1.cls := ⟨(xv_tbl_mem 265 (by decide +kernel) rfl), (xv_tbl_mem 266 (by decide +kernel) rfl), rfl⟩
theorem YX4_countFrom : xv_Y mX4_countFrom 2 := ⟨(xv_tbl_mem 270 (by decide +kernel) rfl), (xv_tbl_mem 9 (by decide +kernel) rfl), by decide +kernel, by decide +kernel, by decide +kernel, by decide⟩
theorem VX4_countFrom : Cond.static mX4_countFrom.1 ∈ xv_tbl := (xv_tbl_mem 269 (by decide +kernel) rfl)
theorem YX4_quarterOf : xv_Y mX4_quarterOf 2 := ⟨(xv_tbl_mem 277 (by decide +kernel) rfl), (xv_tbl_mem 9 (by decide +kernel) rfl), by decide +kernel, by decide +kernel, by decide +kernel, by decide⟩
theorem VX4_quarterOf : Cond.static mX4_quarterOf.1 ∈ xv_tbl := (xv_tbl_mem 276 (by decide +kernel) rfl)
theorem YX4_isOpen : xv_Y mX4_isOpen 2 := ⟨(xv_tbl_mem 274 (by decide +kernel) rfl), (xv_tbl_mem 9 (by decide +kernel) rfl), by decide +kernel, by decide +kernel, by decide +kernel, by decide⟩
theorem VX4_isOpen : Cond.instanceMethod mX4_isOpen.1 ∈ xv_tbl ∧ Cond.selects mX4_isOpen.1.cls mX4_isOpen.1 mX4_isOpen.1 ∈ xv_tbl ∧ (vwCl[4]?.map fun q => q.1) = some mX4_isOpen.1.cls := ⟨(xv_tbl_mem 273 (by decide +kernel) rfl), (xv_tbl_sel 0 (by decide +kernel) rfl), rfl⟩
theorem YX4_turn : xv_Y mX4_turn 2 := ⟨(xv_tbl_mem 281 (by decide +kernel) rfl), (xv_tbl_mem 9 (by decide +kernel) rfl), by decide +kernel, by decide +kernel, by decide +kernel, by decide⟩
theorem VX4_turn : Cond.instanceMethod mX4_turn.1 ∈ xv_tbl ∧ Cond.selects mX4_turn.1.cls mX4_turn.1 mX4_turn.1 ∈ xv_tbl ∧ (vwCl[4]?.map fun q => q.1) = some mX4_turn.1.cls := ⟨(xv_tbl_mem 280 (by decide +kernel) rfl), (xv_tbl_sel 1 (by decide +kernel) rfl), rfl⟩
theorem YX5_init : xv_Y mX5_init 0 := ⟨(xv_tbl_mem 33 (by decide +kernel) rfl), (xv_tbl_mem 2 (by decide +kernel) rfl), by decide +kernel, by decide +kernel, by decide +kernel, by decide⟩
theorem VX5_init : Cond.instanceMethod mX5_init.1 ∈ xv_tbl ∧ mX5_init.1.name = "<init>" ∧ mX5_init.2.2.2.1 = none := ⟨(xv_tbl_mem 32 (by decide +kernel) rfl), rfl, rfl⟩
theorem YX5_setKind : xv_Y mX5_setKind 3 := ⟨(xv_tbl_mem 416 (by decide +kernel) rfl), (xv_tbl_mem 2 (by decide +kernel) rfl), by decide +kernel, by decide +kernel, by decide +kernel, by decide⟩
theorem VX5_setKind : Cond.instanceMethod mX5_setKind.1 ∈ xv_tbl ∧ Cond.selects mX5_setKind.1.cls mX5_setKind.1 mX5_setKind.1 ∈ xv_tbl ∧ (vwCl[5]?.map fun q => q.1) = some mX5_setKind.1.cls := ⟨(xv_tbl_mem 414 (by decide +kernel) rfl), (xv_tbl_mem 415 (by decide +kernel) rfl), rfl⟩
theorem YX5_sectionOf : xv_Y mX5_sectionOf 1 := ⟨(xv_tbl_mem 521 (by decide +kernel) rfl), (xv_tbl_mem 2 (by decide +kernel) rfl), by decide +kernel, by decide +kernel, by decide +kernel, by decide⟩
theorem VX5_sectionOf : Cond.instanceMethod mX5_sectionOf.1 ∈ xv_tbl ∧ Cond.selects mX5_sectionOf.1.cls mX5_sectionOf.1 mX5_sectionOf.1 ∈ xv_tbl ∧ (vwCl[5]?.map fun q => q.1) = some mX5_sectionOf.1.cls := ⟨(xv_tbl_mem 519 (by decide +kernel) rfl), (xv_tbl_mem 520 (by decide +kernel) rfl), rfl⟩
theorem YX5_hasColour : xv_Y mX5_hasColour 1 := ⟨(xv_tbl_mem 525 (by decide +kernel) rfl), (xv_tbl_mem 2 (by decide +kernel) rfl), by decide +kernel, by decide +kernel, by decide +kernel, by decide⟩
theorem VX5_hasColour : Cond.instanceMethod mX5_hasColour.1 ∈ xv_tbl ∧ Cond.selects mX5_hasColour.1.cls mX5_hasColour.1 mX5_hasColour.1 ∈ xv_tbl ∧ (vwCl[5]?.map fun q => q.1) = some mX5_hasColour.1.cls := ⟨(xv_tbl_mem 523 (by decide +kernel) rfl), (xv_tbl_mem 524 (by decide +kernel) rfl), rfl⟩
theorem YX5_at : xv_Y mX5_at 2 := ⟨(xv_tbl_mem 392 (by decide +kernel) rfl), (xv_tbl_mem 2 (by decide +kernel) rfl), by decide +kernel, by decide +kernel, by decide +kernel, by decide⟩
theorem VX5_at : Cond.instanceMethod mX5_at.1 ∈ xv_tbl ∧ Cond.selects mX5_at.1.cls mX5_at.1 mX5_at.1 ∈ xv_tbl ∧ (vwCl[5]?.map fun q => q.1) = some mX5_at.1.cls := ⟨(xv_tbl_mem 390 (by decide +kernel) rfl), (xv_tbl_mem 391 (by decide +kernel) rfl), rfl⟩
theorem YX5_put : xv_Y mX5_put 3 := ⟨(xv_tbl_mem 555 (by decide +kernel) rfl), (xv_tbl_mem 2 (by decide +kernel) rfl), by decide +kernel, by decide +kernel, by decide +kernel, by decide⟩
theorem VX5_put : Cond.instanceMethod mX5_put.1 ∈ xv_tbl ∧ Cond.selects mX5_put.1.cls mX5_put.1 mX5_put.1 ∈ xv_tbl ∧ (vwCl[5]?.map fun q => q.1) = some mX5_put.1.cls := ⟨(xv_tbl_mem 553 (by decide +kernel) rfl), (xv_tbl_mem 554 (by decide +kernel) rfl), rfl⟩
theorem YX5_isBare : xv_Y mX5_isBare 1 := ⟨(xv_tbl_mem 388 (by decide +kernel) rfl), (xv_tbl_mem 2 (by decide +kernel) rfl), by decide +kernel, by decide +kernel, by decide +kernel, by decide⟩
theorem VX5_isBare : Cond.instanceMethod mX5_isBare.1 ∈ xv_tbl ∧ Cond.selects mX5_isBare.1.cls mX5_isBare.1 mX5_isBare.1 ∈ xv_tbl ∧ (vwCl[5]?.map fun q => q.1) = some mX5_isBare.1.cls := ⟨(xv_tbl_mem 386 (by decide +kernel) rfl), (xv_tbl_mem 387 (by decide +kernel) rfl), rfl⟩
theorem YX5_lowestFree : xv_Y mX5_lowestFree 1 := ⟨(xv_tbl_mem 897 (by decide +kernel) rfl), (xv_tbl_mem 2 (by decide +kernel) rfl), by decide +kernel, by decide +kernel, by decide +kernel, by decide⟩
theorem VX5_lowestFree : Cond.instanceMethod mX5_lowestFree.1 ∈ xv_tbl ∧ Cond.selects mX5_lowestFree.1.cls mX5_lowestFree.1 mX5_lowestFree.1 ∈ xv_tbl ∧ (vwCl[5]?.map fun q => q.1) = some mX5_lowestFree.1.cls := ⟨(xv_tbl_mem 895 (by decide +kernel) rfl), (xv_tbl_mem 896 (by decide +kernel) rfl), rfl⟩
theorem YX5_freeAllOf : xv_Y mX5_freeAllOf 1 := ⟨(xv_tbl_mem 574 (by decide +kernel) rfl), (xv_tbl_mem 2 (by decide +kernel) rfl), by decide +kernel, by decide +kernel, by decide +kernel, by decide⟩
theorem VX5_freeAllOf : Cond.instanceMethod mX5_freeAllOf.1 ∈ xv_tbl ∧ Cond.selects mX5_freeAllOf.1.cls mX5_freeAllOf.1 mX5_freeAllOf.1 ∈ xv_tbl ∧ (vwCl[5]?.map fun q => q.1) = some mX5_freeAllOf.1.cls := ⟨(xv_tbl_mem 572 (by decide +kernel) rfl), (xv_tbl_mem 573 (by decide +kernel) rfl), rfl⟩
theorem YX5_platesOf : xv_Y mX5_platesOf 1 := ⟨(xv_tbl_mem 748 (by decide +kernel) rfl), (xv_tbl_mem 2 (by decide +kernel) rfl), by decide +kernel, by decide +kernel, by decide +kernel, by decide⟩
theorem VX5_platesOf : Cond.instanceMethod mX5_platesOf.1 ∈ xv_tbl ∧ Cond.selects mX5_platesOf.1.cls mX5_platesOf.1 mX5_platesOf.1 ∈ xv_tbl ∧ (vwCl[5]?.map fun q => q.1) = some mX5_platesOf.1.cls := ⟨(xv_tbl_mem 746 (by decide +kernel) rfl), (xv_tbl_mem 747 (by decide +kernel) rfl), rfl⟩
theorem YX5_freeRectangle : xv_Y mX5_freeRectangle 3 := ⟨(xv_tbl_mem 539 (by decide +kernel) rfl), (xv_tbl_mem 2 (by decide +kernel) rfl), by decide +kernel, by decide +kernel, by decide +kernel, by decide⟩
theorem VX5_freeRectangle : Cond.instanceMethod mX5_freeRectangle.1 ∈ xv_tbl ∧ Cond.selects mX5_freeRectangle.1.cls mX5_freeRectangle.1 mX5_freeRectangle.1 ∈ xv_tbl ∧ (vwCl[5]?.map fun q => q.1) = some mX5_freeRectangle.1.cls := ⟨(xv_tbl_mem 537 (by decide +kernel) rfl), (xv_tbl_mem 538 (by decide +kernel) rfl), rfl⟩
theorem YX5_isFreeRectangle : xv_Y mX5_isFreeRectangle 4 := ⟨(xv_tbl_mem 543 (by decide +kernel) rfl), (xv_tbl_mem 2 (by decide +kernel) rfl), by decide +kernel, by decide +kernel, by decide +kernel, by decide⟩
theorem VX5_isFreeRectangle : Cond.instanceMethod mX5_isFreeRectangle.1 ∈ xv_tbl ∧ Cond.selects mX5_isFreeRectangle.1.cls mX5_isFreeRectangle.1 mX5_isFreeRectangle.1 ∈ xv_tbl ∧ (vwCl[5]?.map fun q => q.1) = some mX5_isFreeRectangle.1.cls := ⟨(xv_tbl_mem 542 (by decide +kernel) rfl), (xv_tbl_sel 7 (by decide +kernel) rfl), rfl⟩
theorem YX5_fillRectangle : xv_Y mX5_fillRectangle 2 := ⟨(xv_tbl_mem 551 (by decide +kernel) rfl), (xv_tbl_mem 2 (by decide +kernel) rfl), by decide +kernel, by decide +kernel, by decide +kernel, by decide⟩
theorem VX5_fillRectangle : Cond.instanceMethod mX5_fillRectangle.1 ∈ xv_tbl ∧ Cond.selects mX5_fillRectangle.1.cls mX5_fillRectangle.1 mX5_fillRectangle.1 ∈ xv_tbl ∧ (vwCl[5]?.map fun q => q.1) = some mX5_fillRectangle.1.cls := ⟨(xv_tbl_mem 549 (by decide +kernel) rfl), (xv_tbl_mem 550 (by decide +kernel) rfl), rfl⟩
theorem YX5_freeRun : xv_Y mX5_freeRun 3 := ⟨(xv_tbl_mem 678 (by decide +kernel) rfl), (xv_tbl_mem 2 (by decide +kernel) rfl), by decide +kernel, by decide +kernel, by decide +kernel, by decide⟩
theorem VX5_freeRun : Cond.instanceMethod mX5_freeRun.1 ∈ xv_tbl ∧ Cond.selects mX5_freeRun.1.cls mX5_freeRun.1 mX5_freeRun.1 ∈ xv_tbl ∧ (vwCl[5]?.map fun q => q.1) = some mX5_freeRun.1.cls := ⟨(xv_tbl_mem 676 (by decide +kernel) rfl), (xv_tbl_mem 677 (by decide +kernel) rfl), rfl⟩
theorem YX5_isThere : xv_Y mX5_isThere 1 := ⟨(xv_tbl_mem 771 (by decide +kernel) rfl), (xv_tbl_mem 2 (by decide +kernel) rfl), by decide +kernel, by decide +kernel, by decide +kernel, by decide⟩
theorem VX5_isThere : Cond.instanceMethod mX5_isThere.1 ∈ xv_tbl ∧ Cond.selects mX5_isThere.1.cls mX5_isThere.1 mX5_isThere.1 ∈ xv_tbl ∧ (vwCl[5]?.map fun q => q.1) = some mX5_isThere.1.cls := ⟨(xv_tbl_mem 769 (by decide +kernel) rfl), (xv_tbl_mem 770 (by decide +kernel) rfl), rfl⟩
theorem YX5_letLeave : xv_Y mX5_letLeave 1 := ⟨(xv_tbl_mem 775 (by decide +kernel) rfl), (xv_tbl_mem 2 (by decide +kernel) rfl), by decide +kernel, by decide +kernel, by decide +kernel, by decide⟩
theorem VX5_letLeave : Cond.instanceMethod mX5_letLeave.1 ∈ xv_tbl ∧ Cond.selects mX5_letLeave.1.cls mX5_letLeave.1 mX5_letLeave.1 ∈ xv_tbl ∧ (vwCl[5]?.map fun q => q.1) = some mX5_letLeave.1.cls := ⟨(xv_tbl_mem 773 (by decide +kernel) rfl), (xv_tbl_mem 774 (by decide +kernel) rfl), rfl⟩
theorem YX5_letComeBack : xv_Y mX5_letComeBack 1 := ⟨(xv_tbl_mem 779 (by decide +kernel) rfl), (xv_tbl_mem 2 (by decide +kernel) rfl), by decide +kernel, by decide +kernel, by decide +kernel, by decide⟩
theorem VX5_letComeBack : Cond.instanceMethod mX5_letComeBack.1 ∈ xv_tbl ∧ Cond.selects mX5_letComeBack.1.cls mX5_letComeBack.1 mX5_letComeBack.1 ∈ xv_tbl ∧ (vwCl[5]?.map fun q => q.1) = some mX5_letComeBack.1.cls := ⟨(xv_tbl_mem 777 (by decide +kernel) rfl), (xv_tbl_mem 778 (by decide +kernel) rfl), rfl⟩
theorem YX5_hasSigned : xv_Y mX5_hasSigned 2 := ⟨(xv_tbl_mem 790 (by decide +kernel) rfl), (xv_tbl_mem 2 (by decide +kernel) rfl), by decide +kernel, by decide +kernel, by decide +kernel, by decide⟩
theorem VX5_hasSigned : Cond.instanceMethod mX5_hasSigned.1 ∈ xv_tbl ∧ Cond.selects mX5_hasSigned.1.cls mX5_hasSigned.1 mX5_hasSigned.1 ∈ xv_tbl ∧ (vwCl[5]?.map fun q => q.1) = some mX5_hasSigned.1.cls := ⟨(xv_tbl_mem 788 (by decide +kernel) rfl), (xv_tbl_mem 789 (by decide +kernel) rfl), rfl⟩
theorem YX5_addSignature : xv_Y mX5_addSignature 2 := ⟨(xv_tbl_mem 795 (by decide +kernel) rfl), (xv_tbl_mem 2 (by decide +kernel) rfl), by decide +kernel, by decide +kernel, by decide +kernel, by decide⟩
theorem VX5_addSignature : Cond.instanceMethod mX5_addSignature.1 ∈ xv_tbl ∧ Cond.selects mX5_addSignature.1.cls mX5_addSignature.1 mX5_addSignature.1 ∈ xv_tbl ∧ (vwCl[5]?.map fun q => q.1) = some mX5_addSignature.1.cls := ⟨(xv_tbl_mem 793 (by decide +kernel) rfl), (xv_tbl_mem 794 (by decide +kernel) rfl), rfl⟩
theorem YX5_turnHold : xv_Y mX5_turnHold 2 := ⟨(xv_tbl_mem 808 (by decide +kernel) rfl), (xv_tbl_mem 2 (by decide +kernel) rfl), by decide +kernel, by decide +kernel, by decide +kernel, by decide⟩
theorem VX5_turnHold : Cond.instanceMethod mX5_turnHold.1 ∈ xv_tbl ∧ Cond.selects mX5_turnHold.1.cls mX5_turnHold.1 mX5_turnHold.1 ∈ xv_tbl ∧ (vwCl[5]?.map fun q => q.1) = some mX5_turnHold.1.cls := ⟨(xv_tbl_mem 806 (by decide +kernel) rfl), (xv_tbl_mem 807 (by decide +kernel) rfl), rfl⟩
theorem YX5_canGo : xv_Y mX5_canGo 1 := ⟨(xv_tbl_mem 819 (by decide +kernel) rfl), (xv_tbl_mem 2 (by decide +kernel) rfl), by decide +kernel, by decide +kernel, by decide +kernel, by decide⟩
theorem VX5_canGo : Cond.instanceMethod mX5_canGo.1 ∈ xv_tbl ∧ Cond.selects mX5_canGo.1.cls mX5_canGo.1 mX5_canGo.1 ∈ xv_tbl ∧ (vwCl[5]?.map fun q => q.1) = some mX5_canGo.1.cls := ⟨(xv_tbl_mem 817 (by decide +kernel) rfl), (xv_tbl_mem 818 (by decide +kernel) rfl), rfl⟩
theorem YX5_canAllGo : xv_Y mX5_canAllGo 0 := ⟨(xv_tbl_mem 831 (by decide +kernel) rfl), (xv_tbl_mem 2 (by decide +kernel) rfl), by decide +kernel, by decide +kernel, by decide +kernel, by decide⟩
theorem VX5_canAllGo : Cond.instanceMethod mX5_canAllGo.1 ∈ xv_tbl ∧ Cond.selects mX5_canAllGo.1.cls mX5_canAllGo.1 mX5_canAllGo.1 ∈ xv_tbl ∧ (vwCl[5]?.map fun q => q.1) = some mX5_canAllGo.1.cls := ⟨(xv_tbl_mem 829 (by decide +kernel) rfl), (xv_tbl_mem 830 (by decide +kernel) rfl), rfl⟩
theorem YX6_init : xv_Y mX6_init 4 := ⟨(xv_tbl_mem 600 (by decide +kernel) rfl), (xv_tbl_mem 18 (by decide +kernel) rfl), by decide +kernel, by decide +kernel, by decide +kernel, by decide⟩
theorem VX6_init : Cond.instanceMethod mX6_init.1 ∈ xv_tbl ∧ mX6_init.1.name = "<init>" ∧ mX6_init.2.2.2.1 = none := ⟨(xv_tbl_mem 599 (by decide +kernel) rfl), rfl, rfl⟩
theorem YX6_isLaid : xv_Y mX6_isLaid 0 := ⟨(xv_tbl_mem 644 (by decide +kernel) rfl), (xv_tbl_mem 18 (by decide +kernel) rfl), by decide +kernel, by decide +kernel, by decide +kernel, by decide⟩
theorem VX6_isLaid : Cond.instanceMethod mX6_isLaid.1 ∈ xv_tbl ∧ Cond.selects mX6_isLaid.1.cls mX6_isLaid.1 mX6_isLaid.1 ∈ xv_tbl ∧ (vwCl[6]?.map fun q => q.1) = some mX6_isLaid.1.cls := ⟨(xv_tbl_mem 642 (by decide +kernel) rfl), (xv_tbl_mem 643 (by decide +kernel) rfl), rfl⟩
theorem YX6_linesOfFirst : xv_Y mX6_linesOfFirst 1 := ⟨(xv_tbl_mem 669 (by decide +kernel) rfl), (xv_tbl_mem 18 (by decide +kernel) rfl), by decide +kernel, by decide +kernel, by decide +kernel, by decide⟩
theorem VX6_linesOfFirst : Cond.instanceMethod mX6_linesOfFirst.1 ∈ xv_tbl ∧ Cond.selects mX6_linesOfFirst.1.cls mX6_linesOfFirst.1 mX6_linesOfFirst.1 ∈ xv_tbl ∧ (vwCl[6]?.map fun q => q.1) = some mX6_linesOfFirst.1.cls := ⟨(xv_tbl_mem 668 (by decide +kernel) rfl), (xv_tbl_sel 11 (by decide +kernel) rfl), rfl⟩
theorem YX6_cellsFor : xv_Y mX6_cellsFor 2 := ⟨(xv_tbl_mem 665 (by decide +kernel) rfl), (xv_tbl_mem 18 (by decide +kernel) rfl), by decide +kernel, by decide +kernel, by decide +kernel, by decide⟩
theorem VX6_cellsFor : Cond.instanceMethod mX6_cellsFor.1 ∈ xv_tbl ∧ Cond.selects mX6_cellsFor.1.cls mX6_cellsFor.1 mX6_cellsFor.1 ∈ xv_tbl ∧ (vwCl[6]?.map fun q => q.1) = some mX6_cellsFor.1.cls := ⟨(xv_tbl_mem 663 (by decide +kernel) rfl), (xv_tbl_mem 664 (by decide +kernel) rfl), rfl⟩
theorem YX7_init : xv_Y mX7_init 0 := ⟨(xv_tbl_mem 143 (by decide +kernel) rfl), (xv_tbl_mem 6 (by decide +kernel) rfl), by decide +kernel, by decide +kernel, by decide +kernel, by decide⟩
theorem VX7_init : Cond.instanceMethod mX7_init.1 ∈ xv_tbl ∧ mX7_init.1.name = "<init>" ∧ mX7_init.2.2.2.1 = none := ⟨(xv_tbl_mem 142 (by decide +kernel) rfl), rfl, rfl⟩
theorem YX7_add : xv_Y mX7_add 2 := ⟨(xv_tbl_mem 927 (by decide +kernel) rfl), (xv_tbl_mem 6 (by decide +kernel) rfl), by decide +kernel, by decide +kernel, by decide +kernel, by decide⟩
theorem VX7_add : Cond.instanceMethod mX7_add.1 ∈ xv_tbl ∧ Cond.selects mX7_add.1.cls mX7_add.1 mX7_add.1 ∈ xv_tbl ∧ (vwCl[7]?.map fun q => q.1) = some mX7_add.1.cls := ⟨(xv_tbl_mem 925 (by decide +kernel) rfl), (xv_tbl_mem 926 (by decide +kernel) rfl), rfl⟩
theorem YX7_minutesLate : xv_Y mX7_minutesLate 2 := ⟨(xv_tbl_mem 943 (by decide +kernel) rfl), (xv_tbl_mem 6 (by decide +kernel) rfl), by decide +kernel, by decide +kernel, by decide +kernel, by decide⟩
theorem VX7_minutesLate : Cond.instanceMethod mX7_minutesLate.1 ∈ xv_tbl ∧ Cond.selects mX7_minutesLate.1.cls mX7_minutesLate.1 mX7_minutesLate.1 ∈ xv_tbl ∧ (vwCl[7]?.map fun q => q.1) = some mX7_minutesLate.1.cls := ⟨(xv_tbl_mem 941 (by decide +kernel) rfl), (xv_tbl_mem 942 (by decide +kernel) rfl), rfl⟩
theorem YX7_isAhead : xv_Y mX7_isAhead 2 := ⟨(xv_tbl_mem 947 (by decide +kernel) rfl), (xv_tbl_mem 6 (by decide +kernel) rfl), by decide +kernel, by decide +kernel, by decide +kernel, by decide⟩
theorem VX7_isAhead : Cond.instanceMethod mX7_isAhead.1 ∈ xv_tbl ∧ Cond.selects mX7_isAhead.1.cls mX7_isAhead.1 mX7_isAhead.1 ∈ xv_tbl ∧ (vwCl[7]?.map fun q => q.1) = some mX7_isAhead.1.cls := ⟨(xv_tbl_mem 946 (by decide +kernel) rfl), (xv_tbl_sel 18 (by decide +kernel) rfl), rfl⟩
theorem YX8_init : xv_Y mX8_init 0 := ⟨(xv_tbl_mem 76 (by decide +kernel) rfl), (xv_tbl_mem 4 (by decide +kernel) rfl), by decide +kernel, by decide +kernel, by decide +kernel, by decide⟩
theorem VX8_init : Cond.instanceMethod mX8_init.1 ∈ xv_tbl ∧ mX8_init.1.name = "<init>" ∧ mX8_init.2.2.2.1 = none := ⟨(xv_tbl_mem 75 (by decide +kernel) rfl), rfl, rfl⟩
theorem YX8_clear : xv_Y mX8_clear 0 := ⟨(xv_tbl_mem 653 (by decide +kernel) rfl), (xv_tbl_mem 4 (by decide +kernel) rfl), by decide +kernel, by decide +kernel, by decide +kernel, by decide⟩
theorem VX8_clear : Cond.instanceMethod mX8_clear.1 ∈ xv_tbl ∧ Cond.selects mX8_clear.1.cls mX8_clear.1 mX8_clear.1 ∈ xv_tbl ∧ (vwCl[8]?.map fun q => q.1) = some mX8_clear.1.cls := ⟨(xv_tbl_mem 651 (by decide +kernel) rfl), (xv_tbl_mem 652 (by decide +kernel) rfl), rfl⟩
theorem YX8_setPart : xv_Y mX8_setPart 4 := ⟨(xv_tbl_mem 657 (by decide +kernel) rfl), (xv_tbl_mem 4 (by decide +kernel) rfl), by decide +kernel, by decide +kernel, by decide +kernel, by decide⟩
theorem VX8_setPart : Cond.instanceMethod mX8_setPart.1 ∈ xv_tbl ∧ Cond.selects mX8_setPart.1.cls mX8_setPart.1 mX8_setPart.1 ∈ xv_tbl ∧ (vwCl[8]?.map fun q => q.1) = some mX8_setPart.1.cls := ⟨(xv_tbl_mem 655 (by decide +kernel) rfl), (xv_tbl_mem 656 (by decide +kernel) rfl), rfl⟩
theorem YX8_copy : xv_Y mX8_copy 1 := ⟨(xv_tbl_mem 701 (by decide +kernel) rfl), (xv_tbl_mem 4 (by decide +kernel) rfl), by decide +kernel, by decide +kernel, by decide +kernel, by decide⟩
theorem VX8_copy : Cond.instanceMethod mX8_copy.1 ∈ xv_tbl ∧ Cond.selects mX8_copy.1.cls mX8_copy.1 mX8_copy.1 ∈ xv_tbl ∧ (vwCl[8]?.map fun q => q.1) = some mX8_copy.1.cls := ⟨(xv_tbl_mem 699 (by decide +kernel) rfl), (xv_tbl_mem 700 (by decide +kernel) rfl), rfl⟩
theorem YX8_pageOf : xv_Y mX8_pageOf 1 := ⟨(xv_tbl_mem 705 (by decide +kernel) rfl), (xv_tbl_mem 4 (by decide +kernel) rfl), by decide +kernel, by decide +kernel, by decide +kernel, by decide⟩
theorem VX8_pageOf : Cond.instanceMethod mX8_pageOf.1 ∈ xv_tbl ∧ Cond.selects mX8_pageOf.1.cls mX8_pageOf.1 mX8_pageOf.1 ∈ xv_tbl ∧ (vwCl[8]?.map fun q => q.1) = some mX8_pageOf.1.cls := ⟨(xv_tbl_mem 703 (by decide +kernel) rfl), (xv_tbl_mem 704 (by decide +kernel) rfl), rfl⟩
theorem YX8_start : xv_Y mX8_start 1 := ⟨(xv_tbl_mem 709 (by decide +kernel) rfl), (xv_tbl_mem 4 (by decide +kernel) rfl), by decide +kernel, by decide +kernel, by decide +kernel, by decide⟩
theorem VX8_start : Cond.instanceMethod mX8_start.1 ∈ xv_tbl ∧ Cond.selects mX8_start.1.cls mX8_start.1 mX8_start.1 ∈ xv_tbl ∧ (vwCl[8]?.map fun q => q.1) = some mX8_start.1.cls := ⟨(xv_tbl_mem 707 (by decide +kernel) rfl), (xv_tbl_mem 708 (by decide +kernel) rfl), rfl⟩
theorem YX8_size : xv_Y mX8_size 1 := ⟨(xv_tbl_mem 713 (by decide +kernel) rfl), (xv_tbl_mem 4 (by decide +kernel) rfl), by decide +kernel, by decide +kernel, by decide +kernel, by decide⟩
theorem VX8_size : Cond.instanceMethod mX8_size.1 ∈ xv_tbl ∧ Cond.selects mX8_size.1.cls mX8_size.1 mX8_size.1 ∈ xv_tbl ∧ (vwCl[8]?.map fun q => q.1) = some mX8_size.1.cls := ⟨(xv_tbl_mem 711 (by decide +kernel) rfl), (xv_tbl_mem 712 (by decide +kernel) rfl), rfl⟩
theorem YX8_plates : xv_Y mX8_plates 0 := ⟨(xv_tbl_mem 690 (by decide +kernel) rfl), (xv_tbl_mem 4 (by decide +kernel) rfl), by decide +kernel, by decide +kernel, by decide +kernel, by decide⟩
theorem VX8_plates : Cond.instanceMethod mX8_plates.1 ∈ xv_tbl ∧ Cond.selects mX8_plates.1.cls mX8_plates.1 mX8_plates.1 ∈ xv_tbl ∧ (vwCl[8]?.map fun q => q.1) = some mX8_plates.1.cls := ⟨(xv_tbl_mem 688 (by decide +kernel) rfl), (xv_tbl_mem 689 (by decide +kernel) rfl), rfl⟩
theorem YX9_init : xv_Y mX9_init 0 := ⟨(xv_tbl_mem 177 (by decide +kernel) rfl), (xv_tbl_mem 8 (by decide +kernel) rfl), by decide +kernel, by decide +kernel, by decide +kernel, by decide⟩
theorem VX9_init : Cond.instanceMethod mX9_init.1 ∈ xv_tbl ∧ mX9_init.1.name = "<init>" ∧ mX9_init.2.2.2.1 = none := ⟨(xv_tbl_mem 176 (by decide +kernel) rfl), rfl, rfl⟩
theorem YX9_firstAlike : xv_Y mX9_firstAlike 1 := ⟨(xv_tbl_mem 1014 (by decide +kernel) rfl), (xv_tbl_mem 8 (by decide +kernel) rfl), by decide +kernel, by decide +kernel, by decide +kernel, by decide⟩
theorem VX9_firstAlike : Cond.instanceMethod mX9_firstAlike.1 ∈ xv_tbl ∧ Cond.selects mX9_firstAlike.1.cls mX9_firstAlike.1 mX9_firstAlike.1 ∈ xv_tbl ∧ (vwCl[9]?.map fun q => q.1) = some mX9_firstAlike.1.cls := ⟨(xv_tbl_mem 1012 (by decide +kernel) rfl), (xv_tbl_mem 1013 (by decide +kernel) rfl), rfl⟩
theorem YX9_merge : xv_Y mX9_merge 3 := ⟨(xv_tbl_mem 1019 (by decide +kernel) rfl), (xv_tbl_mem 8 (by decide +kernel) rfl), by decide +kernel, by decide +kernel, by decide +kernel, by decide⟩
theorem VX9_merge : Cond.instanceMethod mX9_merge.1 ∈ xv_tbl ∧ Cond.selects mX9_merge.1.cls mX9_merge.1 mX9_merge.1 ∈ xv_tbl ∧ (vwCl[9]?.map fun q => q.1) = some mX9_merge.1.cls := ⟨(xv_tbl_mem 1017 (by decide +kernel) rfl), (xv_tbl_mem 1018 (by decide +kernel) rfl), rfl⟩
theorem YX9_add : xv_Y mX9_add 2 := ⟨(xv_tbl_mem 1025 (by decide +kernel) rfl), (xv_tbl_mem 8 (by decide +kernel) rfl), by decide +kernel, by decide +kernel, by decide +kernel, by decide⟩
theorem VX9_add : Cond.instanceMethod mX9_add.1 ∈ xv_tbl ∧ Cond.selects mX9_add.1.cls mX9_add.1 mX9_add.1 ∈ xv_tbl ∧ (vwCl[9]?.map fun q => q.1) = some mX9_add.1.cls := ⟨(xv_tbl_mem 1023 (by decide +kernel) rfl), (xv_tbl_mem 1024 (by decide +kernel) rfl), rfl⟩
theorem YX9_mostUrgent : xv_Y mX9_mostUrgent 0 := ⟨(xv_tbl_mem 1037 (by decide +kernel) rfl), (xv_tbl_mem 8 (by decide +kernel) rfl), by decide +kernel, by decide +kernel, by decide +kernel, by decide⟩
theorem VX9_mostUrgent : Cond.instanceMethod mX9_mostUrgent.1 ∈ xv_tbl ∧ Cond.selects mX9_mostUrgent.1.cls mX9_mostUrgent.1 mX9_mostUrgent.1 ∈ xv_tbl ∧ (vwCl[9]?.map fun q => q.1) = some mX9_mostUrgent.1.cls := ⟨(xv_tbl_mem 1035 (by decide +kernel) rfl), (xv_tbl_mem 1036 (by decide +kernel) rfl), rfl⟩
theorem YX9_remove : xv_Y mX9_remove 1 := ⟨(xv_tbl_mem 1041 (by decide +kernel) rfl), (xv_tbl_mem 8 (by decide +kernel) rfl), by decide +kernel, by decide +kernel, by decide +kernel, by decide⟩
theorem VX9_remove : Cond.instanceMethod mX9_remove.1 ∈ xv_tbl ∧ Cond.selects mX9_remove.1.cls mX9_remove.1 mX9_remove.1 ∈ xv_tbl ∧ (vwCl[9]?.map fun q => q.1) = some mX9_remove.1.cls := ⟨(xv_tbl_mem 1039 (by decide +kernel) rfl), (xv_tbl_mem 1040 (by decide +kernel) rfl), rfl⟩
theorem YX10_init : xv_Y mX10_init 0 := ⟨(xv_tbl_mem 25 (by decide +kernel) rfl), (xv_tbl_mem 1 (by decide +kernel) rfl), by decide +kernel, by decide +kernel, by decide +kernel, by decide⟩
theorem VX10_init : Cond.instanceMethod mX10_init.1 ∈ xv_tbl ∧ mX10_init.1.name = "<init>" ∧ mX10_init.2.2.2.1 = none := ⟨(xv_tbl_mem 24 (by decide +kernel) rfl), rfl, rfl⟩
theorem YX10_page : xv_Y mX10_page 3 := ⟨(xv_tbl_mem 291 (by decide +kernel) rfl), (xv_tbl_mem 1 (by decide +kernel) rfl), by decide +kernel, by decide +kernel, by decide +kernel, by decide⟩
theorem VX10_page : Cond.instanceMethod mX10_page.1 ∈ xv_tbl ∧ Cond.selects mX10_page.1.cls mX10_page.1 mX10_page.1 ∈ xv_tbl ∧ (vwCl[10]?.map fun q => q.1) = some mX10_page.1.cls := ⟨(xv_tbl_mem 289 (by decide +kernel) rfl), (xv_tbl_mem 290 (by decide +kernel) rfl), rfl⟩
theorem YX10_cell : xv_Y mX10_cell 2 := ⟨(xv_tbl_mem 423 (by decide +kernel) rfl), (xv_tbl_mem 1 (by decide +kernel) rfl), by decide +kernel, by decide +kernel, by decide +kernel, by decide⟩
theorem VX10_cell : Cond.instanceMethod mX10_cell.1 ∈ xv_tbl ∧ Cond.selects mX10_cell.1.cls mX10_cell.1 mX10_cell.1 ∈ xv_tbl ∧ (vwCl[10]?.map fun q => q.1) = some mX10_cell.1.cls := ⟨(xv_tbl_mem 421 (by decide +kernel) rfl), (xv_tbl_mem 422 (by decide +kernel) rfl), rfl⟩
theorem YX10_touched : xv_Y mX10_touched 0 := ⟨(xv_tbl_mem 255 (by decide +kernel) rfl), (xv_tbl_mem 1 (by decide +kernel) rfl), by decide +kernel, by decide +kernel, by decide +kernel, by decide⟩
theorem VX10_touched : Cond.instanceMethod mX10_touched.1 ∈ xv_tbl ∧ Cond.selects mX10_touched.1.cls mX10_touched.1 mX10_touched.1 ∈ xv_tbl ∧ (vwCl[10]?.map fun q => q.1) = some mX10_touched.1.cls := ⟨(xv_tbl_mem 253 (by decide +kernel) rfl), (xv_tbl_mem 254 (by decide +kernel) rfl), rfl⟩
theorem YX10_distance : xv_Y mX10_distance 2 := ⟨(xv_tbl_mem 436 (by decide +kernel) rfl), (xv_tbl_mem 1 (by decide +kernel) rfl), by decide +kernel, by decide +kernel, by decide +kernel, by decide⟩
theorem VX10_distance : Cond.instanceMethod mX10_distance.1 ∈ xv_tbl ∧ Cond.selects mX10_distance.1.cls mX10_distance.1 mX10_distance.1 ∈ xv_tbl ∧ (vwCl[10]?.map fun q => q.1) = some mX10_distance.1.cls := ⟨(xv_tbl_mem 434 (by decide +kernel) rfl), (xv_tbl_mem 435 (by decide +kernel) rfl), rfl⟩
theorem YX10_advert : xv_Y mX10_advert 6 := ⟨(xv_tbl_mem 447 (by decide +kernel) rfl), (xv_tbl_mem 1 (by decide +kernel) rfl), by decide +kernel, by decide +kernel, by decide +kernel, by decide⟩
theorem VX10_advert : Cond.instanceMethod mX10_advert.1 ∈ xv_tbl ∧ Cond.selects mX10_advert.1.cls mX10_advert.1 mX10_advert.1 ∈ xv_tbl ∧ (vwCl[10]?.map fun q => q.1) = some mX10_advert.1.cls := ⟨(xv_tbl_mem 445 (by decide +kernel) rfl), (xv_tbl_mem 446 (by decide +kernel) rfl), rfl⟩
theorem YX10_place : xv_Y mX10_place 1 := ⟨(xv_tbl_mem 495 (by decide +kernel) rfl), (xv_tbl_mem 1 (by decide +kernel) rfl), by decide +kernel, by decide +kernel, by decide +kernel, by decide⟩
theorem VX10_place : Cond.instanceMethod mX10_place.1 ∈ xv_tbl ∧ Cond.selects mX10_place.1.cls mX10_place.1 mX10_place.1 ∈ xv_tbl ∧ (vwCl[10]?.map fun q => q.1) = some mX10_place.1.cls := ⟨(xv_tbl_mem 493 (by decide +kernel) rfl), (xv_tbl_mem 494 (by decide +kernel) rfl), rfl⟩
theorem YX10_takeOff : xv_Y mX10_takeOff 1 := ⟨(xv_tbl_mem 569 (by decide +kernel) rfl), (xv_tbl_mem 1 (by decide +kernel) rfl), by decide +kernel, by decide +kernel, by decide +kernel, by decide⟩
theorem VX10_takeOff : Cond.instanceMethod mX10_takeOff.1 ∈ xv_tbl ∧ Cond.selects mX10_takeOff.1.cls mX10_takeOff.1 mX10_takeOff.1 ∈ xv_tbl ∧ (vwCl[10]?.map fun q => q.1) = some mX10_takeOff.1.cls := ⟨(xv_tbl_mem 567 (by decide +kernel) rfl), (xv_tbl_mem 568 (by decide +kernel) rfl), rfl⟩
theorem YX10_advertsIn : xv_Y mX10_advertsIn 1 := ⟨(xv_tbl_mem 581 (by decide +kernel) rfl), (xv_tbl_mem 1 (by decide +kernel) rfl), by decide +kernel, by decide +kernel, by decide +kernel, by decide⟩
theorem VX10_advertsIn : Cond.instanceMethod mX10_advertsIn.1 ∈ xv_tbl ∧ Cond.selects mX10_advertsIn.1.cls mX10_advertsIn.1 mX10_advertsIn.1 ∈ xv_tbl ∧ (vwCl[10]?.map fun q => q.1) = some mX10_advertsIn.1.cls := ⟨(xv_tbl_mem 579 (by decide +kernel) rfl), (xv_tbl_mem 580 (by decide +kernel) rfl), rfl⟩
theorem YX10_story : xv_Y mX10_story 3 := ⟨(xv_tbl_mem 592 (by decide +kernel) rfl), (xv_tbl_mem 1 (by decide +kernel) rfl), by decide +kernel, by decide +kernel, by decide +kernel, by decide⟩
theorem VX10_story : Cond.instanceMethod mX10_story.1 ∈ xv_tbl ∧ Cond.selects mX10_story.1.cls mX10_story.1 mX10_story.1 ∈ xv_tbl ∧ (vwCl[10]?.map fun q => q.1) = some mX10_story.1.cls := ⟨(xv_tbl_mem 590 (by decide +kernel) rfl), (xv_tbl_mem 591 (by decide +kernel) rfl), rfl⟩
theorem YX10_lay : xv_Y mX10_lay 1 := ⟨(xv_tbl_mem 631 (by decide +kernel) rfl), (xv_tbl_mem 1 (by decide +kernel) rfl), by decide +kernel, by decide +kernel, by decide +kernel, by decide⟩
theorem VX10_lay : Cond.instanceMethod mX10_lay.1 ∈ xv_tbl ∧ Cond.selects mX10_lay.1.cls mX10_lay.1 mX10_lay.1 ∈ xv_tbl ∧ (vwCl[10]?.map fun q => q.1) = some mX10_lay.1.cls := ⟨(xv_tbl_mem 629 (by decide +kernel) rfl), (xv_tbl_mem 630 (by decide +kernel) rfl), rfl⟩
theorem YX10_lift : xv_Y mX10_lift 1 := ⟨(xv_tbl_mem 734 (by decide +kernel) rfl), (xv_tbl_mem 1 (by decide +kernel) rfl), by decide +kernel, by decide +kernel, by decide +kernel, by decide⟩
theorem VX10_lift : Cond.instanceMethod mX10_lift.1 ∈ xv_tbl ∧ Cond.selects mX10_lift.1.cls mX10_lift.1 mX10_lift.1 ∈ xv_tbl ∧ (vwCl[10]?.map fun q => q.1) = some mX10_lift.1.cls := ⟨(xv_tbl_mem 732 (by decide +kernel) rfl), (xv_tbl_mem 733 (by decide +kernel) rfl), rfl⟩
theorem YX10_change : xv_Y mX10_change 2 := ⟨(xv_tbl_mem 743 (by decide +kernel) rfl), (xv_tbl_mem 1 (by decide +kernel) rfl), by decide +kernel, by decide +kernel, by decide +kernel, by decide⟩
theorem VX10_change : Cond.instanceMethod mX10_change.1 ∈ xv_tbl ∧ Cond.selects mX10_change.1.cls mX10_change.1 mX10_change.1 ∈ xv_tbl ∧ (vwCl[10]?.map fun q => q.1) = some mX10_change.1.cls := ⟨(xv_tbl_mem 741 (by decide +kernel) rfl), (xv_tbl_mem 742 (by decide +kernel) rfl), rfl⟩
theorem YX10_part : xv_Y mX10_part 2 := ⟨(xv_tbl_mem 756 (by decide +kernel) rfl), (xv_tbl_mem 1 (by decide +kernel) rfl), by decide +kernel, by decide +kernel, by decide +kernel, by decide⟩
theorem VX10_part : Cond.instanceMethod mX10_part.1 ∈ xv_tbl ∧ Cond.selects mX10_part.1.cls mX10_part.1 mX10_part.1 ∈ xv_tbl ∧ (vwCl[10]?.map fun q => q.1) = some mX10_part.1.cls := ⟨(xv_tbl_mem 754 (by decide +kernel) rfl), (xv_tbl_mem 755 (by decide +kernel) rfl), rfl⟩
theorem YX10_person : xv_Y mX10_person 1 := ⟨(xv_tbl_mem 763 (by decide +kernel) rfl), (xv_tbl_mem 1 (by decide +kernel) rfl), by decide +kernel, by decide +kernel, by decide +kernel, by decide⟩
theorem VX10_person : Cond.instanceMethod mX10_person.1 ∈ xv_tbl ∧ Cond.selects mX10_person.1.cls mX10_person.1 mX10_person.1 ∈ xv_tbl ∧ (vwCl[10]?.map fun q => q.1) = some mX10_person.1.cls := ⟨(xv_tbl_mem 761 (by decide +kernel) rfl), (xv_tbl_mem 762 (by decide +kernel) rfl), rfl⟩
theorem YX10_sign : xv_Y mX10_sign 2 := ⟨(xv_tbl_mem 786 (by decide +kernel) rfl), (xv_tbl_mem 1 (by decide +kernel) rfl), by decide +kernel, by decide +kernel, by decide +kernel, by decide⟩
theorem VX10_sign : Cond.instanceMethod mX10_sign.1 ∈ xv_tbl ∧ Cond.selects mX10_sign.1.cls mX10_sign.1 mX10_sign.1 ∈ xv_tbl ∧ (vwCl[10]?.map fun q => q.1) = some mX10_sign.1.cls := ⟨(xv_tbl_mem 784 (by decide +kernel) rfl), (xv_tbl_mem 785 (by decide +kernel) rfl), rfl⟩
theorem YX10_hold : xv_Y mX10_hold 2 := ⟨(xv_tbl_mem 803 (by decide +kernel) rfl), (xv_tbl_mem 1 (by decide +kernel) rfl), by decide +kernel, by decide +kernel, by decide +kernel, by decide⟩
theorem VX10_hold : Cond.instanceMethod mX10_hold.1 ∈ xv_tbl ∧ Cond.selects mX10_hold.1.cls mX10_hold.1 mX10_hold.1 ∈ xv_tbl ∧ (vwCl[10]?.map fun q => q.1) = some mX10_hold.1.cls := ⟨(xv_tbl_mem 801 (by decide +kernel) rfl), (xv_tbl_mem 802 (by decide +kernel) rfl), rfl⟩
theorem YX10_isReady : xv_Y mX10_isReady 1 := ⟨(xv_tbl_mem 815 (by decide +kernel) rfl), (xv_tbl_mem 1 (by decide +kernel) rfl), by decide +kernel, by decide +kernel, by decide +kernel, by decide⟩
theorem VX10_isReady : Cond.instanceMethod mX10_isReady.1 ∈ xv_tbl ∧ Cond.selects mX10_isReady.1.cls mX10_isReady.1 mX10_isReady.1 ∈ xv_tbl ∧ (vwCl[10]?.map fun q => q.1) = some mX10_isReady.1.cls := ⟨(xv_tbl_mem 813 (by decide +kernel) rfl), (xv_tbl_mem 814 (by decide +kernel) rfl), rfl⟩
theorem YX10_close : xv_Y mX10_close 0 := ⟨(xv_tbl_mem 827 (by decide +kernel) rfl), (xv_tbl_mem 1 (by decide +kernel) rfl), by decide +kernel, by decide +kernel, by decide +kernel, by decide⟩
theorem VX10_close : Cond.instanceMethod mX10_close.1 ∈ xv_tbl ∧ Cond.selects mX10_close.1.cls mX10_close.1 mX10_close.1 ∈ xv_tbl ∧ (vwCl[10]?.map fun q => q.1) = some mX10_close.1.cls := ⟨(xv_tbl_mem 825 (by decide +kernel) rfl), (xv_tbl_mem 826 (by decide +kernel) rfl), rfl⟩
theorem YX10_printed : xv_Y mX10_printed 3 := ⟨(xv_tbl_mem 845 (by decide +kernel) rfl), (xv_tbl_mem 1 (by decide +kernel) rfl), by decide +kernel, by decide +kernel, by decide +kernel, by decide⟩
theorem VX10_printed : Cond.instanceMethod mX10_printed.1 ∈ xv_tbl ∧ Cond.selects mX10_printed.1.cls mX10_printed.1 mX10_printed.1 ∈ xv_tbl ∧ (vwCl[10]?.map fun q => q.1) = some mX10_printed.1.cls := ⟨(xv_tbl_mem 843 (by decide +kernel) rfl), (xv_tbl_mem 844 (by decide +kernel) rfl), rfl⟩
theorem YX10_correct : xv_Y mX10_correct 2 := ⟨(xv_tbl_mem 867 (by decide +kernel) rfl), (xv_tbl_mem 1 (by decide +kernel) rfl), by decide +kernel, by decide +kernel, by decide +kernel, by decide⟩
theorem VX10_correct : Cond.instanceMethod mX10_correct.1 ∈ xv_tbl ∧ Cond.selects mX10_correct.1.cls mX10_correct.1 mX10_correct.1 ∈ xv_tbl ∧ (vwCl[10]?.map fun q => q.1) = some mX10_correct.1.cls := ⟨(xv_tbl_mem 865 (by decide +kernel) rfl), (xv_tbl_mem 866 (by decide +kernel) rfl), rfl⟩
theorem YX10_placeCorrection : xv_Y mX10_placeCorrection 0 := ⟨(xv_tbl_mem 888 (by decide +kernel) rfl), (xv_tbl_mem 1 (by decide +kernel) rfl), by decide +kernel, by decide +kernel, by decide +kernel, by decide⟩
theorem VX10_placeCorrection : Cond.instanceMethod mX10_placeCorrection.1 ∈ xv_tbl ∧ Cond.selects mX10_placeCorrection.1.cls mX10_placeCorrection.1 mX10_placeCorrection.1 ∈ xv_tbl ∧ (vwCl[10]?.map fun q => q.1) = some mX10_placeCorrection.1.cls := ⟨(xv_tbl_mem 886 (by decide +kernel) rfl), (xv_tbl_mem 887 (by decide +kernel) rfl), rfl⟩
theorem YX10_clean : xv_Y mX10_clean 1 := ⟨(xv_tbl_mem 908 (by decide +kernel) rfl), (xv_tbl_mem 1 (by decide +kernel) rfl), by decide +kernel, by decide +kernel, by decide +kernel, by decide⟩
theorem VX10_clean : Cond.instanceMethod mX10_clean.1 ∈ xv_tbl ∧ Cond.selects mX10_clean.1.cls mX10_clean.1 mX10_clean.1 ∈ xv_tbl ∧ (vwCl[10]?.map fun q => q.1) = some mX10_clean.1.cls := ⟨(xv_tbl_mem 906 (by decide +kernel) rfl), (xv_tbl_mem 907 (by decide +kernel) rfl), rfl⟩
theorem YX10_pass : xv_Y mX10_pass 1 := ⟨(xv_tbl_mem 915 (by decide +kernel) rfl), (xv_tbl_mem 1 (by decide +kernel) rfl), by decide +kernel, by decide +kernel, by decide +kernel, by decide⟩
theorem VX10_pass : Cond.instanceMethod mX10_pass.1 ∈ xv_tbl ∧ Cond.selects mX10_pass.1.cls mX10_pass.1 mX10_pass.1 ∈ xv_tbl ∧ (vwCl[10]?.map fun q => q.1) = some mX10_pass.1.cls := ⟨(xv_tbl_mem 913 (by decide +kernel) rfl), (xv_tbl_mem 914 (by decide +kernel) rfl), rfl⟩
theorem YX10_truck : xv_Y mX10_truck 2 := ⟨(xv_tbl_mem 922 (by decide +kernel) rfl), (xv_tbl_mem 1 (by decide +kernel) rfl), by decide +kernel, by decide +kernel, by decide +kernel, by decide⟩
theorem VX10_truck : Cond.instanceMethod mX10_truck.1 ∈ xv_tbl ∧ Cond.selects mX10_truck.1.cls mX10_truck.1 mX10_truck.1 ∈ xv_tbl ∧ (vwCl[10]?.map fun q => q.1) = some mX10_truck.1.cls := ⟨(xv_tbl_mem 920 (by decide +kernel) rfl), (xv_tbl_mem 921 (by decide +kernel) rfl), rfl⟩
theorem YX10_late : xv_Y mX10_late 2 := ⟨(xv_tbl_mem 934 (by decide +kernel) rfl), (xv_tbl_mem 1 (by decide +kernel) rfl), by decide +kernel, by decide +kernel, by decide +kernel, by decide⟩
theorem VX10_late : Cond.instanceMethod mX10_late.1 ∈ xv_tbl ∧ Cond.selects mX10_late.1.cls mX10_late.1 mX10_late.1 ∈ xv_tbl ∧ (vwCl[10]?.map fun q => q.1) = some mX10_late.1.cls := ⟨(xv_tbl_mem 932 (by decide +kernel) rfl), (xv_tbl_mem 933 (by decide +kernel) rfl), rfl⟩
theorem YX10_word : xv_Y mX10_word 2 := ⟨(xv_tbl_mem 957 (by decide +kernel) rfl), (xv_tbl_mem 1 (by decide +kernel) rfl), by decide +kernel, by decide +kernel, by decide +kernel, by decide⟩
theorem VX10_word : Cond.instanceMethod mX10_word.1 ∈ xv_tbl ∧ Cond.selects mX10_word.1.cls mX10_word.1 mX10_word.1 ∈ xv_tbl ∧ (vwCl[10]?.map fun q => q.1) = some mX10_word.1.cls := ⟨(xv_tbl_mem 955 (by decide +kernel) rfl), (xv_tbl_mem 956 (by decide +kernel) rfl), rfl⟩
theorem YX10_fit : xv_Y mX10_fit 1 := ⟨(xv_tbl_mem 969 (by decide +kernel) rfl), (xv_tbl_mem 1 (by decide +kernel) rfl), by decide +kernel, by decide +kernel, by decide +kernel, by decide⟩
theorem VX10_fit : Cond.instanceMethod mX10_fit.1 ∈ xv_tbl ∧ Cond.selects mX10_fit.1.cls mX10_fit.1 mX10_fit.1 ∈ xv_tbl ∧ (vwCl[10]?.map fun q => q.1) = some mX10_fit.1.cls := ⟨(xv_tbl_mem 967 (by decide +kernel) rfl), (xv_tbl_mem 968 (by decide +kernel) rfl), rfl⟩
theorem YX10_dropWords : xv_Y mX10_dropWords 0 := ⟨(xv_tbl_mem 259 (by decide +kernel) rfl), (xv_tbl_mem 1 (by decide +kernel) rfl), by decide +kernel, by decide +kernel, by decide +kernel, by decide⟩
theorem VX10_dropWords : Cond.instanceMethod mX10_dropWords.1 ∈ xv_tbl ∧ Cond.selects mX10_dropWords.1.cls mX10_dropWords.1 mX10_dropWords.1 ∈ xv_tbl ∧ (vwCl[10]?.map fun q => q.1) = some mX10_dropWords.1.cls := ⟨(xv_tbl_mem 257 (by decide +kernel) rfl), (xv_tbl_mem 258 (by decide +kernel) rfl), rfl⟩
theorem YX10_weigh : xv_Y mX10_weigh 2 := ⟨(xv_tbl_mem 987 (by decide +kernel) rfl), (xv_tbl_mem 1 (by decide +kernel) rfl), by decide +kernel, by decide +kernel, by decide +kernel, by decide⟩
theorem VX10_weigh : Cond.instanceMethod mX10_weigh.1 ∈ xv_tbl ∧ Cond.selects mX10_weigh.1.cls mX10_weigh.1 mX10_weigh.1 ∈ xv_tbl ∧ (vwCl[10]?.map fun q => q.1) = some mX10_weigh.1.cls := ⟨(xv_tbl_mem 985 (by decide +kernel) rfl), (xv_tbl_mem 986 (by decide +kernel) rfl), rfl⟩
theorem YX10_crop : xv_Y mX10_crop 2 := ⟨(xv_tbl_mem 995 (by decide +kernel) rfl), (xv_tbl_mem 1 (by decide +kernel) rfl), by decide +kernel, by decide +kernel, by decide +kernel, by decide⟩
theorem VX10_crop : Cond.instanceMethod mX10_crop.1 ∈ xv_tbl ∧ Cond.selects mX10_crop.1.cls mX10_crop.1 mX10_crop.1 ∈ xv_tbl ∧ (vwCl[10]?.map fun q => q.1) = some mX10_crop.1.cls := ⟨(xv_tbl_mem 993 (by decide +kernel) rfl), (xv_tbl_mem 994 (by decide +kernel) rfl), rfl⟩
theorem YX10_wire : xv_Y mX10_wire 2 := ⟨(xv_tbl_mem 1009 (by decide +kernel) rfl), (xv_tbl_mem 1 (by decide +kernel) rfl), by decide +kernel, by decide +kernel, by decide +kernel, by decide⟩
theorem VX10_wire : Cond.instanceMethod mX10_wire.1 ∈ xv_tbl ∧ Cond.selects mX10_wire.1.cls mX10_wire.1 mX10_wire.1 ∈ xv_tbl ∧ (vwCl[10]?.map fun q => q.1) = some mX10_wire.1.cls := ⟨(xv_tbl_mem 1007 (by decide +kernel) rfl), (xv_tbl_mem 1008 (by decide +kernel) rfl), rfl⟩
theorem YX10_take : xv_Y mX10_take 0 := ⟨(xv_tbl_mem 1032 (by decide +kernel) rfl), (xv_tbl_mem 1 (by decide +kernel) rfl), by decide +kernel, by decide +kernel, by decide +kernel, by decide⟩
theorem VX10_take : Cond.instanceMethod mX10_take.1 ∈ xv_tbl ∧ Cond.selects mX10_take.1.cls mX10_take.1 mX10_take.1 ∈ xv_tbl ∧ (vwCl[10]?.map fun q => q.1) = some mX10_take.1.cls := ⟨(xv_tbl_mem 1030 (by decide +kernel) rfl), (xv_tbl_mem 1031 (by decide +kernel) rfl), rfl⟩
theorem YX10_numbers : xv_Y mX10_numbers 2 := ⟨(xv_tbl_mem 1048 (by decide +kernel) rfl), (xv_tbl_mem 1 (by decide +kernel) rfl), by decide +kernel, by decide +kernel, by decide +kernel, by decide⟩
theorem VX10_numbers : Cond.instanceMethod mX10_numbers.1 ∈ xv_tbl ∧ Cond.selects mX10_numbers.1.cls mX10_numbers.1 mX10_numbers.1 ∈ xv_tbl ∧ (vwCl[10]?.map fun q => q.1) = some mX10_numbers.1.cls := ⟨(xv_tbl_mem 1046 (by decide +kernel) rfl), (xv_tbl_mem 1047 (by decide +kernel) rfl), rfl⟩
theorem YX10_solutions : xv_Y mX10_solutions 0 := ⟨(xv_tbl_mem 263 (by decide +kernel) rfl), (xv_tbl_mem 1 (by decide +kernel) rfl), by decide +kernel, by decide +kernel, by decide +kernel, by decide⟩
theorem VX10_solutions : Cond.instanceMethod mX10_solutions.1 ∈ xv_tbl ∧ Cond.selects mX10_solutions.1.cls mX10_solutions.1 mX10_solutions.1 ∈ xv_tbl ∧ (vwCl[10]?.map fun q => q.1) = some mX10_solutions.1.cls := ⟨(xv_tbl_mem 261 (by decide +kernel) rfl), (xv_tbl_mem 262 (by decide +kernel) rfl), rfl⟩
theorem YX10_needPage : xv_Y mX10_needPage 1 := ⟨(xv_tbl_mem 294 (by decide +kernel) rfl), (xv_tbl_mem 1 (by decide +kernel) rfl), by decide +kernel, by decide +kernel, by decide +kernel, by decide⟩
theorem VX10_needPage : Cond.static mX10_needPage.1 ∈ xv_tbl := (xv_tbl_mem 293 (by decide +kernel) rfl)
theorem YX10_needCell : xv_Y mX10_needCell 1 := ⟨(xv_tbl_mem 426 (by decide +kernel) rfl), (xv_tbl_mem 1 (by decide +kernel) rfl), by decide +kernel, by decide +kernel, by decide +kernel, by decide⟩
theorem VX10_needCell : Cond.static mX10_needCell.1 ∈ xv_tbl := (xv_tbl_mem 425 (by decide +kernel) rfl)
theorem YX10_needPerson : xv_Y mX10_needPerson 1 := ⟨(xv_tbl_mem 766 (by decide +kernel) rfl), (xv_tbl_mem 1 (by decide +kernel) rfl), by decide +kernel, by decide +kernel, by decide +kernel, by decide⟩
theorem VX10_needPerson : Cond.static mX10_needPerson.1 ∈ xv_tbl := (xv_tbl_mem 765 (by decide +kernel) rfl)
theorem YX10_needRange : xv_Y mX10_needRange 3 := ⟨(xv_tbl_mem 368 (by decide +kernel) rfl), (xv_tbl_mem 1 (by decide +kernel) rfl), by decide +kernel, by decide +kernel, by decide +kernel, by decide⟩
theorem VX10_needRange : Cond.static mX10_needRange.1 ∈ xv_tbl := (xv_tbl_mem 367 (by decide +kernel) rfl)
theorem YX10_needEdition : xv_Y mX10_needEdition 1 := ⟨(xv_tbl_mem 849 (by decide +kernel) rfl), (xv_tbl_mem 1 (by decide +kernel) rfl), by decide +kernel, by decide +kernel, by decide +kernel, by decide⟩
theorem VX10_needEdition : Cond.instanceMethod mX10_needEdition.1 ∈ xv_tbl ∧ Cond.selects mX10_needEdition.1.cls mX10_needEdition.1 mX10_needEdition.1 ∈ xv_tbl ∧ (vwCl[10]?.map fun q => q.1) = some mX10_needEdition.1.cls := ⟨(xv_tbl_mem 848 (by decide +kernel) rfl), (xv_tbl_sel 16 (by decide +kernel) rfl), rfl⟩
theorem YX10_needAdvert : xv_Y mX10_needAdvert 1 := ⟨(xv_tbl_mem 499 (by decide +kernel) rfl), (xv_tbl_mem 1 (by decide +kernel) rfl), by decide +kernel, by decide +kernel, by decide +kernel, by decide⟩
theorem VX10_needAdvert : Cond.instanceMethod mX10_needAdvert.1 ∈ xv_tbl ∧ Cond.selects mX10_needAdvert.1.cls mX10_needAdvert.1 mX10_needAdvert.1 ∈ xv_tbl ∧ (vwCl[10]?.map fun q => q.1) = some mX10_needAdvert.1.cls := ⟨(xv_tbl_mem 498 (by decide +kernel) rfl), (xv_tbl_sel 4 (by decide +kernel) rfl), rfl⟩
theorem YX10_needStory : xv_Y mX10_needStory 1 := ⟨(xv_tbl_mem 635 (by decide +kernel) rfl), (xv_tbl_mem 1 (by decide +kernel) rfl), by decide +kernel, by decide +kernel, by decide +kernel, by decide⟩
theorem VX10_needStory : Cond.instanceMethod mX10_needStory.1 ∈ xv_tbl ∧ Cond.selects mX10_needStory.1.cls mX10_needStory.1 mX10_needStory.1 ∈ xv_tbl ∧ (vwCl[10]?.map fun q => q.1) = some mX10_needStory.1.cls := ⟨(xv_tbl_mem 634 (by decide +kernel) rfl), (xv_tbl_sel 8 (by decide +kernel) rfl), rfl⟩
theorem YX10_storyAt : xv_Y mX10_storyAt 1 := ⟨(xv_tbl_mem 639 (by decide +kernel) rfl), (xv_tbl_mem 1 (by decide +kernel) rfl), by decide +kernel, by decide +kernel, by decide +kernel, by decide⟩
theorem VX10_storyAt : Cond.instanceMethod mX10_storyAt.1 ∈ xv_tbl ∧ Cond.selects mX10_storyAt.1.cls mX10_storyAt.1 mX10_storyAt.1 ∈ xv_tbl ∧ (vwCl[10]?.map fun q => q.1) = some mX10_storyAt.1.cls := ⟨(xv_tbl_mem 638 (by decide +kernel) rfl), (xv_tbl_sel 9 (by decide +kernel) rfl), rfl⟩
theorem YX10_isPage : xv_Y mX10_isPage 1 := ⟨(xv_tbl_mem 297 (by decide +kernel) rfl), (xv_tbl_mem 1 (by decide +kernel) rfl), by decide +kernel, by decide +kernel, by decide +kernel, by decide⟩
theorem VX10_isPage : Cond.static mX10_isPage.1 ∈ xv_tbl := (xv_tbl_mem 296 (by decide +kernel) rfl)
theorem YX10_isCell : xv_Y mX10_isCell 1 := ⟨(xv_tbl_mem 396 (by decide +kernel) rfl), (xv_tbl_mem 1 (by decide +kernel) rfl), by decide +kernel, by decide +kernel, by decide +kernel, by decide⟩
theorem VX10_isCell : Cond.static mX10_isCell.1 ∈ xv_tbl := (xv_tbl_mem 395 (by decide +kernel) rfl)
theorem YX10_isZonePage : xv_Y mX10_isZonePage 1 := ⟨(xv_tbl_mem 535 (by decide +kernel) rfl), (xv_tbl_mem 1 (by decide +kernel) rfl), by decide +kernel, by decide +kernel, by decide +kernel, by decide⟩
theorem VX10_isZonePage : Cond.static mX10_isZonePage.1 ∈ xv_tbl := (xv_tbl_mem 534 (by decide +kernel) rfl)
theorem YX10_isInCopies : xv_Y mX10_isInCopies 2 := ⟨(xv_tbl_mem 585 (by decide +kernel) rfl), (xv_tbl_mem 1 (by decide +kernel) rfl), by decide +kernel, by decide +kernel, by decide +kernel, by decide⟩
theorem VX10_isInCopies : Cond.static mX10_isInCopies.1 ∈ xv_tbl := (xv_tbl_mem 584 (by decide +kernel) rfl)
theorem YX10_plateOf : xv_Y mX10_plateOf 1 := ⟨(xv_tbl_mem 558 (by decide +kernel) rfl), (xv_tbl_mem 1 (by decide +kernel) rfl), by decide +kernel, by decide +kernel, by decide +kernel, by decide⟩
theorem VX10_plateOf : Cond.static mX10_plateOf.1 ∈ xv_tbl := (xv_tbl_mem 557 (by decide +kernel) rfl)
theorem YX10_cellInColumns : xv_Y mX10_cellInColumns 1 := ⟨(xv_tbl_mem 681 (by decide +kernel) rfl), (xv_tbl_mem 1 (by decide +kernel) rfl), by decide +kernel, by decide +kernel, by decide +kernel, by decide⟩
theorem VX10_cellInColumns : Cond.static mX10_cellInColumns.1 ∈ xv_tbl := (xv_tbl_mem 680 (by decide +kernel) rfl)
theorem YX10_pagesApart : xv_Y mX10_pagesApart 2 := ⟨(xv_tbl_mem 532 (by decide +kernel) rfl), (xv_tbl_mem 1 (by decide +kernel) rfl), by decide +kernel, by decide +kernel, by decide +kernel, by decide⟩
theorem VX10_pagesApart : Cond.static mX10_pagesApart.1 ∈ xv_tbl := (xv_tbl_mem 531 (by decide +kernel) rfl)
theorem YX10_distanceOf : xv_Y mX10_distanceOf 1 := ⟨(xv_tbl_mem 440 (by decide +kernel) rfl), (xv_tbl_mem 1 (by decide +kernel) rfl), by decide +kernel, by decide +kernel, by decide +kernel, by decide⟩
theorem VX10_distanceOf : Cond.instanceMethod mX10_distanceOf.1 ∈ xv_tbl ∧ Cond.selects mX10_distanceOf.1.cls mX10_distanceOf.1 mX10_distanceOf.1 ∈ xv_tbl ∧ (vwCl[10]?.map fun q => q.1) = some mX10_distanceOf.1.cls := ⟨(xv_tbl_mem 439 (by decide +kernel) rfl), (xv_tbl_sel 3 (by decide +kernel) rfl), rfl⟩
theorem YX10_fits : xv_Y mX10_fits 2 := ⟨(xv_tbl_mem 517 (by decide +kernel) rfl), (xv_tbl_mem 1 (by decide +kernel) rfl), by decide +kernel, by decide +kernel, by decide +kernel, by decide⟩
theorem VX10_fits : Cond.instanceMethod mX10_fits.1 ∈ xv_tbl ∧ Cond.selects mX10_fits.1.cls mX10_fits.1 mX10_fits.1 ∈ xv_tbl ∧ (vwCl[10]?.map fun q => q.1) = some mX10_fits.1.cls := ⟨(xv_tbl_mem 516 (by decide +kernel) rfl), (xv_tbl_sel 5 (by decide +kernel) rfl), rfl⟩
theorem YX10_isFarFromItsLike : xv_Y mX10_isFarFromItsLike 2 := ⟨(xv_tbl_mem 529 (by decide +kernel) rfl), (xv_tbl_mem 1 (by decide +kernel) rfl), by decide +kernel, by decide +kernel, by decide +kernel, by decide⟩
theorem VX10_isFarFromItsLike : Cond.instanceMethod mX10_isFarFromItsLike.1 ∈ xv_tbl ∧ Cond.selects mX10_isFarFromItsLike.1.cls mX10_isFarFromItsLike.1 mX10_isFarFromItsLike.1 ∈ xv_tbl ∧ (vwCl[10]?.map fun q => q.1) = some mX10_isFarFromItsLike.1.cls := ⟨(xv_tbl_mem 528 (by decide +kernel) rfl), (xv_tbl_sel 6 (by decide +kernel) rfl), rfl⟩
theorem YX10_paragraphsOf : xv_Y mX10_paragraphsOf 1 := ⟨(xv_tbl_mem 595 (by decide +kernel) rfl), (xv_tbl_mem 1 (by decide +kernel) rfl), by decide +kernel, by decide +kernel, by decide +kernel, by decide⟩
theorem VX10_paragraphsOf : Cond.static mX10_paragraphsOf.1 ∈ xv_tbl := (xv_tbl_mem 594 (by decide +kernel) rfl)
theorem YX10_putOut : xv_Y mX10_putOut 2 := ⟨(xv_tbl_mem 721 (by decide +kernel) rfl), (xv_tbl_mem 1 (by decide +kernel) rfl), by decide +kernel, by decide +kernel, by decide +kernel, by decide⟩
theorem VX10_putOut : Cond.instanceMethod mX10_putOut.1 ∈ xv_tbl ∧ Cond.selects mX10_putOut.1.cls mX10_putOut.1 mX10_putOut.1 ∈ xv_tbl ∧ (vwCl[10]?.map fun q => q.1) = some mX10_putOut.1.cls := ⟨(xv_tbl_mem 720 (by decide +kernel) rfl), (xv_tbl_sel 15 (by decide +kernel) rfl), rfl⟩
theorem YX10_weightOf : xv_Y mX10_weightOf 4 := ⟨(xv_tbl_mem 999 (by decide +kernel) rfl), (xv_tbl_mem 1 (by decide +kernel) rfl), by decide +kernel, by decide +kernel, by decide +kernel, by decide⟩
theorem VX10_weightOf : Cond.instanceMethod mX10_weightOf.1 ∈ xv_tbl ∧ Cond.selects mX10_weightOf.1.cls mX10_weightOf.1 mX10_weightOf.1 ∈ xv_tbl ∧ (vwCl[10]?.map fun q => q.1) = some mX10_weightOf.1.cls := ⟨(xv_tbl_mem 998 (by decide +kernel) rfl), (xv_tbl_sel 20 (by decide +kernel) rfl), rfl⟩
theorem YX10_digitAt : xv_Y mX10_digitAt 3 := ⟨(xv_tbl_mem 1002 (by decide +kernel) rfl), (xv_tbl_mem 1 (by decide +kernel) rfl), by decide +kernel, by decide +kernel, by decide +kernel, by decide⟩
theorem VX10_digitAt : Cond.static mX10_digitAt.1 ∈ xv_tbl := (xv_tbl_mem 1001 (by decide +kernel) rfl)
theorem YX10_isPuzzleRow : xv_Y mX10_isPuzzleRow 1 := ⟨(xv_tbl_mem 1051 (by decide +kernel) rfl), (xv_tbl_mem 1 (by decide +kernel) rfl), by decide +kernel, by decide +kernel, by decide +kernel, by decide⟩
theorem VX10_isPuzzleRow : Cond.static mX10_isPuzzleRow.1 ∈ xv_tbl := (xv_tbl_mem 1050 (by decide +kernel) rfl)
theorem YX11_init : xv_Y mX11_init 0 := ⟨(xv_tbl_mem 1062 (by decide +kernel) rfl), (xv_tbl_mem 10 (by decide +kernel) rfl), by decide +kernel, by decide +kernel, by decide +kernel, by decide⟩
theorem VX11_init : Cond.instanceMethod mX11_init.1 ∈ xv_tbl ∧ mX11_init.1.name = "<init>" ∧ mX11_init.2.2.2.1 = none := ⟨(xv_tbl_mem 1061 (by decide +kernel) rfl), rfl, rfl⟩
theorem YX11_thrown : xv_Y mX11_thrown 0 := ⟨(xv_tbl_mem 1215 (by decide +kernel) rfl), (xv_tbl_mem 10 (by decide +kernel) rfl), by decide +kernel, by decide +kernel, by decide +kernel, by decide⟩
theorem VX11_thrown : Cond.instanceMethod mX11_thrown.1 ∈ xv_tbl ∧ Cond.selects mX11_thrown.1.cls mX11_thrown.1 mX11_thrown.1 ∈ xv_tbl ∧ (vwCl[11]?.map fun q => q.1) = some mX11_thrown.1.cls := ⟨(xv_tbl_mem 1213 (by decide +kernel) rfl), (xv_tbl_mem 1214 (by decide +kernel) rfl), rfl⟩
theorem YX11_fails : xv_Y mX11_fails 1 := ⟨(xv_tbl_mem 1233 (by decide +kernel) rfl), (xv_tbl_mem 10 (by decide +kernel) rfl), by decide +kernel, by decide +kernel, by decide +kernel, by decide⟩
theorem VX11_fails : Cond.instanceMethod mX11_fails.1 ∈ xv_tbl ∧ Cond.selects mX11_fails.1.cls mX11_fails.1 mX11_fails.1 ∈ xv_tbl ∧ (vwCl[11]?.map fun q => q.1) = some mX11_fails.1.cls := ⟨(xv_tbl_mem 1232 (by decide +kernel) rfl), (xv_tbl_sel 22 (by decide +kernel) rfl), rfl⟩
theorem YX11_isIn : xv_Y mX11_isIn 3 := ⟨(xv_tbl_mem 1225 (by decide +kernel) rfl), (xv_tbl_mem 10 (by decide +kernel) rfl), by decide +kernel, by decide +kernel, by decide +kernel, by decide⟩
theorem VX11_isIn : Cond.static mX11_isIn.1 ∈ xv_tbl := (xv_tbl_mem 1224 (by decide +kernel) rfl)
theorem YX11_isPage : xv_Y mX11_isPage 1 := ⟨(xv_tbl_mem 1222 (by decide +kernel) rfl), (xv_tbl_mem 10 (by decide +kernel) rfl), by decide +kernel, by decide +kernel, by decide +kernel, by decide⟩
theorem VX11_isPage : Cond.static mX11_isPage.1 ∈ xv_tbl := (xv_tbl_mem 1221 (by decide +kernel) rfl)
theorem YX11_isCell : xv_Y mX11_isCell 2 := ⟨(xv_tbl_mem 1240 (by decide +kernel) rfl), (xv_tbl_mem 10 (by decide +kernel) rfl), by decide +kernel, by decide +kernel, by decide +kernel, by decide⟩
theorem VX11_isCell : Cond.static mX11_isCell.1 ∈ xv_tbl := (xv_tbl_mem 1239 (by decide +kernel) rfl)
theorem YX11_size : xv_Y mX11_size 1 := ⟨(xv_tbl_mem 1330 (by decide +kernel) rfl), (xv_tbl_mem 10 (by decide +kernel) rfl), by decide +kernel, by decide +kernel, by decide +kernel, by decide⟩
theorem VX11_size : Cond.static mX11_size.1 ∈ xv_tbl := (xv_tbl_mem 1329 (by decide +kernel) rfl)
theorem YX11_isEmpty : xv_Y mX11_isEmpty 1 := ⟨(xv_tbl_mem 1229 (by decide +kernel) rfl), (xv_tbl_mem 10 (by decide +kernel) rfl), by decide +kernel, by decide +kernel, by decide +kernel, by decide⟩
theorem VX11_isEmpty : Cond.instanceMethod mX11_isEmpty.1 ∈ xv_tbl ∧ Cond.selects mX11_isEmpty.1.cls mX11_isEmpty.1 mX11_isEmpty.1 ∈ xv_tbl ∧ (vwCl[11]?.map fun q => q.1) = some mX11_isEmpty.1.cls := ⟨(xv_tbl_mem 1228 (by decide +kernel) rfl), (xv_tbl_sel 21 (by decide +kernel) rfl), rfl⟩
theorem YX11_page : xv_Y mX11_page 3 := ⟨(xv_tbl_mem 1219 (by decide +kernel) rfl), (xv_tbl_mem 10 (by decide +kernel) rfl), by decide +kernel, by decide +kernel, by decide +kernel, by decide⟩
theorem VX11_page : Cond.instanceMethod mX11_page.1 ∈ xv_tbl ∧ Cond.selects mX11_page.1.cls mX11_page.1 mX11_page.1 ∈ xv_tbl ∧ (vwCl[11]?.map fun q => q.1) = some mX11_page.1.cls := ⟨(xv_tbl_mem 1217 (by decide +kernel) rfl), (xv_tbl_mem 1218 (by decide +kernel) rfl), rfl⟩
theorem YX11_cell : xv_Y mX11_cell 2 := ⟨(xv_tbl_mem 1237 (by decide +kernel) rfl), (xv_tbl_mem 10 (by decide +kernel) rfl), by decide +kernel, by decide +kernel, by decide +kernel, by decide⟩
theorem VX11_cell : Cond.instanceMethod mX11_cell.1 ∈ xv_tbl ∧ Cond.selects mX11_cell.1.cls mX11_cell.1 mX11_cell.1 ∈ xv_tbl ∧ (vwCl[11]?.map fun q => q.1) = some mX11_cell.1.cls := ⟨(xv_tbl_mem 1235 (by decide +kernel) rfl), (xv_tbl_mem 1236 (by decide +kernel) rfl), rfl⟩
theorem YX11_touched : xv_Y mX11_touched 0 := ⟨(xv_tbl_mem 1244 (by decide +kernel) rfl), (xv_tbl_mem 10 (by decide +kernel) rfl), by decide +kernel, by decide +kernel, by decide +kernel, by decide⟩
theorem VX11_touched : Cond.instanceMethod mX11_touched.1 ∈ xv_tbl ∧ Cond.selects mX11_touched.1.cls mX11_touched.1 mX11_touched.1 ∈ xv_tbl ∧ (vwCl[11]?.map fun q => q.1) = some mX11_touched.1.cls := ⟨(xv_tbl_mem 1242 (by decide +kernel) rfl), (xv_tbl_mem 1243 (by decide +kernel) rfl), rfl⟩
theorem YX11_puts : xv_Y mX11_puts 3 := ⟨(xv_tbl_mem 1279 (by decide +kernel) rfl), (xv_tbl_mem 10 (by decide +kernel) rfl), by decide +kernel, by decide +kernel, by decide +kernel, by decide⟩
theorem VX11_puts : Cond.instanceMethod mX11_puts.1 ∈ xv_tbl ∧ Cond.selects mX11_puts.1.cls mX11_puts.1 mX11_puts.1 ∈ xv_tbl ∧ (vwCl[11]?.map fun q => q.1) = some mX11_puts.1.cls := ⟨(xv_tbl_mem 1278 (by decide +kernel) rfl), (xv_tbl_sel 27 (by decide +kernel) rfl), rfl⟩
theorem YX11_distance : xv_Y mX11_distance 2 := ⟨(xv_tbl_mem 1248 (by decide +kernel) rfl), (xv_tbl_mem 10 (by decide +kernel) rfl), by decide +kernel, by decide +kernel, by decide +kernel, by decide⟩
theorem VX11_distance : Cond.instanceMethod mX11_distance.1 ∈ xv_tbl ∧ Cond.selects mX11_distance.1.cls mX11_distance.1 mX11_distance.1 ∈ xv_tbl ∧ (vwCl[11]?.map fun q => q.1) = some mX11_distance.1.cls := ⟨(xv_tbl_mem 1246 (by decide +kernel) rfl), (xv_tbl_mem 1247 (by decide +kernel) rfl), rfl⟩
theorem YX11_advert : xv_Y mX11_advert 6 := ⟨(xv_tbl_mem 1252 (by decide +kernel) rfl), (xv_tbl_mem 10 (by decide +kernel) rfl), by decide +kernel, by decide +kernel, by decide +kernel, by decide⟩
theorem VX11_advert : Cond.instanceMethod mX11_advert.1 ∈ xv_tbl ∧ Cond.selects mX11_advert.1.cls mX11_advert.1 mX11_advert.1 ∈ xv_tbl ∧ (vwCl[11]?.map fun q => q.1) = some mX11_advert.1.cls := ⟨(xv_tbl_mem 1250 (by decide +kernel) rfl), (xv_tbl_mem 1251 (by decide +kernel) rfl), rfl⟩
theorem YX11_apart : xv_Y mX11_apart 2 := ⟨(xv_tbl_mem 1267 (by decide +kernel) rfl), (xv_tbl_mem 10 (by decide +kernel) rfl), by decide +kernel, by decide +kernel, by decide +kernel, by decide⟩
theorem VX11_apart : Cond.static mX11_apart.1 ∈ xv_tbl := (xv_tbl_mem 1266 (by decide +kernel) rfl)
theorem YX11_fits : xv_Y mX11_fits 2 := ⟨(xv_tbl_mem 1264 (by decide +kernel) rfl), (xv_tbl_mem 10 (by decide +kernel) rfl), by decide +kernel, by decide +kernel, by decide +kernel, by decide⟩
theorem VX11_fits : Cond.instanceMethod mX11_fits.1 ∈ xv_tbl ∧ Cond.selects mX11_fits.1.cls mX11_fits.1 mX11_fits.1 ∈ xv_tbl ∧ (vwCl[11]?.map fun q => q.1) = some mX11_fits.1.cls := ⟨(xv_tbl_mem 1263 (by decide +kernel) rfl), (xv_tbl_sel 24 (by decide +kernel) rfl), rfl⟩
theorem YX11_isFree : xv_Y mX11_isFree 3 := ⟨(xv_tbl_mem 1271 (by decide +kernel) rfl), (xv_tbl_mem 10 (by decide +kernel) rfl), by decide +kernel, by decide +kernel, by decide +kernel, by decide⟩
theorem VX11_isFree : Cond.instanceMethod mX11_isFree.1 ∈ xv_tbl ∧ Cond.selects mX11_isFree.1.cls mX11_isFree.1 mX11_isFree.1 ∈ xv_tbl ∧ (vwCl[11]?.map fun q => q.1) = some mX11_isFree.1.cls := ⟨(xv_tbl_mem 1270 (by decide +kernel) rfl), (xv_tbl_sel 25 (by decide +kernel) rfl), rfl⟩
theorem YX11_fills : xv_Y mX11_fills 4 := ⟨(xv_tbl_mem 1275 (by decide +kernel) rfl), (xv_tbl_mem 10 (by decide +kernel) rfl), by decide +kernel, by decide +kernel, by decide +kernel, by decide⟩
theorem VX11_fills : Cond.instanceMethod mX11_fills.1 ∈ xv_tbl ∧ Cond.selects mX11_fills.1.cls mX11_fills.1 mX11_fills.1 ∈ xv_tbl ∧ (vwCl[11]?.map fun q => q.1) = some mX11_fills.1.cls := ⟨(xv_tbl_mem 1274 (by decide +kernel) rfl), (xv_tbl_sel 26 (by decide +kernel) rfl), rfl⟩
theorem YX11_isAdvert : xv_Y mX11_isAdvert 1 := ⟨(xv_tbl_mem 1260 (by decide +kernel) rfl), (xv_tbl_mem 10 (by decide +kernel) rfl), by decide +kernel, by decide +kernel, by decide +kernel, by decide⟩
theorem VX11_isAdvert : Cond.instanceMethod mX11_isAdvert.1 ∈ xv_tbl ∧ Cond.selects mX11_isAdvert.1.cls mX11_isAdvert.1 mX11_isAdvert.1 ∈ xv_tbl ∧ (vwCl[11]?.map fun q => q.1) = some mX11_isAdvert.1.cls := ⟨(xv_tbl_mem 1259 (by decide +kernel) rfl), (xv_tbl_sel 23 (by decide +kernel) rfl), rfl⟩
theorem YX11_place : xv_Y mX11_place 1 := ⟨(xv_tbl_mem 1256 (by decide +kernel) rfl), (xv_tbl_mem 10 (by decide +kernel) rfl), by decide +kernel, by decide +kernel, by decide +kernel, by decide⟩
theorem VX11_place : Cond.instanceMethod mX11_place.1 ∈ xv_tbl ∧ Cond.selects mX11_place.1.cls mX11_place.1 mX11_place.1 ∈ xv_tbl ∧ (vwCl[11]?.map fun q => q.1) = some mX11_place.1.cls := ⟨(xv_tbl_mem 1254 (by decide +kernel) rfl), (xv_tbl_mem 1255 (by decide +kernel) rfl), rfl⟩
theorem YX11_takeOff : xv_Y mX11_takeOff 1 := ⟨(xv_tbl_mem 1283 (by decide +kernel) rfl), (xv_tbl_mem 10 (by decide +kernel) rfl), by decide +kernel, by decide +kernel, by decide +kernel, by decide⟩
theorem VX11_takeOff : Cond.instanceMethod mX11_takeOff.1 ∈ xv_tbl ∧ Cond.selects mX11_takeOff.1.cls mX11_takeOff.1 mX11_takeOff.1 ∈ xv_tbl ∧ (vwCl[11]?.map fun q => q.1) = some mX11_takeOff.1.cls := ⟨(xv_tbl_mem 1281 (by decide +kernel) rfl), (xv_tbl_mem 1282 (by decide +kernel) rfl), rfl⟩
theorem YX11_advertsIn : xv_Y mX11_advertsIn 1 := ⟨(xv_tbl_mem 1287 (by decide +kernel) rfl), (xv_tbl_mem 10 (by decide +kernel) rfl), by decide +kernel, by decide +kernel, by decide +kernel, by decide⟩
theorem VX11_advertsIn : Cond.instanceMethod mX11_advertsIn.1 ∈ xv_tbl ∧ Cond.selects mX11_advertsIn.1.cls mX11_advertsIn.1 mX11_advertsIn.1 ∈ xv_tbl ∧ (vwCl[11]?.map fun q => q.1) = some mX11_advertsIn.1.cls := ⟨(xv_tbl_mem 1285 (by decide +kernel) rfl), (xv_tbl_mem 1286 (by decide +kernel) rfl), rfl⟩
theorem YX11_story : xv_Y mX11_story 3 := ⟨(xv_tbl_mem 1291 (by decide +kernel) rfl), (xv_tbl_mem 10 (by decide +kernel) rfl), by decide +kernel, by decide +kernel, by decide +kernel, by decide⟩
theorem VX11_story : Cond.instanceMethod mX11_story.1 ∈ xv_tbl ∧ Cond.selects mX11_story.1.cls mX11_story.1 mX11_story.1 ∈ xv_tbl ∧ (vwCl[11]?.map fun q => q.1) = some mX11_story.1.cls := ⟨(xv_tbl_mem 1289 (by decide +kernel) rfl), (xv_tbl_mem 1290 (by decide +kernel) rfl), rfl⟩
theorem YX11_cellsFor : xv_Y mX11_cellsFor 3 := ⟨(xv_tbl_mem 1316 (by decide +kernel) rfl), (xv_tbl_mem 10 (by decide +kernel) rfl), by decide +kernel, by decide +kernel, by decide +kernel, by decide⟩
theorem VX11_cellsFor : Cond.instanceMethod mX11_cellsFor.1 ∈ xv_tbl ∧ Cond.selects mX11_cellsFor.1.cls mX11_cellsFor.1 mX11_cellsFor.1 ∈ xv_tbl ∧ (vwCl[11]?.map fun q => q.1) = some mX11_cellsFor.1.cls := ⟨(xv_tbl_mem 1315 (by decide +kernel) rfl), (xv_tbl_sel 32 (by decide +kernel) rfl), rfl⟩
theorem YX11_cellAt : xv_Y mX11_cellAt 1 := ⟨(xv_tbl_mem 1323 (by decide +kernel) rfl), (xv_tbl_mem 10 (by decide +kernel) rfl), by decide +kernel, by decide +kernel, by decide +kernel, by decide⟩
theorem VX11_cellAt : Cond.static mX11_cellAt.1 ∈ xv_tbl := (xv_tbl_mem 1322 (by decide +kernel) rfl)
theorem YX11_firstFor : xv_Y mX11_firstFor 3 := ⟨(xv_tbl_mem 1320 (by decide +kernel) rfl), (xv_tbl_mem 10 (by decide +kernel) rfl), by decide +kernel, by decide +kernel, by decide +kernel, by decide⟩
theorem VX11_firstFor : Cond.instanceMethod mX11_firstFor.1 ∈ xv_tbl ∧ Cond.selects mX11_firstFor.1.cls mX11_firstFor.1 mX11_firstFor.1 ∈ xv_tbl ∧ (vwCl[11]?.map fun q => q.1) = some mX11_firstFor.1.cls := ⟨(xv_tbl_mem 1319 (by decide +kernel) rfl), (xv_tbl_sel 33 (by decide +kernel) rfl), rfl⟩
theorem YX11_platesOf : xv_Y mX11_platesOf 1 := ⟨(xv_tbl_mem 1312 (by decide +kernel) rfl), (xv_tbl_mem 10 (by decide +kernel) rfl), by decide +kernel, by decide +kernel, by decide +kernel, by decide⟩
theorem VX11_platesOf : Cond.instanceMethod mX11_platesOf.1 ∈ xv_tbl ∧ Cond.selects mX11_platesOf.1.cls mX11_platesOf.1 mX11_platesOf.1 ∈ xv_tbl ∧ (vwCl[11]?.map fun q => q.1) = some mX11_platesOf.1.cls := ⟨(xv_tbl_mem 1311 (by decide +kernel) rfl), (xv_tbl_sel 31 (by decide +kernel) rfl), rfl⟩
theorem YX11_keeps : xv_Y mX11_keeps 8 := ⟨(xv_tbl_mem 1327 (by decide +kernel) rfl), (xv_tbl_mem 10 (by decide +kernel) rfl), by decide +kernel, by decide +kernel, by decide +kernel, by decide⟩
theorem VX11_keeps : Cond.instanceMethod mX11_keeps.1 ∈ xv_tbl ∧ Cond.selects mX11_keeps.1.cls mX11_keeps.1 mX11_keeps.1 ∈ xv_tbl ∧ (vwCl[11]?.map fun q => q.1) = some mX11_keeps.1.cls := ⟨(xv_tbl_mem 1326 (by decide +kernel) rfl), (xv_tbl_sel 34 (by decide +kernel) rfl), rfl⟩
theorem YX11_ways : xv_Y mX11_ways 4 := ⟨(xv_tbl_mem 1308 (by decide +kernel) rfl), (xv_tbl_mem 10 (by decide +kernel) rfl), by decide +kernel, by decide +kernel, by decide +kernel, by decide⟩
theorem VX11_ways : Cond.instanceMethod mX11_ways.1 ∈ xv_tbl ∧ Cond.selects mX11_ways.1.cls mX11_ways.1 mX11_ways.1 ∈ xv_tbl ∧ (vwCl[11]?.map fun q => q.1) = some mX11_ways.1.cls := ⟨(xv_tbl_mem 1307 (by decide +kernel) rfl), (xv_tbl_sel 30 (by decide +kernel) rfl), rfl⟩
theorem YX11_finds : xv_Y mX11_finds 3 := ⟨(xv_tbl_mem 1304 (by decide +kernel) rfl), (xv_tbl_mem 10 (by decide +kernel) rfl), by decide +kernel, by decide +kernel, by decide +kernel, by decide⟩
theorem VX11_finds : Cond.instanceMethod mX11_finds.1 ∈ xv_tbl ∧ Cond.selects mX11_finds.1.cls mX11_finds.1 mX11_finds.1 ∈ xv_tbl ∧ (vwCl[11]?.map fun q => q.1) = some mX11_finds.1.cls := ⟨(xv_tbl_mem 1303 (by decide +kernel) rfl), (xv_tbl_sel 29 (by decide +kernel) rfl), rfl⟩
theorem YX11_lays : xv_Y mX11_lays 2 := ⟨(xv_tbl_mem 1334 (by decide +kernel) rfl), (xv_tbl_mem 10 (by decide +kernel) rfl), by decide +kernel, by decide +kernel, by decide +kernel, by decide⟩
theorem VX11_lays : Cond.instanceMethod mX11_lays.1 ∈ xv_tbl ∧ Cond.selects mX11_lays.1.cls mX11_lays.1 mX11_lays.1 ∈ xv_tbl ∧ (vwCl[11]?.map fun q => q.1) = some mX11_lays.1.cls := ⟨(xv_tbl_mem 1333 (by decide +kernel) rfl), (xv_tbl_sel 35 (by decide +kernel) rfl), rfl⟩
theorem YX11_isStory : xv_Y mX11_isStory 1 := ⟨(xv_tbl_mem 1300 (by decide +kernel) rfl), (xv_tbl_mem 10 (by decide +kernel) rfl), by decide +kernel, by decide +kernel, by decide +kernel, by decide⟩
theorem VX11_isStory : Cond.instanceMethod mX11_isStory.1 ∈ xv_tbl ∧ Cond.selects mX11_isStory.1.cls mX11_isStory.1 mX11_isStory.1 ∈ xv_tbl ∧ (vwCl[11]?.map fun q => q.1) = some mX11_isStory.1.cls := ⟨(xv_tbl_mem 1299 (by decide +kernel) rfl), (xv_tbl_sel 28 (by decide +kernel) rfl), rfl⟩
theorem YX11_lay : xv_Y mX11_lay 1 := ⟨(xv_tbl_mem 1296 (by decide +kernel) rfl), (xv_tbl_mem 10 (by decide +kernel) rfl), by decide +kernel, by decide +kernel, by decide +kernel, by decide⟩
theorem VX11_lay : Cond.instanceMethod mX11_lay.1 ∈ xv_tbl ∧ Cond.selects mX11_lay.1.cls mX11_lay.1 mX11_lay.1 ∈ xv_tbl ∧ (vwCl[11]?.map fun q => q.1) = some mX11_lay.1.cls := ⟨(xv_tbl_mem 1294 (by decide +kernel) rfl), (xv_tbl_mem 1295 (by decide +kernel) rfl), rfl⟩
theorem YX11_clears : xv_Y mX11_clears 2 := ⟨(xv_tbl_mem 1346 (by decide +kernel) rfl), (xv_tbl_mem 10 (by decide +kernel) rfl), by decide +kernel, by decide +kernel, by decide +kernel, by decide⟩
theorem VX11_clears : Cond.instanceMethod mX11_clears.1 ∈ xv_tbl ∧ Cond.selects mX11_clears.1.cls mX11_clears.1 mX11_clears.1 ∈ xv_tbl ∧ (vwCl[11]?.map fun q => q.1) = some mX11_clears.1.cls := ⟨(xv_tbl_mem 1345 (by decide +kernel) rfl), (xv_tbl_sel 37 (by decide +kernel) rfl), rfl⟩
theorem YX11_lifts : xv_Y mX11_lifts 1 := ⟨(xv_tbl_mem 1342 (by decide +kernel) rfl), (xv_tbl_mem 10 (by decide +kernel) rfl), by decide +kernel, by decide +kernel, by decide +kernel, by decide⟩
theorem VX11_lifts : Cond.instanceMethod mX11_lifts.1 ∈ xv_tbl ∧ Cond.selects mX11_lifts.1.cls mX11_lifts.1 mX11_lifts.1 ∈ xv_tbl ∧ (vwCl[11]?.map fun q => q.1) = some mX11_lifts.1.cls := ⟨(xv_tbl_mem 1341 (by decide +kernel) rfl), (xv_tbl_sel 36 (by decide +kernel) rfl), rfl⟩
theorem YX11_lift : xv_Y mX11_lift 1 := ⟨(xv_tbl_mem 1338 (by decide +kernel) rfl), (xv_tbl_mem 10 (by decide +kernel) rfl), by decide +kernel, by decide +kernel, by decide +kernel, by decide⟩
theorem VX11_lift : Cond.instanceMethod mX11_lift.1 ∈ xv_tbl ∧ Cond.selects mX11_lift.1.cls mX11_lift.1 mX11_lift.1 ∈ xv_tbl ∧ (vwCl[11]?.map fun q => q.1) = some mX11_lift.1.cls := ⟨(xv_tbl_mem 1336 (by decide +kernel) rfl), (xv_tbl_mem 1337 (by decide +kernel) rfl), rfl⟩
theorem YX11_change : xv_Y mX11_change 2 := ⟨(xv_tbl_mem 1350 (by decide +kernel) rfl), (xv_tbl_mem 10 (by decide +kernel) rfl), by decide +kernel, by decide +kernel, by decide +kernel, by decide⟩
theorem VX11_change : Cond.instanceMethod mX11_change.1 ∈ xv_tbl ∧ Cond.selects mX11_change.1.cls mX11_change.1 mX11_change.1 ∈ xv_tbl ∧ (vwCl[11]?.map fun q => q.1) = some mX11_change.1.cls := ⟨(xv_tbl_mem 1348 (by decide +kernel) rfl), (xv_tbl_mem 1349 (by decide +kernel) rfl), rfl⟩
theorem YX11_part : xv_Y mX11_part 2 := ⟨(xv_tbl_mem 1354 (by decide +kernel) rfl), (xv_tbl_mem 10 (by decide +kernel) rfl), by decide +kernel, by decide +kernel, by decide +kernel, by decide⟩
theorem VX11_part : Cond.instanceMethod mX11_part.1 ∈ xv_tbl ∧ Cond.selects mX11_part.1.cls mX11_part.1 mX11_part.1 ∈ xv_tbl ∧ (vwCl[11]?.map fun q => q.1) = some mX11_part.1.cls := ⟨(xv_tbl_mem 1352 (by decide +kernel) rfl), (xv_tbl_mem 1353 (by decide +kernel) rfl), rfl⟩
theorem YX11_isPerson : xv_Y mX11_isPerson 1 := ⟨(xv_tbl_mem 1361 (by decide +kernel) rfl), (xv_tbl_mem 10 (by decide +kernel) rfl), by decide +kernel, by decide +kernel, by decide +kernel, by decide⟩
theorem VX11_isPerson : Cond.static mX11_isPerson.1 ∈ xv_tbl := (xv_tbl_mem 1360 (by decide +kernel) rfl)
theorem YX11_person : xv_Y mX11_person 1 := ⟨(xv_tbl_mem 1358 (by decide +kernel) rfl), (xv_tbl_mem 10 (by decide +kernel) rfl), by decide +kernel, by decide +kernel, by decide +kernel, by decide⟩
theorem VX11_person : Cond.instanceMethod mX11_person.1 ∈ xv_tbl ∧ Cond.selects mX11_person.1.cls mX11_person.1 mX11_person.1 ∈ xv_tbl ∧ (vwCl[11]?.map fun q => q.1) = some mX11_person.1.cls := ⟨(xv_tbl_mem 1356 (by decide +kernel) rfl), (xv_tbl_mem 1357 (by decide +kernel) rfl), rfl⟩
theorem YX11_many : xv_Y mX11_many 2 := ⟨(xv_tbl_mem 1369 (by decide +kernel) rfl), (xv_tbl_mem 10 (by decide +kernel) rfl), by decide +kernel, by decide +kernel, by decide +kernel, by decide⟩
theorem VX11_many : Cond.instanceMethod mX11_many.1 ∈ xv_tbl ∧ Cond.selects mX11_many.1.cls mX11_many.1 mX11_many.1 ∈ xv_tbl ∧ (vwCl[11]?.map fun q => q.1) = some mX11_many.1.cls := ⟨(xv_tbl_mem 1368 (by decide +kernel) rfl), (xv_tbl_sel 38 (by decide +kernel) rfl), rfl⟩
theorem YX11_sign : xv_Y mX11_sign 2 := ⟨(xv_tbl_mem 1365 (by decide +kernel) rfl), (xv_tbl_mem 10 (by decide +kernel) rfl), by decide +kernel, by decide +kernel, by decide +kernel, by decide⟩
theorem VX11_sign : Cond.instanceMethod mX11_sign.1 ∈ xv_tbl ∧ Cond.selects mX11_sign.1.cls mX11_sign.1 mX11_sign.1 ∈ xv_tbl ∧ (vwCl[11]?.map fun q => q.1) = some mX11_sign.1.cls := ⟨(xv_tbl_mem 1363 (by decide +kernel) rfl), (xv_tbl_mem 1364 (by decide +kernel) rfl), rfl⟩
theorem YX11_hold : xv_Y mX11_hold 2 := ⟨(xv_tbl_mem 1373 (by decide +kernel) rfl), (xv_tbl_mem 10 (by decide +kernel) rfl), by decide +kernel, by decide +kernel, by decide +kernel, by decide⟩
theorem VX11_hold : Cond.instanceMethod mX11_hold.1 ∈ xv_tbl ∧ Cond.selects mX11_hold.1.cls mX11_hold.1 mX11_hold.1 ∈ xv_tbl ∧ (vwCl[11]?.map fun q => q.1) = some mX11_hold.1.cls := ⟨(xv_tbl_mem 1371 (by decide +kernel) rfl), (xv_tbl_mem 1372 (by decide +kernel) rfl), rfl⟩
theorem YX11_ready : xv_Y mX11_ready 1 := ⟨(xv_tbl_mem 1381 (by decide +kernel) rfl), (xv_tbl_mem 10 (by decide +kernel) rfl), by decide +kernel, by decide +kernel, by decide +kernel, by decide⟩
theorem VX11_ready : Cond.instanceMethod mX11_ready.1 ∈ xv_tbl ∧ Cond.selects mX11_ready.1.cls mX11_ready.1 mX11_ready.1 ∈ xv_tbl ∧ (vwCl[11]?.map fun q => q.1) = some mX11_ready.1.cls := ⟨(xv_tbl_mem 1380 (by decide +kernel) rfl), (xv_tbl_sel 39 (by decide +kernel) rfl), rfl⟩
theorem YX11_isReady : xv_Y mX11_isReady 1 := ⟨(xv_tbl_mem 1377 (by decide +kernel) rfl), (xv_tbl_mem 10 (by decide +kernel) rfl), by decide +kernel, by decide +kernel, by decide +kernel, by decide⟩
theorem VX11_isReady : Cond.instanceMethod mX11_isReady.1 ∈ xv_tbl ∧ Cond.selects mX11_isReady.1.cls mX11_isReady.1 mX11_isReady.1 ∈ xv_tbl ∧ (vwCl[11]?.map fun q => q.1) = some mX11_isReady.1.cls := ⟨(xv_tbl_mem 1375 (by decide +kernel) rfl), (xv_tbl_mem 1376 (by decide +kernel) rfl), rfl⟩
theorem YX11_close : xv_Y mX11_close 0 := ⟨(xv_tbl_mem 1385 (by decide +kernel) rfl), (xv_tbl_mem 10 (by decide +kernel) rfl), by decide +kernel, by decide +kernel, by decide +kernel, by decide⟩
theorem VX11_close : Cond.instanceMethod mX11_close.1 ∈ xv_tbl ∧ Cond.selects mX11_close.1.cls mX11_close.1 mX11_close.1 ∈ xv_tbl ∧ (vwCl[11]?.map fun q => q.1) = some mX11_close.1.cls := ⟨(xv_tbl_mem 1383 (by decide +kernel) rfl), (xv_tbl_mem 1384 (by decide +kernel) rfl), rfl⟩
theorem YX11_isEdition : xv_Y mX11_isEdition 1 := ⟨(xv_tbl_mem 1393 (by decide +kernel) rfl), (xv_tbl_mem 10 (by decide +kernel) rfl), by decide +kernel, by decide +kernel, by decide +kernel, by decide⟩
theorem VX11_isEdition : Cond.instanceMethod mX11_isEdition.1 ∈ xv_tbl ∧ Cond.selects mX11_isEdition.1.cls mX11_isEdition.1 mX11_isEdition.1 ∈ xv_tbl ∧ (vwCl[11]?.map fun q => q.1) = some mX11_isEdition.1.cls := ⟨(xv_tbl_mem 1392 (by decide +kernel) rfl), (xv_tbl_sel 40 (by decide +kernel) rfl), rfl⟩
theorem YX11_printed : xv_Y mX11_printed 3 := ⟨(xv_tbl_mem 1389 (by decide +kernel) rfl), (xv_tbl_mem 10 (by decide +kernel) rfl), by decide +kernel, by decide +kernel, by decide +kernel, by decide⟩
theorem VX11_printed : Cond.instanceMethod mX11_printed.1 ∈ xv_tbl ∧ Cond.selects mX11_printed.1.cls mX11_printed.1 mX11_printed.1 ∈ xv_tbl ∧ (vwCl[11]?.map fun q => q.1) = some mX11_printed.1.cls := ⟨(xv_tbl_mem 1387 (by decide +kernel) rfl), (xv_tbl_mem 1388 (by decide +kernel) rfl), rfl⟩
theorem YX11_correct : xv_Y mX11_correct 2 := ⟨(xv_tbl_mem 1397 (by decide +kernel) rfl), (xv_tbl_mem 10 (by decide +kernel) rfl), by decide +kernel, by decide +kernel, by decide +kernel, by decide⟩
theorem VX11_correct : Cond.instanceMethod mX11_correct.1 ∈ xv_tbl ∧ Cond.selects mX11_correct.1.cls mX11_correct.1 mX11_correct.1 ∈ xv_tbl ∧ (vwCl[11]?.map fun q => q.1) = some mX11_correct.1.cls := ⟨(xv_tbl_mem 1395 (by decide +kernel) rfl), (xv_tbl_mem 1396 (by decide +kernel) rfl), rfl⟩
theorem YX11_placeCorrection : xv_Y mX11_placeCorrection 0 := ⟨(xv_tbl_mem 1401 (by decide +kernel) rfl), (xv_tbl_mem 10 (by decide +kernel) rfl), by decide +kernel, by decide +kernel, by decide +kernel, by decide⟩
theorem VX11_placeCorrection : Cond.instanceMethod mX11_placeCorrection.1 ∈ xv_tbl ∧ Cond.selects mX11_placeCorrection.1.cls mX11_placeCorrection.1 mX11_placeCorrection.1 ∈ xv_tbl ∧ (vwCl[11]?.map fun q => q.1) = some mX11_placeCorrection.1.cls := ⟨(xv_tbl_mem 1399 (by decide +kernel) rfl), (xv_tbl_mem 1400 (by decide +kernel) rfl), rfl⟩
theorem YX11_clean : xv_Y mX11_clean 1 := ⟨(xv_tbl_mem 1405 (by decide +kernel) rfl), (xv_tbl_mem 10 (by decide +kernel) rfl), by decide +kernel, by decide +kernel, by decide +kernel, by decide⟩
theorem VX11_clean : Cond.instanceMethod mX11_clean.1 ∈ xv_tbl ∧ Cond.selects mX11_clean.1.cls mX11_clean.1 mX11_clean.1 ∈ xv_tbl ∧ (vwCl[11]?.map fun q => q.1) = some mX11_clean.1.cls := ⟨(xv_tbl_mem 1403 (by decide +kernel) rfl), (xv_tbl_mem 1404 (by decide +kernel) rfl), rfl⟩
theorem YX11_pass : xv_Y mX11_pass 1 := ⟨(xv_tbl_mem 1409 (by decide +kernel) rfl), (xv_tbl_mem 10 (by decide +kernel) rfl), by decide +kernel, by decide +kernel, by decide +kernel, by decide⟩
theorem VX11_pass : Cond.instanceMethod mX11_pass.1 ∈ xv_tbl ∧ Cond.selects mX11_pass.1.cls mX11_pass.1 mX11_pass.1 ∈ xv_tbl ∧ (vwCl[11]?.map fun q => q.1) = some mX11_pass.1.cls := ⟨(xv_tbl_mem 1407 (by decide +kernel) rfl), (xv_tbl_mem 1408 (by decide +kernel) rfl), rfl⟩
theorem YX11_truck : xv_Y mX11_truck 2 := ⟨(xv_tbl_mem 1413 (by decide +kernel) rfl), (xv_tbl_mem 10 (by decide +kernel) rfl), by decide +kernel, by decide +kernel, by decide +kernel, by decide⟩
theorem VX11_truck : Cond.instanceMethod mX11_truck.1 ∈ xv_tbl ∧ Cond.selects mX11_truck.1.cls mX11_truck.1 mX11_truck.1 ∈ xv_tbl ∧ (vwCl[11]?.map fun q => q.1) = some mX11_truck.1.cls := ⟨(xv_tbl_mem 1411 (by decide +kernel) rfl), (xv_tbl_mem 1412 (by decide +kernel) rfl), rfl⟩
theorem YX11_late : xv_Y mX11_late 2 := ⟨(xv_tbl_mem 1417 (by decide +kernel) rfl), (xv_tbl_mem 10 (by decide +kernel) rfl), by decide +kernel, by decide +kernel, by decide +kernel, by decide⟩
theorem VX11_late : Cond.instanceMethod mX11_late.1 ∈ xv_tbl ∧ Cond.selects mX11_late.1.cls mX11_late.1 mX11_late.1 ∈ xv_tbl ∧ (vwCl[11]?.map fun q => q.1) = some mX11_late.1.cls := ⟨(xv_tbl_mem 1415 (by decide +kernel) rfl), (xv_tbl_mem 1416 (by decide +kernel) rfl), rfl⟩
theorem YX11_word : xv_Y mX11_word 2 := ⟨(xv_tbl_mem 1421 (by decide +kernel) rfl), (xv_tbl_mem 10 (by decide +kernel) rfl), by decide +kernel, by decide +kernel, by decide +kernel, by decide⟩
theorem VX11_word : Cond.instanceMethod mX11_word.1 ∈ xv_tbl ∧ Cond.selects mX11_word.1.cls mX11_word.1 mX11_word.1 ∈ xv_tbl ∧ (vwCl[11]?.map fun q => q.1) = some mX11_word.1.cls := ⟨(xv_tbl_mem 1419 (by decide +kernel) rfl), (xv_tbl_mem 1420 (by decide +kernel) rfl), rfl⟩
theorem YX11_fit : xv_Y mX11_fit 1 := ⟨(xv_tbl_mem 1425 (by decide +kernel) rfl), (xv_tbl_mem 10 (by decide +kernel) rfl), by decide +kernel, by decide +kernel, by decide +kernel, by decide⟩
theorem VX11_fit : Cond.instanceMethod mX11_fit.1 ∈ xv_tbl ∧ Cond.selects mX11_fit.1.cls mX11_fit.1 mX11_fit.1 ∈ xv_tbl ∧ (vwCl[11]?.map fun q => q.1) = some mX11_fit.1.cls := ⟨(xv_tbl_mem 1423 (by decide +kernel) rfl), (xv_tbl_mem 1424 (by decide +kernel) rfl), rfl⟩
theorem YX11_dropWords : xv_Y mX11_dropWords 0 := ⟨(xv_tbl_mem 1429 (by decide +kernel) rfl), (xv_tbl_mem 10 (by decide +kernel) rfl), by decide +kernel, by decide +kernel, by decide +kernel, by decide⟩
theorem VX11_dropWords : Cond.instanceMethod mX11_dropWords.1 ∈ xv_tbl ∧ Cond.selects mX11_dropWords.1.cls mX11_dropWords.1 mX11_dropWords.1 ∈ xv_tbl ∧ (vwCl[11]?.map fun q => q.1) = some mX11_dropWords.1.cls := ⟨(xv_tbl_mem 1427 (by decide +kernel) rfl), (xv_tbl_mem 1428 (by decide +kernel) rfl), rfl⟩
theorem YX11_weigh : xv_Y mX11_weigh 2 := ⟨(xv_tbl_mem 1433 (by decide +kernel) rfl), (xv_tbl_mem 10 (by decide +kernel) rfl), by decide +kernel, by decide +kernel, by decide +kernel, by decide⟩
theorem VX11_weigh : Cond.instanceMethod mX11_weigh.1 ∈ xv_tbl ∧ Cond.selects mX11_weigh.1.cls mX11_weigh.1 mX11_weigh.1 ∈ xv_tbl ∧ (vwCl[11]?.map fun q => q.1) = some mX11_weigh.1.cls := ⟨(xv_tbl_mem 1431 (by decide +kernel) rfl), (xv_tbl_mem 1432 (by decide +kernel) rfl), rfl⟩
theorem YX11_digit : xv_Y mX11_digit 2 := ⟨(xv_tbl_mem 1440 (by decide +kernel) rfl), (xv_tbl_mem 10 (by decide +kernel) rfl), by decide +kernel, by decide +kernel, by decide +kernel, by decide⟩
theorem VX11_digit : Cond.static mX11_digit.1 ∈ xv_tbl := (xv_tbl_mem 1439 (by decide +kernel) rfl)
theorem YX11_crop : xv_Y mX11_crop 2 := ⟨(xv_tbl_mem 1437 (by decide +kernel) rfl), (xv_tbl_mem 10 (by decide +kernel) rfl), by decide +kernel, by decide +kernel, by decide +kernel, by decide⟩
theorem VX11_crop : Cond.instanceMethod mX11_crop.1 ∈ xv_tbl ∧ Cond.selects mX11_crop.1.cls mX11_crop.1 mX11_crop.1 ∈ xv_tbl ∧ (vwCl[11]?.map fun q => q.1) = some mX11_crop.1.cls := ⟨(xv_tbl_mem 1435 (by decide +kernel) rfl), (xv_tbl_mem 1436 (by decide +kernel) rfl), rfl⟩
theorem YX11_wire : xv_Y mX11_wire 2 := ⟨(xv_tbl_mem 1444 (by decide +kernel) rfl), (xv_tbl_mem 10 (by decide +kernel) rfl), by decide +kernel, by decide +kernel, by decide +kernel, by decide⟩
theorem VX11_wire : Cond.instanceMethod mX11_wire.1 ∈ xv_tbl ∧ Cond.selects mX11_wire.1.cls mX11_wire.1 mX11_wire.1 ∈ xv_tbl ∧ (vwCl[11]?.map fun q => q.1) = some mX11_wire.1.cls := ⟨(xv_tbl_mem 1442 (by decide +kernel) rfl), (xv_tbl_mem 1443 (by decide +kernel) rfl), rfl⟩
theorem YX11_take : xv_Y mX11_take 0 := ⟨(xv_tbl_mem 1449 (by decide +kernel) rfl), (xv_tbl_mem 10 (by decide +kernel) rfl), by decide +kernel, by decide +kernel, by decide +kernel, by decide⟩
theorem VX11_take : Cond.instanceMethod mX11_take.1 ∈ xv_tbl ∧ Cond.selects mX11_take.1.cls mX11_take.1 mX11_take.1 ∈ xv_tbl ∧ (vwCl[11]?.map fun q => q.1) = some mX11_take.1.cls := ⟨(xv_tbl_mem 1447 (by decide +kernel) rfl), (xv_tbl_mem 1448 (by decide +kernel) rfl), rfl⟩
theorem YX11_numbers : xv_Y mX11_numbers 2 := ⟨(xv_tbl_mem 1453 (by decide +kernel) rfl), (xv_tbl_mem 10 (by decide +kernel) rfl), by decide +kernel, by decide +kernel, by decide +kernel, by decide⟩
theorem VX11_numbers : Cond.instanceMethod mX11_numbers.1 ∈ xv_tbl ∧ Cond.selects mX11_numbers.1.cls mX11_numbers.1 mX11_numbers.1 ∈ xv_tbl ∧ (vwCl[11]?.map fun q => q.1) = some mX11_numbers.1.cls := ⟨(xv_tbl_mem 1451 (by decide +kernel) rfl), (xv_tbl_mem 1452 (by decide +kernel) rfl), rfl⟩
theorem YX11_isPossible : xv_Y mX11_isPossible 1 := ⟨(xv_tbl_mem 1461 (by decide +kernel) rfl), (xv_tbl_mem 10 (by decide +kernel) rfl), by decide +kernel, by decide +kernel, by decide +kernel, by decide⟩
theorem VX11_isPossible : Cond.instanceMethod mX11_isPossible.1 ∈ xv_tbl ∧ Cond.selects mX11_isPossible.1.cls mX11_isPossible.1 mX11_isPossible.1 ∈ xv_tbl ∧ (vwCl[11]?.map fun q => q.1) = some mX11_isPossible.1.cls := ⟨(xv_tbl_mem 1460 (by decide +kernel) rfl), (xv_tbl_sel 41 (by decide +kernel) rfl), rfl⟩
theorem YX11_solutions : xv_Y mX11_solutions 0 := ⟨(xv_tbl_mem 1457 (by decide +kernel) rfl), (xv_tbl_mem 10 (by decide +kernel) rfl), by decide +kernel, by decide +kernel, by decide +kernel, by decide⟩
theorem VX11_solutions : Cond.instanceMethod mX11_solutions.1 ∈ xv_tbl ∧ Cond.selects mX11_solutions.1.cls mX11_solutions.1 mX11_solutions.1 ∈ xv_tbl ∧ (vwCl[11]?.map fun q => q.1) = some mX11_solutions.1.cls := ⟨(xv_tbl_mem 1455 (by decide +kernel) rfl), (xv_tbl_mem 1456 (by decide +kernel) rfl), rfl⟩
theorem YJ6_bitCount_0f7a4 : xv_Y mJ6_bitCount_0f7a4 1 := ⟨(xv_tbl_mem 694 (by decide +kernel) rfl), (xv_tbl_mem 19 (by decide +kernel) rfl), by decide +kernel, by decide +kernel, by decide +kernel, by decide⟩
theorem VJ6_bitCount_0f7a4 : Cond.static mJ6_bitCount_0f7a4.1 ∈ xv_tbl := (xv_tbl_mem 693 (by decide +kernel) rfl)
theorem YJ9_max_7cf53 : xv_Y mJ9_max_7cf53 2 := ⟨(xv_tbl_mem 950 (by decide +kernel) rfl), (xv_tbl_mem 20 (by decide +kernel) rfl), by decide +kernel, by decide +kernel, by decide +kernel, by decide⟩
theorem VJ9_max_7cf53 : Cond.static mJ9_max_7cf53.1 ∈ xv_tbl := (xv_tbl_mem 949 (by decide +kernel) rfl)
theorem YL_page : xv_Y mL_page 4 := ⟨(xv_tbl_mem 284 (by decide +kernel) rfl), (xv_tbl_mem 0 (by decide +kernel) rfl), by decide +kernel, by decide +kernel, by decide +kernel, by decide⟩
theorem VL_page : Cond.static mL_page.1 ∈ xv_tbl := (xv_tbl_mem 283 (by decide +kernel) rfl)
theorem YL_cell : xv_Y mL_cell 4 := ⟨(xv_tbl_mem 419 (by decide +kernel) rfl), (xv_tbl_mem 0 (by decide +kernel) rfl), by decide +kernel, by decide +kernel, by decide +kernel, by decide⟩
theorem VL_cell : Cond.static mL_cell.1 ∈ xv_tbl := (xv_tbl_mem 418 (by decide +kernel) rfl)
theorem YL_distance : xv_Y mL_distance 4 := ⟨(xv_tbl_mem 432 (by decide +kernel) rfl), (xv_tbl_mem 0 (by decide +kernel) rfl), by decide +kernel, by decide +kernel, by decide +kernel, by decide⟩
theorem VL_distance : Cond.static mL_distance.1 ∈ xv_tbl := (xv_tbl_mem 431 (by decide +kernel) rfl)
theorem YL_advert : xv_Y mL_advert 8 := ⟨(xv_tbl_mem 443 (by decide +kernel) rfl), (xv_tbl_mem 0 (by decide +kernel) rfl), by decide +kernel, by decide +kernel, by decide +kernel, by decide⟩
theorem VL_advert : Cond.static mL_advert.1 ∈ xv_tbl := (xv_tbl_mem 442 (by decide +kernel) rfl)
theorem YL_place : xv_Y mL_place 3 := ⟨(xv_tbl_mem 491 (by decide +kernel) rfl), (xv_tbl_mem 0 (by decide +kernel) rfl), by decide +kernel, by decide +kernel, by decide +kernel, by decide⟩
theorem VL_place : Cond.static mL_place.1 ∈ xv_tbl := (xv_tbl_mem 490 (by decide +kernel) rfl)
theorem YL_takeOff : xv_Y mL_takeOff 3 := ⟨(xv_tbl_mem 565 (by decide +kernel) rfl), (xv_tbl_mem 0 (by decide +kernel) rfl), by decide +kernel, by decide +kernel, by decide +kernel, by decide⟩
theorem VL_takeOff : Cond.static mL_takeOff.1 ∈ xv_tbl := (xv_tbl_mem 564 (by decide +kernel) rfl)
theorem YL_advertsIn : xv_Y mL_advertsIn 3 := ⟨(xv_tbl_mem 577 (by decide +kernel) rfl), (xv_tbl_mem 0 (by decide +kernel) rfl), by decide +kernel, by decide +kernel, by decide +kernel, by decide⟩
theorem VL_advertsIn : Cond.static mL_advertsIn.1 ∈ xv_tbl := (xv_tbl_mem 576 (by decide +kernel) rfl)
theorem YL_story : xv_Y mL_story 5 := ⟨(xv_tbl_mem 588 (by decide +kernel) rfl), (xv_tbl_mem 0 (by decide +kernel) rfl), by decide +kernel, by decide +kernel, by decide +kernel, by decide⟩
theorem VL_story : Cond.static mL_story.1 ∈ xv_tbl := (xv_tbl_mem 587 (by decide +kernel) rfl)
theorem YL_lay : xv_Y mL_lay 3 := ⟨(xv_tbl_mem 627 (by decide +kernel) rfl), (xv_tbl_mem 0 (by decide +kernel) rfl), by decide +kernel, by decide +kernel, by decide +kernel, by decide⟩
theorem VL_lay : Cond.static mL_lay.1 ∈ xv_tbl := (xv_tbl_mem 626 (by decide +kernel) rfl)
theorem YL_lift : xv_Y mL_lift 3 := ⟨(xv_tbl_mem 730 (by decide +kernel) rfl), (xv_tbl_mem 0 (by decide +kernel) rfl), by decide +kernel, by decide +kernel, by decide +kernel, by decide⟩
theorem VL_lift : Cond.static mL_lift.1 ∈ xv_tbl := (xv_tbl_mem 729 (by decide +kernel) rfl)
theorem YL_change : xv_Y mL_change 4 := ⟨(xv_tbl_mem 739 (by decide +kernel) rfl), (xv_tbl_mem 0 (by decide +kernel) rfl), by decide +kernel, by decide +kernel, by decide +kernel, by decide⟩
theorem VL_change : Cond.static mL_change.1 ∈ xv_tbl := (xv_tbl_mem 738 (by decide +kernel) rfl)
theorem YL_part : xv_Y mL_part 4 := ⟨(xv_tbl_mem 752 (by decide +kernel) rfl), (xv_tbl_mem 0 (by decide +kernel) rfl), by decide +kernel, by decide +kernel, by decide +kernel, by decide⟩
theorem VL_part : Cond.static mL_part.1 ∈ xv_tbl := (xv_tbl_mem 751 (by decide +kernel) rfl)
theorem YL_person : xv_Y mL_person 3 := ⟨(xv_tbl_mem 759 (by decide +kernel) rfl), (xv_tbl_mem 0 (by decide +kernel) rfl), by decide +kernel, by decide +kernel, by decide +kernel, by decide⟩
theorem VL_person : Cond.static mL_person.1 ∈ xv_tbl := (xv_tbl_mem 758 (by decide +kernel) rfl)
theorem YL_sign : xv_Y mL_sign 4 := ⟨(xv_tbl_mem 782 (by decide +kernel) rfl), (xv_tbl_mem 0 (by decide +kernel) rfl), by decide +kernel, by decide +kernel, by decide +kernel, by decide⟩
theorem VL_sign : Cond.static mL_sign.1 ∈ xv_tbl := (xv_tbl_mem 781 (by decide +kernel) rfl)
theorem YL_hold : xv_Y mL_hold 4 := ⟨(xv_tbl_mem 799 (by decide +kernel) rfl), (xv_tbl_mem 0 (by decide +kernel) rfl), by decide +kernel, by decide +kernel, by decide +kernel, by decide⟩
theorem VL_hold : Cond.static mL_hold.1 ∈ xv_tbl := (xv_tbl_mem 798 (by decide +kernel) rfl)
theorem YL_isReady : xv_Y mL_isReady 3 := ⟨(xv_tbl_mem 811 (by decide +kernel) rfl), (xv_tbl_mem 0 (by decide +kernel) rfl), by decide +kernel, by decide +kernel, by decide +kernel, by decide⟩
theorem VL_isReady : Cond.static mL_isReady.1 ∈ xv_tbl := (xv_tbl_mem 810 (by decide +kernel) rfl)
theorem YL_close : xv_Y mL_close 2 := ⟨(xv_tbl_mem 823 (by decide +kernel) rfl), (xv_tbl_mem 0 (by decide +kernel) rfl), by decide +kernel, by decide +kernel, by decide +kernel, by decide⟩
theorem VL_close : Cond.static mL_close.1 ∈ xv_tbl := (xv_tbl_mem 822 (by decide +kernel) rfl)
theorem YL_printed : xv_Y mL_printed 5 := ⟨(xv_tbl_mem 841 (by decide +kernel) rfl), (xv_tbl_mem 0 (by decide +kernel) rfl), by decide +kernel, by decide +kernel, by decide +kernel, by decide⟩
theorem VL_printed : Cond.static mL_printed.1 ∈ xv_tbl := (xv_tbl_mem 840 (by decide +kernel) rfl)
theorem YL_correct : xv_Y mL_correct 4 := ⟨(xv_tbl_mem 863 (by decide +kernel) rfl), (xv_tbl_mem 0 (by decide +kernel) rfl), by decide +kernel, by decide +kernel, by decide +kernel, by decide⟩
theorem VL_correct : Cond.static mL_correct.1 ∈ xv_tbl := (xv_tbl_mem 862 (by decide +kernel) rfl)
theorem YL_placeCorrection : xv_Y mL_placeCorrection 2 := ⟨(xv_tbl_mem 884 (by decide +kernel) rfl), (xv_tbl_mem 0 (by decide +kernel) rfl), by decide +kernel, by decide +kernel, by decide +kernel, by decide⟩
theorem VL_placeCorrection : Cond.static mL_placeCorrection.1 ∈ xv_tbl := (xv_tbl_mem 883 (by decide +kernel) rfl)
theorem YL_clean : xv_Y mL_clean 3 := ⟨(xv_tbl_mem 904 (by decide +kernel) rfl), (xv_tbl_mem 0 (by decide +kernel) rfl), by decide +kernel, by decide +kernel, by decide +kernel, by decide⟩
theorem VL_clean : Cond.static mL_clean.1 ∈ xv_tbl := (xv_tbl_mem 903 (by decide +kernel) rfl)
theorem YL_pass : xv_Y mL_pass 3 := ⟨(xv_tbl_mem 911 (by decide +kernel) rfl), (xv_tbl_mem 0 (by decide +kernel) rfl), by decide +kernel, by decide +kernel, by decide +kernel, by decide⟩
theorem VL_pass : Cond.static mL_pass.1 ∈ xv_tbl := (xv_tbl_mem 910 (by decide +kernel) rfl)
theorem YL_truck : xv_Y mL_truck 4 := ⟨(xv_tbl_mem 918 (by decide +kernel) rfl), (xv_tbl_mem 0 (by decide +kernel) rfl), by decide +kernel, by decide +kernel, by decide +kernel, by decide⟩
theorem VL_truck : Cond.static mL_truck.1 ∈ xv_tbl := (xv_tbl_mem 917 (by decide +kernel) rfl)
theorem YL_late : xv_Y mL_late 4 := ⟨(xv_tbl_mem 930 (by decide +kernel) rfl), (xv_tbl_mem 0 (by decide +kernel) rfl), by decide +kernel, by decide +kernel, by decide +kernel, by decide⟩
theorem VL_late : Cond.static mL_late.1 ∈ xv_tbl := (xv_tbl_mem 929 (by decide +kernel) rfl)
theorem YL_word : xv_Y mL_word 4 := ⟨(xv_tbl_mem 953 (by decide +kernel) rfl), (xv_tbl_mem 0 (by decide +kernel) rfl), by decide +kernel, by decide +kernel, by decide +kernel, by decide⟩
theorem VL_word : Cond.static mL_word.1 ∈ xv_tbl := (xv_tbl_mem 952 (by decide +kernel) rfl)
theorem YL_fit : xv_Y mL_fit 3 := ⟨(xv_tbl_mem 965 (by decide +kernel) rfl), (xv_tbl_mem 0 (by decide +kernel) rfl), by decide +kernel, by decide +kernel, by decide +kernel, by decide⟩
theorem VL_fit : Cond.static mL_fit.1 ∈ xv_tbl := (xv_tbl_mem 964 (by decide +kernel) rfl)
theorem YL_weigh : xv_Y mL_weigh 4 := ⟨(xv_tbl_mem 983 (by decide +kernel) rfl), (xv_tbl_mem 0 (by decide +kernel) rfl), by decide +kernel, by decide +kernel, by decide +kernel, by decide⟩
theorem VL_weigh : Cond.static mL_weigh.1 ∈ xv_tbl := (xv_tbl_mem 982 (by decide +kernel) rfl)
theorem YL_crop : xv_Y mL_crop 4 := ⟨(xv_tbl_mem 991 (by decide +kernel) rfl), (xv_tbl_mem 0 (by decide +kernel) rfl), by decide +kernel, by decide +kernel, by decide +kernel, by decide⟩
theorem VL_crop : Cond.static mL_crop.1 ∈ xv_tbl := (xv_tbl_mem 990 (by decide +kernel) rfl)
theorem YL_wire : xv_Y mL_wire 4 := ⟨(xv_tbl_mem 1005 (by decide +kernel) rfl), (xv_tbl_mem 0 (by decide +kernel) rfl), by decide +kernel, by decide +kernel, by decide +kernel, by decide⟩
theorem VL_wire : Cond.static mL_wire.1 ∈ xv_tbl := (xv_tbl_mem 1004 (by decide +kernel) rfl)
theorem YL_take : xv_Y mL_take 2 := ⟨(xv_tbl_mem 1028 (by decide +kernel) rfl), (xv_tbl_mem 0 (by decide +kernel) rfl), by decide +kernel, by decide +kernel, by decide +kernel, by decide⟩
theorem VL_take : Cond.static mL_take.1 ∈ xv_tbl := (xv_tbl_mem 1027 (by decide +kernel) rfl)
theorem YL_numbers : xv_Y mL_numbers 3 := ⟨(xv_tbl_mem 1044 (by decide +kernel) rfl), (xv_tbl_mem 0 (by decide +kernel) rfl), by decide +kernel, by decide +kernel, by decide +kernel, by decide⟩
theorem VL_numbers : Cond.static mL_numbers.1 ∈ xv_tbl := (xv_tbl_mem 1043 (by decide +kernel) rfl)
theorem nL_8 : xv_N RL 8 10 14 := ⟨RX10, TX10, rfl, inX10, (xv_tbl_mem 21 (by decide +kernel) rfl), (xv_tbl_mem 22 (by decide +kernel) rfl), (xv_tbl_mem 1 (by decide +kernel) rfl), by decide +kernel, by decide +kernel⟩
theorem kL_8 : Cond.classLink RL 8 "PressHall" ∈ xv_tbl := (xv_tbl_mem 21 (by decide +kernel) rfl)
theorem lL_117 : Cond.methodLink RL 117 mX10_init.1 ∈ xv_tbl := (xv_tbl_mem 23 (by decide +kernel) rfl)
theorem lX10_1 : Cond.methodLink RX10 1 Lib.objectInit ∈ xv_tbl := (xv_tbl_mem 26 (by decide +kernel) rfl)
theorem nX10_7 : xv_N RX10 7 5 7 := ⟨RX5, TX5, rfl, inX5, (xv_tbl_mem 29 (by decide +kernel) rfl), (xv_tbl_mem 30 (by decide +kernel) rfl), (xv_tbl_mem 2 (by decide +kernel) rfl), by decide +kernel, by decide +kernel⟩
theorem kX10_7 : Cond.classLink RX10 7 "PressHall$Sheets" ∈ xv_tbl := (xv_tbl_mem 29 (by decide +kernel) rfl)
theorem lX10_9 : Cond.methodLink RX10 9 mX5_init.1 ∈ xv_tbl := (xv_tbl_mem 31 (by decide +kernel) rfl)
theorem lX5_3 : Cond.methodLink RX5 3 Lib.objectInit ∈ xv_tbl := (xv_tbl_mem 34 (by decide +kernel) rfl)
theorem kX5_9 : Cond.classLink RX5 9 "[[I" ∈ xv_tbl := (xv_tbl_mem 35 (by decide +kernel) rfl)
theorem gX5_11 : xv_G RX5 11 5 0 := ⟨RX5, TX5, 7, rfl, by decide, inX5, Or.inl (xv_tbl_mem 37 (by decide +kernel) rfl)⟩
theorem gX5_16 : xv_G RX5 16 5 1 := ⟨RX5, TX5, 7, rfl, by decide, inX5, Or.inl (xv_tbl_mem 38 (by decide +kernel) rfl)⟩
theorem gX5_20 : xv_G RX5 20 5 2 := ⟨RX5, TX5, 7, rfl, by decide, inX5, Or.inl (xv_tbl_mem 39 (by decide +kernel) rfl)⟩
theorem gX5_24 : xv_G RX5 24 5 3 := ⟨RX5, TX5, 7, rfl, by decide, inX5, Or.inl (xv_tbl_mem 40 (by decide +kernel) rfl)⟩
theorem gX5_27 : xv_G RX5 27 5 4 := ⟨RX5, TX5, 7, rfl, by decide, inX5, Or.inl (xv_tbl_mem 41 (by decide +kernel) rfl)⟩
theorem gX5_30 : xv_G RX5 30 5 5 := ⟨RX5, TX5, 7, rfl, by decide, inX5, Or.inl (xv_tbl_mem 42 (by decide +kernel) rfl)⟩
theorem gX10_109 : xv_G RX10 109 5 6 := ⟨RX5, TX5, 7, rfl, by decide, inX5, Or.inr ⟨"PressHall", (xv_tbl_mem 43 (by decide +kernel) rfl)⟩⟩
theorem gX5_41 : xv_G RX5 41 5 6 := ⟨RX5, TX5, 7, rfl, by decide, inX5, Or.inl (xv_tbl_mem 44 (by decide +kernel) rfl)⟩
theorem nX10_20 : xv_N RX10 20 0 8 := ⟨RX0, TX0, rfl, inX0, (xv_tbl_mem 62 (by decide +kernel) rfl), (xv_tbl_mem 449 (by decide +kernel) rfl), (xv_tbl_mem 17 (by decide +kernel) rfl), by decide +kernel, by decide +kernel⟩
theorem kX10_20 : Cond.classLink RX10 20 "PressHall$Advert" ∈ xv_tbl := (xv_tbl_mem 62 (by decide +kernel) rfl)
theorem nX10_26 : xv_N RX10 26 6 5 := ⟨RX6, TX6, rfl, inX6, (xv_tbl_mem 64 (by decide +kernel) rfl), (xv_tbl_mem 597 (by decide +kernel) rfl), (xv_tbl_mem 18 (by decide +kernel) rfl), by decide +kernel, by decide +kernel⟩
theorem kX10_26 : Cond.classLink RX10 26 "PressHall$Story" ∈ xv_tbl := (xv_tbl_mem 64 (by decide +kernel) rfl)
theorem nX10_32 : xv_N RX10 32 3 6 := ⟨RX3, TX3, rfl, inX3, (xv_tbl_mem 66 (by decide +kernel) rfl), (xv_tbl_mem 67 (by decide +kernel) rfl), (xv_tbl_mem 3 (by decide +kernel) rfl), by decide +kernel, by decide +kernel⟩
theorem kX10_32 : Cond.classLink RX10 32 "PressHall$Layout" ∈ xv_tbl := (xv_tbl_mem 66 (by decide +kernel) rfl)
theorem lX10_34 : Cond.methodLink RX10 34 mX3_init.1 ∈ xv_tbl := (xv_tbl_mem 68 (by decide +kernel) rfl)
theorem lX3_3 : Cond.methodLink RX3 3 Lib.objectInit ∈ xv_tbl := (xv_tbl_mem 71 (by decide +kernel) rfl)
theorem nX3_15 : xv_N RX3 15 8 4 := ⟨RX8, TX8, rfl, inX8, (xv_tbl_mem 72 (by decide +kernel) rfl), (xv_tbl_mem 73 (by decide +kernel) rfl), (xv_tbl_mem 4 (by decide +kernel) rfl), by decide +kernel, by decide +kernel⟩
theorem kX3_15 : Cond.classLink RX3 15 "PressHall$Way" ∈ xv_tbl := (xv_tbl_mem 72 (by decide +kernel) rfl)
theorem lX3_17 : Cond.methodLink RX3 17 mX8_init.1 ∈ xv_tbl := (xv_tbl_mem 74 (by decide +kernel) rfl)
theorem lX8_3 : Cond.methodLink RX8 3 Lib.objectInit ∈ xv_tbl := (xv_tbl_mem 77 (by decide +kernel) rfl)
theorem gX8_21 : xv_G RX8 21 8 0 := ⟨RX8, TX8, 4, rfl, by decide, inX8, Or.inl (xv_tbl_mem 78 (by decide +kernel) rfl)⟩
theorem gX6_31 : xv_G RX6 31 8 0 := ⟨RX8, TX8, 4, rfl, by decide, inX8, Or.inr ⟨"PressHall", (xv_tbl_mem 79 (by decide +kernel) rfl)⟩⟩
theorem gX3_47 : xv_G RX3 47 8 0 := ⟨RX8, TX8, 4, rfl, by decide, inX8, Or.inr ⟨"PressHall", (xv_tbl_mem 80 (by decide +kernel) rfl)⟩⟩
theorem gX10_216 : xv_G RX10 216 8 0 := ⟨RX8, TX8, 4, rfl, by decide, inX8, Or.inr ⟨"PressHall", (xv_tbl_mem 81 (by decide +kernel) rfl)⟩⟩
theorem gX8_9 : xv_G RX8 9 8 1 := ⟨RX8, TX8, 4, rfl, by decide, inX8, Or.inl (xv_tbl_mem 82 (by decide +kernel) rfl)⟩
theorem gX8_15 : xv_G RX8 15 8 2 := ⟨RX8, TX8, 4, rfl, by decide, inX8, Or.inl (xv_tbl_mem 83 (by decide +kernel) rfl)⟩
theorem gX8_18 : xv_G RX8 18 8 3 := ⟨RX8, TX8, 4, rfl, by decide, inX8, Or.inl (xv_tbl_mem 84 (by decide +kernel) rfl)⟩
theorem gX3_9 : xv_G RX3 9 3 0 := ⟨RX3, TX3, 6, rfl, by decide, inX3, Or.inl (xv_tbl_mem 94 (by decide +kernel) rfl)⟩
theorem gX3_18 : xv_G RX3 18 3 1 := ⟨RX3, TX3, 6, rfl, by decide, inX3, Or.inl (xv_tbl_mem 95 (by decide +kernel) rfl)⟩
theorem gX10_432 : xv_G RX10 432 3 1 := ⟨RX3, TX3, 6, rfl, by decide, inX3, Or.inr ⟨"PressHall", (xv_tbl_mem 96 (by decide +kernel) rfl)⟩⟩
theorem gX3_22 : xv_G RX3 22 3 2 := ⟨RX3, TX3, 6, rfl, by decide, inX3, Or.inl (xv_tbl_mem 97 (by decide +kernel) rfl)⟩
theorem gX3_25 : xv_G RX3 25 3 3 := ⟨RX3, TX3, 6, rfl, by decide, inX3, Or.inl (xv_tbl_mem 98 (by decide +kernel) rfl)⟩
theorem gX3_29 : xv_G RX3 29 3 4 := ⟨RX3, TX3, 6, rfl, by decide, inX3, Or.inl (xv_tbl_mem 99 (by decide +kernel) rfl)⟩
theorem gX3_88 : xv_G RX3 88 3 5 := ⟨RX3, TX3, 6, rfl, by decide, inX3, Or.inl (xv_tbl_mem 100 (by decide +kernel) rfl)⟩
theorem nX10_41 : xv_N RX10 41 1 5 := ⟨RX1, TX1, rfl, inX1, (xv_tbl_mem 114 (by decide +kernel) rfl), (xv_tbl_mem 115 (by decide +kernel) rfl), (xv_tbl_mem 5 (by decide +kernel) rfl), by decide +kernel, by decide +kernel⟩
theorem kX10_41 : Cond.classLink RX10 41 "PressHall$Archive" ∈ xv_tbl := (xv_tbl_mem 114 (by decide +kernel) rfl)
theorem lX10_43 : Cond.methodLink RX10 43 mX1_init.1 ∈ xv_tbl := (xv_tbl_mem 116 (by decide +kernel) rfl)
theorem lX1_3 : Cond.methodLink RX1 3 Lib.objectInit ∈ xv_tbl := (xv_tbl_mem 119 (by decide +kernel) rfl)
theorem kX1_9 : Cond.classLink RX1 9 "[[I" ∈ xv_tbl := (xv_tbl_mem 120 (by decide +kernel) rfl)
theorem gX1_11 : xv_G RX1 11 1 0 := ⟨RX1, TX1, 5, rfl, by decide, inX1, Or.inl (xv_tbl_mem 121 (by decide +kernel) rfl)⟩
theorem gX1_16 : xv_G RX1 16 1 1 := ⟨RX1, TX1, 5, rfl, by decide, inX1, Or.inl (xv_tbl_mem 122 (by decide +kernel) rfl)⟩
theorem gX1_23 : xv_G RX1 23 1 2 := ⟨RX1, TX1, 5, rfl, by decide, inX1, Or.inl (xv_tbl_mem 123 (by decide +kernel) rfl)⟩
theorem gX10_282 : xv_G RX10 282 1 2 := ⟨RX1, TX1, 5, rfl, by decide, inX1, Or.inr ⟨"PressHall", (xv_tbl_mem 124 (by decide +kernel) rfl)⟩⟩
theorem gX1_20 : xv_G RX1 20 1 3 := ⟨RX1, TX1, 5, rfl, by decide, inX1, Or.inl (xv_tbl_mem 125 (by decide +kernel) rfl)⟩
theorem gX1_46 : xv_G RX1 46 1 4 := ⟨RX1, TX1, 5, rfl, by decide, inX1, Or.inl (xv_tbl_mem 126 (by decide +kernel) rfl)⟩
theorem gX10_279 : xv_G RX10 279 1 4 := ⟨RX1, TX1, 5, rfl, by decide, inX1, Or.inr ⟨"PressHall", (xv_tbl_mem 127 (by decide +kernel) rfl)⟩⟩
theorem nX10_48 : xv_N RX10 48 7 3 := ⟨RX7, TX7, rfl, inX7, (xv_tbl_mem 139 (by decide +kernel) rfl), (xv_tbl_mem 140 (by decide +kernel) rfl), (xv_tbl_mem 6 (by decide +kernel) rfl), by decide +kernel, by decide +kernel⟩
theorem kX10_48 : Cond.classLink RX10 48 "PressHall$Trucks" ∈ xv_tbl := (xv_tbl_mem 139 (by decide +kernel) rfl)
theorem lX10_50 : Cond.methodLink RX10 50 mX7_init.1 ∈ xv_tbl := (xv_tbl_mem 141 (by decide +kernel) rfl)
theorem lX7_3 : Cond.methodLink RX7 3 Lib.objectInit ∈ xv_tbl := (xv_tbl_mem 144 (by decide +kernel) rfl)
theorem gX7_9 : xv_G RX7 9 7 0 := ⟨RX7, TX7, 3, rfl, by decide, inX7, Or.inl (xv_tbl_mem 145 (by decide +kernel) rfl)⟩
theorem gX7_15 : xv_G RX7 15 7 1 := ⟨RX7, TX7, 3, rfl, by decide, inX7, Or.inl (xv_tbl_mem 146 (by decide +kernel) rfl)⟩
theorem gX7_18 : xv_G RX7 18 7 2 := ⟨RX7, TX7, 3, rfl, by decide, inX7, Or.inl (xv_tbl_mem 147 (by decide +kernel) rfl)⟩
theorem gX10_333 : xv_G RX10 333 7 2 := ⟨RX7, TX7, 3, rfl, by decide, inX7, Or.inr ⟨"PressHall", (xv_tbl_mem 148 (by decide +kernel) rfl)⟩⟩
theorem nX10_55 : xv_N RX10 55 2 3 := ⟨RX2, TX2, rfl, inX2, (xv_tbl_mem 156 (by decide +kernel) rfl), (xv_tbl_mem 157 (by decide +kernel) rfl), (xv_tbl_mem 7 (by decide +kernel) rfl), by decide +kernel, by decide +kernel⟩
theorem kX10_55 : Cond.classLink RX10 55 "PressHall$Headline" ∈ xv_tbl := (xv_tbl_mem 156 (by decide +kernel) rfl)
theorem lX10_57 : Cond.methodLink RX10 57 mX2_init.1 ∈ xv_tbl := (xv_tbl_mem 158 (by decide +kernel) rfl)
theorem lX2_3 : Cond.methodLink RX2 3 Lib.objectInit ∈ xv_tbl := (xv_tbl_mem 161 (by decide +kernel) rfl)
theorem gX2_9 : xv_G RX2 9 2 0 := ⟨RX2, TX2, 3, rfl, by decide, inX2, Or.inl (xv_tbl_mem 162 (by decide +kernel) rfl)⟩
theorem gX2_15 : xv_G RX2 15 2 1 := ⟨RX2, TX2, 3, rfl, by decide, inX2, Or.inl (xv_tbl_mem 163 (by decide +kernel) rfl)⟩
theorem gX2_18 : xv_G RX2 18 2 2 := ⟨RX2, TX2, 3, rfl, by decide, inX2, Or.inl (xv_tbl_mem 164 (by decide +kernel) rfl)⟩
theorem gX10_347 : xv_G RX10 347 2 2 := ⟨RX2, TX2, 3, rfl, by decide, inX2, Or.inr ⟨"PressHall", (xv_tbl_mem 165 (by decide +kernel) rfl)⟩⟩
theorem nX10_65 : xv_N RX10 65 9 3 := ⟨RX9, TX9, rfl, inX9, (xv_tbl_mem 173 (by decide +kernel) rfl), (xv_tbl_mem 174 (by decide +kernel) rfl), (xv_tbl_mem 8 (by decide +kernel) rfl), by decide +kernel, by decide +kernel⟩
theorem kX10_65 : Cond.classLink RX10 65 "PressHall$Wire" ∈ xv_tbl := (xv_tbl_mem 173 (by decide +kernel) rfl)
theorem lX10_67 : Cond.methodLink RX10 67 mX9_init.1 ∈ xv_tbl := (xv_tbl_mem 175 (by decide +kernel) rfl)
theorem lX9_3 : Cond.methodLink RX9 3 Lib.objectInit ∈ xv_tbl := (xv_tbl_mem 178 (by decide +kernel) rfl)
theorem gX9_9 : xv_G RX9 9 9 0 := ⟨RX9, TX9, 3, rfl, by decide, inX9, Or.inl (xv_tbl_mem 179 (by decide +kernel) rfl)⟩
theorem gX9_15 : xv_G RX9 15 9 1 := ⟨RX9, TX9, 3, rfl, by decide, inX9, Or.inl (xv_tbl_mem 180 (by decide +kernel) rfl)⟩
theorem gX9_18 : xv_G RX9 18 9 2 := ⟨RX9, TX9, 3, rfl, by decide, inX9, Or.inl (xv_tbl_mem 181 (by decide +kernel) rfl)⟩
theorem gX10_366 : xv_G RX10 366 9 2 := ⟨RX9, TX9, 3, rfl, by decide, inX9, Or.inr ⟨"PressHall", (xv_tbl_mem 182 (by decide +kernel) rfl)⟩⟩
theorem nX10_72 : xv_N RX10 72 4 4 := ⟨RX4, TX4, rfl, inX4, (xv_tbl_mem 190 (by decide +kernel) rfl), (xv_tbl_mem 191 (by decide +kernel) rfl), (xv_tbl_mem 9 (by decide +kernel) rfl), by decide +kernel, by decide +kernel⟩
theorem kX10_72 : Cond.classLink RX10 72 "PressHall$Puzzle" ∈ xv_tbl := (xv_tbl_mem 190 (by decide +kernel) rfl)
theorem lX10_74 : Cond.methodLink RX10 74 mX4_init.1 ∈ xv_tbl := (xv_tbl_mem 192 (by decide +kernel) rfl)
theorem lX4_3 : Cond.methodLink RX4 3 Lib.objectInit ∈ xv_tbl := (xv_tbl_mem 195 (by decide +kernel) rfl)
theorem gX4_9 : xv_G RX4 9 4 0 := ⟨RX4, TX4, 4, rfl, by decide, inX4, Or.inl (xv_tbl_mem 196 (by decide +kernel) rfl)⟩
theorem gX4_15 : xv_G RX4 15 4 1 := ⟨RX4, TX4, 4, rfl, by decide, inX4, Or.inl (xv_tbl_mem 197 (by decide +kernel) rfl)⟩
theorem gX4_18 : xv_G RX4 18 4 2 := ⟨RX4, TX4, 4, rfl, by decide, inX4, Or.inl (xv_tbl_mem 198 (by decide +kernel) rfl)⟩
theorem gX4_21 : xv_G RX4 21 4 3 := ⟨RX4, TX4, 4, rfl, by decide, inX4, Or.inl (xv_tbl_mem 199 (by decide +kernel) rfl)⟩
theorem gX10_10 : xv_G RX10 10 10 0 := ⟨RX10, TX10, 14, rfl, by decide, inX10, Or.inl (xv_tbl_mem 209 (by decide +kernel) rfl)⟩
theorem gX10_16 : xv_G RX10 16 10 1 := ⟨RX10, TX10, 14, rfl, by decide, inX10, Or.inl (xv_tbl_mem 210 (by decide +kernel) rfl)⟩
theorem gX10_22 : xv_G RX10 22 10 2 := ⟨RX10, TX10, 14, rfl, by decide, inX10, Or.inl (xv_tbl_mem 211 (by decide +kernel) rfl)⟩
theorem gX10_117 : xv_G RX10 117 10 3 := ⟨RX10, TX10, 14, rfl, by decide, inX10, Or.inl (xv_tbl_mem 212 (by decide +kernel) rfl)⟩
theorem gX10_28 : xv_G RX10 28 10 4 := ⟨RX10, TX10, 14, rfl, by decide, inX10, Or.inl (xv_tbl_mem 213 (by decide +kernel) rfl)⟩
theorem gX10_187 : xv_G RX10 187 10 5 := ⟨RX10, TX10, 14, rfl, by decide, inX10, Or.inl (xv_tbl_mem 214 (by decide +kernel) rfl)⟩
theorem gX10_37 : xv_G RX10 37 10 6 := ⟨RX10, TX10, 14, rfl, by decide, inX10, Or.inl (xv_tbl_mem 215 (by decide +kernel) rfl)⟩
theorem gX10_44 : xv_G RX10 44 10 7 := ⟨RX10, TX10, 14, rfl, by decide, inX10, Or.inl (xv_tbl_mem 216 (by decide +kernel) rfl)⟩
theorem gX10_51 : xv_G RX10 51 10 8 := ⟨RX10, TX10, 14, rfl, by decide, inX10, Or.inl (xv_tbl_mem 217 (by decide +kernel) rfl)⟩
theorem gX10_287 : xv_G RX10 287 10 9 := ⟨RX10, TX10, 14, rfl, by decide, inX10, Or.inl (xv_tbl_mem 218 (by decide +kernel) rfl)⟩
theorem gX10_58 : xv_G RX10 58 10 10 := ⟨RX10, TX10, 14, rfl, by decide, inX10, Or.inl (xv_tbl_mem 219 (by decide +kernel) rfl)⟩
theorem gX10_62 : xv_G RX10 62 10 11 := ⟨RX10, TX10, 14, rfl, by decide, inX10, Or.inl (xv_tbl_mem 220 (by decide +kernel) rfl)⟩
theorem gX10_68 : xv_G RX10 68 10 12 := ⟨RX10, TX10, 14, rfl, by decide, inX10, Or.inl (xv_tbl_mem 221 (by decide +kernel) rfl)⟩
theorem gX10_75 : xv_G RX10 75 10 13 := ⟨RX10, TX10, 14, rfl, by decide, inX10, Or.inl (xv_tbl_mem 222 (by decide +kernel) rfl)⟩
theorem lL_134 : Cond.methodLink RL 134 mX10_touched.1 ∈ xv_tbl := (xv_tbl_mem 252 (by decide +kernel) rfl)
theorem lL_214 : Cond.methodLink RL 214 mX10_dropWords.1 ∈ xv_tbl := (xv_tbl_mem 256 (by decide +kernel) rfl)
theorem lL_234 : Cond.methodLink RL 234 mX10_solutions.1 ∈ xv_tbl := (xv_tbl_mem 260 (by decide +kernel) rfl)
theorem lX10_389 : Cond.methodLink RX10 389 mX4_countSolutions.1 ∈ xv_tbl := (xv_tbl_mem 264 (by decide +kernel) rfl)
theorem lX4_28 : Cond.methodLink RX4 28 mX4_countFrom.1 ∈ xv_tbl ∨ (mX4_countFrom.2.2.2.2 = [] ∧ ∃ host, Cond.methodLinkNest RX4 28 mX4_countFrom.1 host ∈ xv_tbl) := Or.inl (xv_tbl_mem 268 (by decide +kernel) rfl)
theorem lX4_32 : Cond.methodLink RX4 32 mX4_isOpen.1 ∈ xv_tbl := (xv_tbl_mem 271 (by decide +kernel) rfl)
theorem lX4_40 : Cond.methodLink RX4 40 mX4_quarterOf.1 ∈ xv_tbl ∨ (mX4_quarterOf.2.2.2.2 = [] ∧ ∃ host, Cond.methodLinkNest RX4 40 mX4_quarterOf.1 host ∈ xv_tbl) := Or.inl (xv_tbl_mem 275 (by decide +kernel) rfl)
theorem lX4_36 : Cond.methodLink RX4 36 mX4_turn.1 ∈ xv_tbl := (xv_tbl_mem 278 (by decide +kernel) rfl)
theorem lL_121 : Cond.methodLink RL 121 mL_page.1 ∈ xv_tbl ∨ (mL_page.2.2.2.2 = [] ∧ ∃ host, Cond.methodLinkNest RL 121 mL_page.1 host ∈ xv_tbl) := Or.inl (xv_tbl_mem 282 (by decide +kernel) rfl)
theorem kL_13 : Cond.classLink RL 13 "java/lang/IndexOutOfBoundsException" ∈ xv_tbl := (xv_tbl_mem 285 (by decide +kernel) rfl)
theorem kL_15 : Cond.classLink RL 15 "java/lang/IllegalArgumentException" ∈ xv_tbl := (xv_tbl_mem 286 (by decide +kernel) rfl)
theorem kL_17 : Cond.classLink RL 17 "java/lang/IllegalStateException" ∈ xv_tbl := (xv_tbl_mem 287 (by decide +kernel) rfl)
theorem lL_7 : Cond.methodLink RL 7 mX10_page.1 ∈ xv_tbl := (xv_tbl_mem 288 (by decide +kernel) rfl)
theorem lX10_79 : Cond.methodLink RX10 79 mX10_needPage.1 ∈ xv_tbl ∨ (mX10_needPage.2.2.2.2 = [] ∧ ∃ host, Cond.methodLinkNest RX10 79 mX10_needPage.1 host ∈ xv_tbl) := Or.inl (xv_tbl_mem 292 (by decide +kernel) rfl)
theorem lX10_392 : Cond.methodLink RX10 392 mX10_isPage.1 ∈ xv_tbl ∨ (mX10_isPage.2.2.2.2 = [] ∧ ∃ host, Cond.methodLinkNest RX10 392 mX10_isPage.1 host ∈ xv_tbl) := Or.inl (xv_tbl_mem 295 (by decide +kernel) rfl)
theorem kX10_172 : Cond.classLink RX10 172 "java/lang/IndexOutOfBoundsException" ∈ xv_tbl := (xv_tbl_mem 298 (by decide +kernel) rfl)
theorem lX10_83 : Cond.methodLink RX10 83 mX10_needRange.1 ∈ xv_tbl ∨ (mX10_needRange.2.2.2.2 = [] ∧ ∃ host, Cond.methodLinkNest RX10 83 mX10_needRange.1 host ∈ xv_tbl) := Or.inl (xv_tbl_mem 366 (by decide +kernel) rfl)
theorem kX10_381 : Cond.classLink RX10 381 "java/lang/IllegalArgumentException" ∈ xv_tbl := (xv_tbl_mem 369 (by decide +kernel) rfl)
theorem lX10_87 : Cond.methodLink RX10 87 mX5_isBare.1 ∈ xv_tbl := (xv_tbl_mem 385 (by decide +kernel) rfl)
theorem lX5_48 : Cond.methodLink RX5 48 mX5_at.1 ∈ xv_tbl := (xv_tbl_mem 389 (by decide +kernel) rfl)
theorem lX5_34 : Cond.methodLink RX5 34 mX10_isPage.1 ∈ xv_tbl ∨ (mX10_isPage.2.2.2.2 = [] ∧ ∃ host, Cond.methodLinkNest RX5 34 mX10_isPage.1 host ∈ xv_tbl) := Or.inr ⟨rfl, "PressHall", (xv_tbl_mem 393 (by decide +kernel) rfl)⟩
theorem lX5_38 : Cond.methodLink RX5 38 mX10_isCell.1 ∈ xv_tbl ∨ (mX10_isCell.2.2.2.2 = [] ∧ ∃ host, Cond.methodLinkNest RX5 38 mX10_isCell.1 host ∈ xv_tbl) := Or.inr ⟨rfl, "PressHall", (xv_tbl_mem 394 (by decide +kernel) rfl)⟩
theorem kX10_91 : Cond.classLink RX10 91 "java/lang/IllegalStateException" ∈ xv_tbl := (xv_tbl_mem 397 (by decide +kernel) rfl)
theorem lX10_98 : Cond.methodLink RX10 98 mX5_setKind.1 ∈ xv_tbl := (xv_tbl_mem 413 (by decide +kernel) rfl)
theorem lL_130 : Cond.methodLink RL 130 mL_cell.1 ∈ xv_tbl ∨ (mL_cell.2.2.2.2 = [] ∧ ∃ host, Cond.methodLinkNest RL 130 mL_cell.1 host ∈ xv_tbl) := Or.inl (xv_tbl_mem 417 (by decide +kernel) rfl)
theorem lL_19 : Cond.methodLink RL 19 mX10_cell.1 ∈ xv_tbl := (xv_tbl_mem 420 (by decide +kernel) rfl)
theorem lX10_102 : Cond.methodLink RX10 102 mX10_needCell.1 ∈ xv_tbl ∨ (mX10_needCell.2.2.2.2 = [] ∧ ∃ host, Cond.methodLinkNest RX10 102 mX10_needCell.1 host ∈ xv_tbl) := Or.inl (xv_tbl_mem 424 (by decide +kernel) rfl)
theorem lX10_397 : Cond.methodLink RX10 397 mX10_isCell.1 ∈ xv_tbl ∨ (mX10_isCell.2.2.2.2 = [] ∧ ∃ host, Cond.methodLinkNest RX10 397 mX10_isCell.1 host ∈ xv_tbl) := Or.inl (xv_tbl_mem 427 (by decide +kernel) rfl)
theorem lX10_105 : Cond.methodLink RX10 105 mX5_at.1 ∈ xv_tbl := (xv_tbl_mem 429 (by decide +kernel) rfl)
theorem lL_138 : Cond.methodLink RL 138 mL_distance.1 ∈ xv_tbl ∨ (mL_distance.2.2.2.2 = [] ∧ ∃ host, Cond.methodLinkNest RL 138 mL_distance.1 host ∈ xv_tbl) := Or.inl (xv_tbl_mem 430 (by decide +kernel) rfl)
theorem lL_23 : Cond.methodLink RL 23 mX10_distance.1 ∈ xv_tbl := (xv_tbl_mem 433 (by decide +kernel) rfl)
theorem lX10_113 : Cond.methodLink RX10 113 mX10_distanceOf.1 ∈ xv_tbl := (xv_tbl_mem 437 (by decide +kernel) rfl)
theorem lL_141 : Cond.methodLink RL 141 mL_advert.1 ∈ xv_tbl ∨ (mL_advert.2.2.2.2 = [] ∧ ∃ host, Cond.methodLinkNest RL 141 mL_advert.1 host ∈ xv_tbl) := Or.inl (xv_tbl_mem 441 (by decide +kernel) rfl)
theorem lL_26 : Cond.methodLink RL 26 mX10_advert.1 ∈ xv_tbl := (xv_tbl_mem 444 (by decide +kernel) rfl)
theorem lX10_122 : Cond.methodLink RX10 122 mX0_init.1 ∈ xv_tbl := (xv_tbl_mem 450 (by decide +kernel) rfl)
theorem lX0_3 : Cond.methodLink RX0 3 Lib.objectInit ∈ xv_tbl := (xv_tbl_mem 453 (by decide +kernel) rfl)
theorem gX0_9 : xv_G RX0 9 0 0 := ⟨RX0, TX0, 8, rfl, by decide, inX0, Or.inl (xv_tbl_mem 454 (by decide +kernel) rfl)⟩
theorem gX10_426 : xv_G RX10 426 0 0 := ⟨RX0, TX0, 8, rfl, by decide, inX0, Or.inr ⟨"PressHall", (xv_tbl_mem 455 (by decide +kernel) rfl)⟩⟩
theorem gX0_15 : xv_G RX0 15 0 1 := ⟨RX0, TX0, 8, rfl, by decide, inX0, Or.inl (xv_tbl_mem 456 (by decide +kernel) rfl)⟩
theorem gX10_146 : xv_G RX10 146 0 1 := ⟨RX0, TX0, 8, rfl, by decide, inX0, Or.inr ⟨"PressHall", (xv_tbl_mem 457 (by decide +kernel) rfl)⟩⟩
theorem gX5_65 : xv_G RX5 65 0 1 := ⟨RX0, TX0, 8, rfl, by decide, inX0, Or.inr ⟨"PressHall", (xv_tbl_mem 458 (by decide +kernel) rfl)⟩⟩
theorem gX0_18 : xv_G RX0 18 0 2 := ⟨RX0, TX0, 8, rfl, by decide, inX0, Or.inl (xv_tbl_mem 459 (by decide +kernel) rfl)⟩
theorem gX10_149 : xv_G RX10 149 0 2 := ⟨RX0, TX0, 8, rfl, by decide, inX0, Or.inr ⟨"PressHall", (xv_tbl_mem 460 (by decide +kernel) rfl)⟩⟩
theorem gX5_60 : xv_G RX5 60 0 2 := ⟨RX0, TX0, 8, rfl, by decide, inX0, Or.inr ⟨"PressHall", (xv_tbl_mem 461 (by decide +kernel) rfl)⟩⟩
theorem gX0_21 : xv_G RX0 21 0 3 := ⟨RX0, TX0, 8, rfl, by decide, inX0, Or.inl (xv_tbl_mem 462 (by decide +kernel) rfl)⟩
theorem gX10_416 : xv_G RX10 416 0 3 := ⟨RX0, TX0, 8, rfl, by decide, inX0, Or.inr ⟨"PressHall", (xv_tbl_mem 463 (by decide +kernel) rfl)⟩⟩
theorem gX0_25 : xv_G RX0 25 0 4 := ⟨RX0, TX0, 8, rfl, by decide, inX0, Or.inl (xv_tbl_mem 464 (by decide +kernel) rfl)⟩
theorem gX10_415 : xv_G RX10 415 0 4 := ⟨RX0, TX0, 8, rfl, by decide, inX0, Or.inr ⟨"PressHall", (xv_tbl_mem 465 (by decide +kernel) rfl)⟩⟩
theorem gX0_28 : xv_G RX0 28 0 5 := ⟨RX0, TX0, 8, rfl, by decide, inX0, Or.inl (xv_tbl_mem 466 (by decide +kernel) rfl)⟩
theorem gX0_31 : xv_G RX0 31 0 6 := ⟨RX0, TX0, 8, rfl, by decide, inX0, Or.inl (xv_tbl_mem 467 (by decide +kernel) rfl)⟩
theorem gX10_177 : xv_G RX10 177 0 6 := ⟨RX0, TX0, 8, rfl, by decide, inX0, Or.inr ⟨"PressHall", (xv_tbl_mem 468 (by decide +kernel) rfl)⟩⟩
theorem gX5_68 : xv_G RX5 68 0 6 := ⟨RX0, TX0, 8, rfl, by decide, inX0, Or.inr ⟨"PressHall", (xv_tbl_mem 469 (by decide +kernel) rfl)⟩⟩
theorem gX0_34 : xv_G RX0 34 0 7 := ⟨RX0, TX0, 8, rfl, by decide, inX0, Or.inl (xv_tbl_mem 470 (by decide +kernel) rfl)⟩
theorem gX5_71 : xv_G RX5 71 0 7 := ⟨RX0, TX0, 8, rfl, by decide, inX0, Or.inr ⟨"PressHall", (xv_tbl_mem 471 (by decide +kernel) rfl)⟩⟩
theorem lL_145 : Cond.methodLink RL 145 mL_place.1 ∈ xv_tbl ∨ (mL_place.2.2.2.2 = [] ∧ ∃ host, Cond.methodLinkNest RL 145 mL_place.1 host ∈ xv_tbl) := Or.inl (xv_tbl_mem 489 (by decide +kernel) rfl)
theorem lL_30 : Cond.methodLink RL 30 mX10_place.1 ∈ xv_tbl := (xv_tbl_mem 492 (by decide +kernel) rfl)
theorem lX10_125 : Cond.methodLink RX10 125 mX10_needAdvert.1 ∈ xv_tbl := (xv_tbl_mem 496 (by decide +kernel) rfl)
theorem lX10_129 : Cond.methodLink RX10 129 mX0_isPlaced.1 ∈ xv_tbl := (xv_tbl_mem 501 (by decide +kernel) rfl)
theorem lX10_135 : Cond.methodLink RX10 135 mX0_lowestPage.1 ∈ xv_tbl := (xv_tbl_mem 506 (by decide +kernel) rfl)
theorem lX10_139 : Cond.methodLink RX10 139 mX0_highestPage.1 ∈ xv_tbl := (xv_tbl_mem 510 (by decide +kernel) rfl)
theorem lX10_142 : Cond.methodLink RX10 142 mX10_fits.1 ∈ xv_tbl := (xv_tbl_mem 514 (by decide +kernel) rfl)
theorem lX10_318 : Cond.methodLink RX10 318 mX5_sectionOf.1 ∈ xv_tbl := (xv_tbl_mem 518 (by decide +kernel) rfl)
theorem lX10_420 : Cond.methodLink RX10 420 mX5_hasColour.1 ∈ xv_tbl := (xv_tbl_mem 522 (by decide +kernel) rfl)
theorem lX10_423 : Cond.methodLink RX10 423 mX10_isFarFromItsLike.1 ∈ xv_tbl := (xv_tbl_mem 526 (by decide +kernel) rfl)
theorem lX10_429 : Cond.methodLink RX10 429 mX10_pagesApart.1 ∈ xv_tbl ∨ (mX10_pagesApart.2.2.2.2 = [] ∧ ∃ host, Cond.methodLinkNest RX10 429 mX10_pagesApart.1 host ∈ xv_tbl) := Or.inl (xv_tbl_mem 530 (by decide +kernel) rfl)
theorem lX10_412 : Cond.methodLink RX10 412 mX10_isZonePage.1 ∈ xv_tbl ∨ (mX10_isZonePage.2.2.2.2 = [] ∧ ∃ host, Cond.methodLinkNest RX10 412 mX10_isZonePage.1 host ∈ xv_tbl) := Or.inl (xv_tbl_mem 533 (by decide +kernel) rfl)
theorem lX10_152 : Cond.methodLink RX10 152 mX5_freeRectangle.1 ∈ xv_tbl := (xv_tbl_mem 536 (by decide +kernel) rfl)
theorem lX5_56 : Cond.methodLink RX5 56 mX5_isFreeRectangle.1 ∈ xv_tbl := (xv_tbl_mem 540 (by decide +kernel) rfl)
theorem lX10_156 : Cond.methodLink RX10 156 mX0_putAt.1 ∈ xv_tbl := (xv_tbl_mem 544 (by decide +kernel) rfl)
theorem lX10_160 : Cond.methodLink RX10 160 mX5_fillRectangle.1 ∈ xv_tbl := (xv_tbl_mem 548 (by decide +kernel) rfl)
theorem lX5_52 : Cond.methodLink RX5 52 mX5_put.1 ∈ xv_tbl := (xv_tbl_mem 552 (by decide +kernel) rfl)
theorem lX5_44 : Cond.methodLink RX5 44 mX10_plateOf.1 ∈ xv_tbl ∨ (mX10_plateOf.2.2.2.2 = [] ∧ ∃ host, Cond.methodLinkNest RX5 44 mX10_plateOf.1 host ∈ xv_tbl) := Or.inr ⟨rfl, "PressHall", (xv_tbl_mem 556 (by decide +kernel) rfl)⟩
theorem lX10_164 : Cond.methodLink RX10 164 mX0_whereItIs.1 ∈ xv_tbl := (xv_tbl_mem 559 (by decide +kernel) rfl)
theorem lL_149 : Cond.methodLink RL 149 mL_takeOff.1 ∈ xv_tbl ∨ (mL_takeOff.2.2.2.2 = [] ∧ ∃ host, Cond.methodLinkNest RL 149 mL_takeOff.1 host ∈ xv_tbl) := Or.inl (xv_tbl_mem 563 (by decide +kernel) rfl)
theorem lL_34 : Cond.methodLink RL 34 mX10_takeOff.1 ∈ xv_tbl := (xv_tbl_mem 566 (by decide +kernel) rfl)
theorem lX10_169 : Cond.methodLink RX10 169 mX5_freeAllOf.1 ∈ xv_tbl := (xv_tbl_mem 571 (by decide +kernel) rfl)
theorem lL_152 : Cond.methodLink RL 152 mL_advertsIn.1 ∈ xv_tbl ∨ (mL_advertsIn.2.2.2.2 = [] ∧ ∃ host, Cond.methodLinkNest RL 152 mL_advertsIn.1 host ∈ xv_tbl) := Or.inl (xv_tbl_mem 575 (by decide +kernel) rfl)
theorem lL_37 : Cond.methodLink RL 37 mX10_advertsIn.1 ∈ xv_tbl := (xv_tbl_mem 578 (by decide +kernel) rfl)
theorem lX10_180 : Cond.methodLink RX10 180 mX10_isInCopies.1 ∈ xv_tbl ∨ (mX10_isInCopies.2.2.2.2 = [] ∧ ∃ host, Cond.methodLinkNest RX10 180 mX10_isInCopies.1 host ∈ xv_tbl) := Or.inl (xv_tbl_mem 583 (by decide +kernel) rfl)
theorem lL_155 : Cond.methodLink RL 155 mL_story.1 ∈ xv_tbl ∨ (mL_story.2.2.2.2 = [] ∧ ∃ host, Cond.methodLinkNest RL 155 mL_story.1 host ∈ xv_tbl) := Or.inl (xv_tbl_mem 586 (by decide +kernel) rfl)
theorem lL_40 : Cond.methodLink RL 40 mX10_story.1 ∈ xv_tbl := (xv_tbl_mem 589 (by decide +kernel) rfl)
theorem lX10_184 : Cond.methodLink RX10 184 mX10_paragraphsOf.1 ∈ xv_tbl ∨ (mX10_paragraphsOf.2.2.2.2 = [] ∧ ∃ host, Cond.methodLinkNest RX10 184 mX10_paragraphsOf.1 host ∈ xv_tbl) := Or.inl (xv_tbl_mem 593 (by decide +kernel) rfl)
theorem lX10_192 : Cond.methodLink RX10 192 mX6_init.1 ∈ xv_tbl := (xv_tbl_mem 598 (by decide +kernel) rfl)
theorem lX6_3 : Cond.methodLink RX6 3 Lib.objectInit ∈ xv_tbl := (xv_tbl_mem 601 (by decide +kernel) rfl)
theorem nX6_24 : xv_N RX6 24 8 4 := ⟨RX8, TX8, rfl, inX8, (xv_tbl_mem 602 (by decide +kernel) rfl), (xv_tbl_mem 73 (by decide +kernel) rfl), (xv_tbl_mem 4 (by decide +kernel) rfl), by decide +kernel, by decide +kernel⟩
theorem kX6_24 : Cond.classLink RX6 24 "PressHall$Way" ∈ xv_tbl := (xv_tbl_mem 602 (by decide +kernel) rfl)
theorem lX6_26 : Cond.methodLink RX6 26 mX8_init.1 ∈ xv_tbl := (xv_tbl_mem 603 (by decide +kernel) rfl)
theorem gX6_9 : xv_G RX6 9 6 0 := ⟨RX6, TX6, 5, rfl, by decide, inX6, Or.inl (xv_tbl_mem 604 (by decide +kernel) rfl)⟩
theorem gX3_55 : xv_G RX3 55 6 0 := ⟨RX6, TX6, 5, rfl, by decide, inX6, Or.inr ⟨"PressHall", (xv_tbl_mem 605 (by decide +kernel) rfl)⟩⟩
theorem gX10_321 : xv_G RX10 321 6 0 := ⟨RX6, TX6, 5, rfl, by decide, inX6, Or.inr ⟨"PressHall", (xv_tbl_mem 606 (by decide +kernel) rfl)⟩⟩
theorem gX6_15 : xv_G RX6 15 6 1 := ⟨RX6, TX6, 5, rfl, by decide, inX6, Or.inl (xv_tbl_mem 607 (by decide +kernel) rfl)⟩
theorem gX6_18 : xv_G RX6 18 6 2 := ⟨RX6, TX6, 5, rfl, by decide, inX6, Or.inl (xv_tbl_mem 608 (by decide +kernel) rfl)⟩
theorem gX3_35 : xv_G RX3 35 6 2 := ⟨RX6, TX6, 5, rfl, by decide, inX6, Or.inr ⟨"PressHall", (xv_tbl_mem 609 (by decide +kernel) rfl)⟩⟩
theorem gX6_21 : xv_G RX6 21 6 3 := ⟨RX6, TX6, 5, rfl, by decide, inX6, Or.inl (xv_tbl_mem 610 (by decide +kernel) rfl)⟩
theorem gX3_40 : xv_G RX3 40 6 3 := ⟨RX6, TX6, 5, rfl, by decide, inX6, Or.inr ⟨"PressHall", (xv_tbl_mem 611 (by decide +kernel) rfl)⟩⟩
theorem gX6_27 : xv_G RX6 27 6 4 := ⟨RX6, TX6, 5, rfl, by decide, inX6, Or.inl (xv_tbl_mem 612 (by decide +kernel) rfl)⟩
theorem gX10_212 : xv_G RX10 212 6 4 := ⟨RX6, TX6, 5, rfl, by decide, inX6, Or.inr ⟨"PressHall", (xv_tbl_mem 613 (by decide +kernel) rfl)⟩⟩
theorem lL_159 : Cond.methodLink RL 159 mL_lay.1 ∈ xv_tbl ∨ (mL_lay.2.2.2.2 = [] ∧ ∃ host, Cond.methodLinkNest RL 159 mL_lay.1 host ∈ xv_tbl) := Or.inl (xv_tbl_mem 625 (by decide +kernel) rfl)
theorem lL_44 : Cond.methodLink RL 44 mX10_lay.1 ∈ xv_tbl := (xv_tbl_mem 628 (by decide +kernel) rfl)
theorem lX10_195 : Cond.methodLink RX10 195 mX10_needStory.1 ∈ xv_tbl := (xv_tbl_mem 632 (by decide +kernel) rfl)
theorem lX10_315 : Cond.methodLink RX10 315 mX10_storyAt.1 ∈ xv_tbl := (xv_tbl_mem 636 (by decide +kernel) rfl)
theorem lX10_199 : Cond.methodLink RX10 199 mX6_isLaid.1 ∈ xv_tbl := (xv_tbl_mem 641 (by decide +kernel) rfl)
theorem lX10_204 : Cond.methodLink RX10 204 mX3_find.1 ∈ xv_tbl := (xv_tbl_mem 646 (by decide +kernel) rfl)
theorem lX3_32 : Cond.methodLink RX3 32 mX8_clear.1 ∈ xv_tbl := (xv_tbl_mem 650 (by decide +kernel) rfl)
theorem lX8_25 : Cond.methodLink RX8 25 mX8_setPart.1 ∈ xv_tbl := (xv_tbl_mem 654 (by decide +kernel) rfl)
theorem lX3_43 : Cond.methodLink RX3 43 mX3_tryOnePage.1 ∈ xv_tbl := (xv_tbl_mem 658 (by decide +kernel) rfl)
theorem lX3_51 : Cond.methodLink RX3 51 mX6_cellsFor.1 ∈ xv_tbl := (xv_tbl_mem 662 (by decide +kernel) rfl)
theorem lX6_32 : Cond.methodLink RX6 32 mX6_linesOfFirst.1 ∈ xv_tbl := (xv_tbl_mem 666 (by decide +kernel) rfl)
theorem lX3_58 : Cond.methodLink RX3 58 mX3_setRun.1 ∈ xv_tbl := (xv_tbl_mem 670 (by decide +kernel) rfl)
theorem lX3_65 : Cond.methodLink RX3 65 mX5_sectionOf.1 ∈ xv_tbl := (xv_tbl_mem 674 (by decide +kernel) rfl)
theorem lX3_71 : Cond.methodLink RX3 71 mX5_freeRun.1 ∈ xv_tbl := (xv_tbl_mem 675 (by decide +kernel) rfl)
theorem lX5_74 : Cond.methodLink RX5 74 mX10_cellInColumns.1 ∈ xv_tbl ∨ (mX10_cellInColumns.2.2.2.2 = [] ∧ ∃ host, Cond.methodLinkNest RX5 74 mX10_cellInColumns.1 host ∈ xv_tbl) := Or.inr ⟨rfl, "PressHall", (xv_tbl_mem 679 (by decide +kernel) rfl)⟩
theorem lX3_75 : Cond.methodLink RX3 75 mX8_setPart.1 ∈ xv_tbl := (xv_tbl_mem 682 (by decide +kernel) rfl)
theorem lX3_62 : Cond.methodLink RX3 62 mX3_keepIfCheaper.1 ∈ xv_tbl := (xv_tbl_mem 683 (by decide +kernel) rfl)
theorem lX3_79 : Cond.methodLink RX3 79 mX8_plates.1 ∈ xv_tbl := (xv_tbl_mem 687 (by decide +kernel) rfl)
theorem lX8_39 : Cond.methodLink RX8 39 mX10_plateOf.1 ∈ xv_tbl ∨ (mX10_plateOf.2.2.2.2 = [] ∧ ∃ host, Cond.methodLinkNest RX8 39 mX10_plateOf.1 host ∈ xv_tbl) := Or.inr ⟨rfl, "PressHall", (xv_tbl_mem 691 (by decide +kernel) rfl)⟩
theorem lX3_83 : Cond.methodLink RX3 83 mJ6_bitCount_0f7a4.1 ∈ xv_tbl ∨ (mJ6_bitCount_0f7a4.2.2.2.2 = [] ∧ ∃ host, Cond.methodLinkNest RX3 83 mJ6_bitCount_0f7a4.1 host ∈ xv_tbl) := Or.inl (xv_tbl_mem 692 (by decide +kernel) rfl)
theorem lX3_91 : Cond.methodLink RX3 91 mX8_copy.1 ∈ xv_tbl := (xv_tbl_mem 698 (by decide +kernel) rfl)
theorem lX8_29 : Cond.methodLink RX8 29 mX8_pageOf.1 ∈ xv_tbl := (xv_tbl_mem 702 (by decide +kernel) rfl)
theorem lX8_33 : Cond.methodLink RX8 33 mX8_start.1 ∈ xv_tbl := (xv_tbl_mem 706 (by decide +kernel) rfl)
theorem lX8_36 : Cond.methodLink RX8 36 mX8_size.1 ∈ xv_tbl := (xv_tbl_mem 710 (by decide +kernel) rfl)
theorem lX3_48 : Cond.methodLink RX3 48 mX3_tryTwoPages.1 ∈ xv_tbl := (xv_tbl_mem 714 (by decide +kernel) rfl)
theorem lX10_208 : Cond.methodLink RX10 208 mX10_putOut.1 ∈ xv_tbl := (xv_tbl_mem 718 (by decide +kernel) rfl)
theorem lX10_435 : Cond.methodLink RX10 435 mX8_copy.1 ∈ xv_tbl := (xv_tbl_mem 722 (by decide +kernel) rfl)
theorem lX10_242 : Cond.methodLink RX10 242 mX8_start.1 ∈ xv_tbl := (xv_tbl_mem 723 (by decide +kernel) rfl)
theorem lX10_236 : Cond.methodLink RX10 236 mX8_size.1 ∈ xv_tbl := (xv_tbl_mem 724 (by decide +kernel) rfl)
theorem lX10_239 : Cond.methodLink RX10 239 mX8_pageOf.1 ∈ xv_tbl := (xv_tbl_mem 725 (by decide +kernel) rfl)
theorem lX10_245 : Cond.methodLink RX10 245 mX10_cellInColumns.1 ∈ xv_tbl ∨ (mX10_cellInColumns.2.2.2.2 = [] ∧ ∃ host, Cond.methodLinkNest RX10 245 mX10_cellInColumns.1 host ∈ xv_tbl) := Or.inl (xv_tbl_mem 726 (by decide +kernel) rfl)
theorem lX10_327 : Cond.methodLink RX10 327 mX5_put.1 ∈ xv_tbl := (xv_tbl_mem 727 (by decide +kernel) rfl)
theorem lL_162 : Cond.methodLink RL 162 mL_lift.1 ∈ xv_tbl ∨ (mL_lift.2.2.2.2 = [] ∧ ∃ host, Cond.methodLinkNest RL 162 mL_lift.1 host ∈ xv_tbl) := Or.inl (xv_tbl_mem 728 (by decide +kernel) rfl)
theorem lL_47 : Cond.methodLink RL 47 mX10_lift.1 ∈ xv_tbl := (xv_tbl_mem 731 (by decide +kernel) rfl)
theorem lX10_223 : Cond.methodLink RX10 223 mX8_clear.1 ∈ xv_tbl := (xv_tbl_mem 736 (by decide +kernel) rfl)
theorem lL_165 : Cond.methodLink RL 165 mL_change.1 ∈ xv_tbl ∨ (mL_change.2.2.2.2 = [] ∧ ∃ host, Cond.methodLinkNest RL 165 mL_change.1 host ∈ xv_tbl) := Or.inl (xv_tbl_mem 737 (by decide +kernel) rfl)
theorem lL_50 : Cond.methodLink RL 50 mX10_change.1 ∈ xv_tbl := (xv_tbl_mem 740 (by decide +kernel) rfl)
theorem lX10_228 : Cond.methodLink RX10 228 mX5_platesOf.1 ∈ xv_tbl := (xv_tbl_mem 745 (by decide +kernel) rfl)
theorem lX10_231 : Cond.methodLink RX10 231 mJ6_bitCount_0f7a4.1 ∈ xv_tbl ∨ (mJ6_bitCount_0f7a4.2.2.2.2 = [] ∧ ∃ host, Cond.methodLinkNest RX10 231 mJ6_bitCount_0f7a4.1 host ∈ xv_tbl) := Or.inl (xv_tbl_mem 749 (by decide +kernel) rfl)
theorem lL_168 : Cond.methodLink RL 168 mL_part.1 ∈ xv_tbl ∨ (mL_part.2.2.2.2 = [] ∧ ∃ host, Cond.methodLinkNest RL 168 mL_part.1 host ∈ xv_tbl) := Or.inl (xv_tbl_mem 750 (by decide +kernel) rfl)
theorem lL_53 : Cond.methodLink RL 53 mX10_part.1 ∈ xv_tbl := (xv_tbl_mem 753 (by decide +kernel) rfl)
theorem lL_171 : Cond.methodLink RL 171 mL_person.1 ∈ xv_tbl ∨ (mL_person.2.2.2.2 = [] ∧ ∃ host, Cond.methodLinkNest RL 171 mL_person.1 host ∈ xv_tbl) := Or.inl (xv_tbl_mem 757 (by decide +kernel) rfl)
theorem lL_56 : Cond.methodLink RL 56 mX10_person.1 ∈ xv_tbl := (xv_tbl_mem 760 (by decide +kernel) rfl)
theorem lX10_248 : Cond.methodLink RX10 248 mX10_needPerson.1 ∈ xv_tbl ∨ (mX10_needPerson.2.2.2.2 = [] ∧ ∃ host, Cond.methodLinkNest RX10 248 mX10_needPerson.1 host ∈ xv_tbl) := Or.inl (xv_tbl_mem 764 (by decide +kernel) rfl)
theorem lX10_251 : Cond.methodLink RX10 251 mX5_isThere.1 ∈ xv_tbl := (xv_tbl_mem 768 (by decide +kernel) rfl)
theorem lX10_254 : Cond.methodLink RX10 254 mX5_letLeave.1 ∈ xv_tbl := (xv_tbl_mem 772 (by decide +kernel) rfl)
theorem lX10_257 : Cond.methodLink RX10 257 mX5_letComeBack.1 ∈ xv_tbl := (xv_tbl_mem 776 (by decide +kernel) rfl)
theorem lL_174 : Cond.methodLink RL 174 mL_sign.1 ∈ xv_tbl ∨ (mL_sign.2.2.2.2 = [] ∧ ∃ host, Cond.methodLinkNest RL 174 mL_sign.1 host ∈ xv_tbl) := Or.inl (xv_tbl_mem 780 (by decide +kernel) rfl)
theorem lL_60 : Cond.methodLink RL 60 mX10_sign.1 ∈ xv_tbl := (xv_tbl_mem 783 (by decide +kernel) rfl)
theorem lX10_260 : Cond.methodLink RX10 260 mX5_hasSigned.1 ∈ xv_tbl := (xv_tbl_mem 787 (by decide +kernel) rfl)
theorem lX10_265 : Cond.methodLink RX10 265 mX5_addSignature.1 ∈ xv_tbl := (xv_tbl_mem 792 (by decide +kernel) rfl)
theorem lX5_77 : Cond.methodLink RX5 77 mJ6_bitCount_0f7a4.1 ∈ xv_tbl ∨ (mJ6_bitCount_0f7a4.2.2.2.2 = [] ∧ ∃ host, Cond.methodLinkNest RX5 77 mJ6_bitCount_0f7a4.1 host ∈ xv_tbl) := Or.inl (xv_tbl_mem 796 (by decide +kernel) rfl)
theorem lL_177 : Cond.methodLink RL 177 mL_hold.1 ∈ xv_tbl ∨ (mL_hold.2.2.2.2 = [] ∧ ∃ host, Cond.methodLinkNest RL 177 mL_hold.1 host ∈ xv_tbl) := Or.inl (xv_tbl_mem 797 (by decide +kernel) rfl)
theorem lL_63 : Cond.methodLink RL 63 mX10_hold.1 ∈ xv_tbl := (xv_tbl_mem 800 (by decide +kernel) rfl)
theorem lX10_270 : Cond.methodLink RX10 270 mX5_turnHold.1 ∈ xv_tbl := (xv_tbl_mem 805 (by decide +kernel) rfl)
theorem lL_180 : Cond.methodLink RL 180 mL_isReady.1 ∈ xv_tbl ∨ (mL_isReady.2.2.2.2 = [] ∧ ∃ host, Cond.methodLinkNest RL 180 mL_isReady.1 host ∈ xv_tbl) := Or.inl (xv_tbl_mem 809 (by decide +kernel) rfl)
theorem lL_67 : Cond.methodLink RL 67 mX10_isReady.1 ∈ xv_tbl := (xv_tbl_mem 812 (by decide +kernel) rfl)
theorem lX10_273 : Cond.methodLink RX10 273 mX5_canGo.1 ∈ xv_tbl := (xv_tbl_mem 816 (by decide +kernel) rfl)
theorem lX5_82 : Cond.methodLink RX5 82 mX5_isBare.1 ∈ xv_tbl := (xv_tbl_mem 820 (by decide +kernel) rfl)
theorem lL_183 : Cond.methodLink RL 183 mL_close.1 ∈ xv_tbl ∨ (mL_close.2.2.2.2 = [] ∧ ∃ host, Cond.methodLinkNest RL 183 mL_close.1 host ∈ xv_tbl) := Or.inl (xv_tbl_mem 821 (by decide +kernel) rfl)
theorem lL_70 : Cond.methodLink RL 70 mX10_close.1 ∈ xv_tbl := (xv_tbl_mem 824 (by decide +kernel) rfl)
theorem lX10_276 : Cond.methodLink RX10 276 mX5_canAllGo.1 ∈ xv_tbl := (xv_tbl_mem 828 (by decide +kernel) rfl)
theorem lX5_85 : Cond.methodLink RX5 85 mX5_canGo.1 ∈ xv_tbl := (xv_tbl_mem 832 (by decide +kernel) rfl)
theorem lX10_290 : Cond.methodLink RX10 290 mX1_keep.1 ∈ xv_tbl := (xv_tbl_mem 834 (by decide +kernel) rfl)
theorem lX1_27 : Cond.methodLink RX1 27 mX5_at.1 ∈ xv_tbl := (xv_tbl_mem 838 (by decide +kernel) rfl)
theorem lL_187 : Cond.methodLink RL 187 mL_printed.1 ∈ xv_tbl ∨ (mL_printed.2.2.2.2 = [] ∧ ∃ host, Cond.methodLinkNest RL 187 mL_printed.1 host ∈ xv_tbl) := Or.inl (xv_tbl_mem 839 (by decide +kernel) rfl)
theorem lL_74 : Cond.methodLink RL 74 mX10_printed.1 ∈ xv_tbl := (xv_tbl_mem 842 (by decide +kernel) rfl)
theorem lX10_294 : Cond.methodLink RX10 294 mX10_needEdition.1 ∈ xv_tbl := (xv_tbl_mem 846 (by decide +kernel) rfl)
theorem lX10_297 : Cond.methodLink RX10 297 mX1_at.1 ∈ xv_tbl := (xv_tbl_mem 851 (by decide +kernel) rfl)
theorem lX1_33 : Cond.methodLink RX1 33 mX1_isKept.1 ∈ xv_tbl := (xv_tbl_mem 855 (by decide +kernel) rfl)
theorem lX1_37 : Cond.methodLink RX1 37 mX10_isPage.1 ∈ xv_tbl ∨ (mX10_isPage.2.2.2.2 = [] ∧ ∃ host, Cond.methodLinkNest RX1 37 mX10_isPage.1 host ∈ xv_tbl) := Or.inr ⟨rfl, "PressHall", (xv_tbl_mem 859 (by decide +kernel) rfl)⟩
theorem lX1_40 : Cond.methodLink RX1 40 mX10_isCell.1 ∈ xv_tbl ∨ (mX10_isCell.2.2.2.2 = [] ∧ ∃ host, Cond.methodLinkNest RX1 40 mX10_isCell.1 host ∈ xv_tbl) := Or.inr ⟨rfl, "PressHall", (xv_tbl_mem 860 (by decide +kernel) rfl)⟩
theorem lL_190 : Cond.methodLink RL 190 mL_correct.1 ∈ xv_tbl ∨ (mL_correct.2.2.2.2 = [] ∧ ∃ host, Cond.methodLinkNest RL 190 mL_correct.1 host ∈ xv_tbl) := Or.inl (xv_tbl_mem 861 (by decide +kernel) rfl)
theorem lL_77 : Cond.methodLink RL 77 mX10_correct.1 ∈ xv_tbl := (xv_tbl_mem 864 (by decide +kernel) rfl)
theorem lX10_299 : Cond.methodLink RX10 299 mX1_has.1 ∈ xv_tbl := (xv_tbl_mem 868 (by decide +kernel) rfl)
theorem lX1_43 : Cond.methodLink RX1 43 mX1_at.1 ∈ xv_tbl := (xv_tbl_mem 872 (by decide +kernel) rfl)
theorem lX10_302 : Cond.methodLink RX10 302 mX1_owes.1 ∈ xv_tbl := (xv_tbl_mem 873 (by decide +kernel) rfl)
theorem lX10_307 : Cond.methodLink RX10 307 mX1_addOwed.1 ∈ xv_tbl := (xv_tbl_mem 878 (by decide +kernel) rfl)
theorem lL_193 : Cond.methodLink RL 193 mL_placeCorrection.1 ∈ xv_tbl ∨ (mL_placeCorrection.2.2.2.2 = [] ∧ ∃ host, Cond.methodLinkNest RL 193 mL_placeCorrection.1 host ∈ xv_tbl) := Or.inl (xv_tbl_mem 882 (by decide +kernel) rfl)
theorem lL_80 : Cond.methodLink RL 80 mX10_placeCorrection.1 ∈ xv_tbl := (xv_tbl_mem 885 (by decide +kernel) rfl)
theorem lX10_312 : Cond.methodLink RX10 312 mX1_longestOwed.1 ∈ xv_tbl := (xv_tbl_mem 890 (by decide +kernel) rfl)
theorem lX10_324 : Cond.methodLink RX10 324 mX5_lowestFree.1 ∈ xv_tbl := (xv_tbl_mem 894 (by decide +kernel) rfl)
theorem lX10_330 : Cond.methodLink RX10 330 mX1_dropLongestOwed.1 ∈ xv_tbl := (xv_tbl_mem 898 (by decide +kernel) rfl)
theorem lL_196 : Cond.methodLink RL 196 mL_clean.1 ∈ xv_tbl ∨ (mL_clean.2.2.2.2 = [] ∧ ∃ host, Cond.methodLinkNest RL 196 mL_clean.1 host ∈ xv_tbl) := Or.inl (xv_tbl_mem 902 (by decide +kernel) rfl)
theorem lL_83 : Cond.methodLink RL 83 mX10_clean.1 ∈ xv_tbl := (xv_tbl_mem 905 (by decide +kernel) rfl)
theorem lL_199 : Cond.methodLink RL 199 mL_pass.1 ∈ xv_tbl ∨ (mL_pass.2.2.2.2 = [] ∧ ∃ host, Cond.methodLinkNest RL 199 mL_pass.1 host ∈ xv_tbl) := Or.inl (xv_tbl_mem 909 (by decide +kernel) rfl)
theorem lL_86 : Cond.methodLink RL 86 mX10_pass.1 ∈ xv_tbl := (xv_tbl_mem 912 (by decide +kernel) rfl)
theorem lL_202 : Cond.methodLink RL 202 mL_truck.1 ∈ xv_tbl ∨ (mL_truck.2.2.2.2 = [] ∧ ∃ host, Cond.methodLinkNest RL 202 mL_truck.1 host ∈ xv_tbl) := Or.inl (xv_tbl_mem 916 (by decide +kernel) rfl)
theorem lL_89 : Cond.methodLink RL 89 mX10_truck.1 ∈ xv_tbl := (xv_tbl_mem 919 (by decide +kernel) rfl)
theorem lX10_336 : Cond.methodLink RX10 336 mX7_add.1 ∈ xv_tbl := (xv_tbl_mem 924 (by decide +kernel) rfl)
theorem lL_205 : Cond.methodLink RL 205 mL_late.1 ∈ xv_tbl ∨ (mL_late.2.2.2.2 = [] ∧ ∃ host, Cond.methodLinkNest RL 205 mL_late.1 host ∈ xv_tbl) := Or.inl (xv_tbl_mem 928 (by decide +kernel) rfl)
theorem lL_92 : Cond.methodLink RL 92 mX10_late.1 ∈ xv_tbl := (xv_tbl_mem 931 (by decide +kernel) rfl)
theorem lX10_341 : Cond.methodLink RX10 341 mX1_minuteOf.1 ∈ xv_tbl := (xv_tbl_mem 936 (by decide +kernel) rfl)
theorem lX10_344 : Cond.methodLink RX10 344 mX7_minutesLate.1 ∈ xv_tbl := (xv_tbl_mem 940 (by decide +kernel) rfl)
theorem lX7_22 : Cond.methodLink RX7 22 mX7_isAhead.1 ∈ xv_tbl := (xv_tbl_mem 944 (by decide +kernel) rfl)
theorem lX7_26 : Cond.methodLink RX7 26 mJ9_max_7cf53.1 ∈ xv_tbl ∨ (mJ9_max_7cf53.2.2.2.2 = [] ∧ ∃ host, Cond.methodLinkNest RX7 26 mJ9_max_7cf53.1 host ∈ xv_tbl) := Or.inl (xv_tbl_mem 948 (by decide +kernel) rfl)
theorem lL_208 : Cond.methodLink RL 208 mL_word.1 ∈ xv_tbl ∨ (mL_word.2.2.2.2 = [] ∧ ∃ host, Cond.methodLinkNest RL 208 mL_word.1 host ∈ xv_tbl) := Or.inl (xv_tbl_mem 951 (by decide +kernel) rfl)
theorem lL_95 : Cond.methodLink RL 95 mX10_word.1 ∈ xv_tbl := (xv_tbl_mem 954 (by decide +kernel) rfl)
theorem lX10_350 : Cond.methodLink RX10 350 mX2_add.1 ∈ xv_tbl := (xv_tbl_mem 959 (by decide +kernel) rfl)
theorem lL_211 : Cond.methodLink RL 211 mL_fit.1 ∈ xv_tbl ∨ (mL_fit.2.2.2.2 = [] ∧ ∃ host, Cond.methodLinkNest RL 211 mL_fit.1 host ∈ xv_tbl) := Or.inl (xv_tbl_mem 963 (by decide +kernel) rfl)
theorem lL_98 : Cond.methodLink RL 98 mX10_fit.1 ∈ xv_tbl := (xv_tbl_mem 966 (by decide +kernel) rfl)
theorem lX10_351 : Cond.methodLink RX10 351 mX2_bestWithin.1 ∈ xv_tbl := (xv_tbl_mem 970 (by decide +kernel) rfl)
theorem lX2_22 : Cond.methodLink RX2 22 mX2_widthOf.1 ∈ xv_tbl := (xv_tbl_mem 974 (by decide +kernel) rfl)
theorem lX2_26 : Cond.methodLink RX2 26 mX2_isLongFirst.1 ∈ xv_tbl ∨ (mX2_isLongFirst.2.2.2.2 = [] ∧ ∃ host, Cond.methodLinkNest RX2 26 mX2_isLongFirst.1 host ∈ xv_tbl) := Or.inl (xv_tbl_mem 978 (by decide +kernel) rfl)
theorem lL_218 : Cond.methodLink RL 218 mL_weigh.1 ∈ xv_tbl ∨ (mL_weigh.2.2.2.2 = [] ∧ ∃ host, Cond.methodLinkNest RL 218 mL_weigh.1 host ∈ xv_tbl) := Or.inl (xv_tbl_mem 981 (by decide +kernel) rfl)
theorem lL_101 : Cond.methodLink RL 101 mX10_weigh.1 ∈ xv_tbl := (xv_tbl_mem 984 (by decide +kernel) rfl)
theorem lL_221 : Cond.methodLink RL 221 mL_crop.1 ∈ xv_tbl ∨ (mL_crop.2.2.2.2 = [] ∧ ∃ host, Cond.methodLinkNest RL 221 mL_crop.1 host ∈ xv_tbl) := Or.inl (xv_tbl_mem 989 (by decide +kernel) rfl)
theorem lL_104 : Cond.methodLink RL 104 mX10_crop.1 ∈ xv_tbl := (xv_tbl_mem 992 (by decide +kernel) rfl)
theorem lX10_355 : Cond.methodLink RX10 355 mX10_weightOf.1 ∈ xv_tbl := (xv_tbl_mem 996 (by decide +kernel) rfl)
theorem lX10_439 : Cond.methodLink RX10 439 mX10_digitAt.1 ∈ xv_tbl ∨ (mX10_digitAt.2.2.2.2 = [] ∧ ∃ host, Cond.methodLinkNest RX10 439 mX10_digitAt.1 host ∈ xv_tbl) := Or.inl (xv_tbl_mem 1000 (by decide +kernel) rfl)
theorem lL_224 : Cond.methodLink RL 224 mL_wire.1 ∈ xv_tbl ∨ (mL_wire.2.2.2.2 = [] ∧ ∃ host, Cond.methodLinkNest RL 224 mL_wire.1 host ∈ xv_tbl) := Or.inl (xv_tbl_mem 1003 (by decide +kernel) rfl)
theorem lL_107 : Cond.methodLink RL 107 mX10_wire.1 ∈ xv_tbl := (xv_tbl_mem 1006 (by decide +kernel) rfl)
theorem lX10_360 : Cond.methodLink RX10 360 mX9_firstAlike.1 ∈ xv_tbl := (xv_tbl_mem 1011 (by decide +kernel) rfl)
theorem lX9_22 : Cond.methodLink RX9 22 mJ6_bitCount_0f7a4.1 ∈ xv_tbl ∨ (mJ6_bitCount_0f7a4.2.2.2.2 = [] ∧ ∃ host, Cond.methodLinkNest RX9 22 mJ6_bitCount_0f7a4.1 host ∈ xv_tbl) := Or.inl (xv_tbl_mem 1015 (by decide +kernel) rfl)
theorem lX10_363 : Cond.methodLink RX10 363 mX9_merge.1 ∈ xv_tbl := (xv_tbl_mem 1016 (by decide +kernel) rfl)
theorem lX9_28 : Cond.methodLink RX9 28 mJ9_max_7cf53.1 ∈ xv_tbl ∨ (mJ9_max_7cf53.2.2.2.2 = [] ∧ ∃ host, Cond.methodLinkNest RX9 28 mJ9_max_7cf53.1 host ∈ xv_tbl) := Or.inl (xv_tbl_mem 1020 (by decide +kernel) rfl)
theorem lX10_369 : Cond.methodLink RX10 369 mX9_add.1 ∈ xv_tbl := (xv_tbl_mem 1022 (by decide +kernel) rfl)
theorem lL_227 : Cond.methodLink RL 227 mL_take.1 ∈ xv_tbl ∨ (mL_take.2.2.2.2 = [] ∧ ∃ host, Cond.methodLinkNest RL 227 mL_take.1 host ∈ xv_tbl) := Or.inl (xv_tbl_mem 1026 (by decide +kernel) rfl)
theorem lL_110 : Cond.methodLink RL 110 mX10_take.1 ∈ xv_tbl := (xv_tbl_mem 1029 (by decide +kernel) rfl)
theorem lX10_372 : Cond.methodLink RX10 372 mX9_mostUrgent.1 ∈ xv_tbl := (xv_tbl_mem 1034 (by decide +kernel) rfl)
theorem lX10_375 : Cond.methodLink RX10 375 mX9_remove.1 ∈ xv_tbl := (xv_tbl_mem 1038 (by decide +kernel) rfl)
theorem lL_230 : Cond.methodLink RL 230 mL_numbers.1 ∈ xv_tbl ∨ (mL_numbers.2.2.2.2 = [] ∧ ∃ host, Cond.methodLinkNest RL 230 mL_numbers.1 host ∈ xv_tbl) := Or.inl (xv_tbl_mem 1042 (by decide +kernel) rfl)
theorem lL_113 : Cond.methodLink RL 113 mX10_numbers.1 ∈ xv_tbl := (xv_tbl_mem 1045 (by decide +kernel) rfl)
theorem lX10_378 : Cond.methodLink RX10 378 mX10_isPuzzleRow.1 ∈ xv_tbl ∨ (mX10_isPuzzleRow.2.2.2.2 = [] ∧ ∃ host, Cond.methodLinkNest RX10 378 mX10_isPuzzleRow.1 host ∈ xv_tbl) := Or.inl (xv_tbl_mem 1049 (by decide +kernel) rfl)
theorem lX10_386 : Cond.methodLink RX10 386 mX4_setRow.1 ∈ xv_tbl := (xv_tbl_mem 1053 (by decide +kernel) rfl)
theorem lX4_24 : Cond.methodLink RX4 24 mX10_digitAt.1 ∈ xv_tbl ∨ (mX10_digitAt.2.2.2.2 = [] ∧ ∃ host, Cond.methodLinkNest RX4 24 mX10_digitAt.1 host ∈ xv_tbl) := Or.inr ⟨rfl, "PressHall", (xv_tbl_mem 1057 (by decide +kernel) rfl)⟩
theorem nL_118 : xv_N RL 118 11 49 := ⟨RX11, TX11, rfl, inX11, (xv_tbl_mem 1058 (by decide +kernel) rfl), (xv_tbl_mem 1059 (by decide +kernel) rfl), (xv_tbl_mem 10 (by decide +kernel) rfl), by decide +kernel, by decide +kernel⟩
theorem kL_118 : Cond.classLink RL 118 "PressHallModel" ∈ xv_tbl := (xv_tbl_mem 1058 (by decide +kernel) rfl)
theorem lL_120 : Cond.methodLink RL 120 mX11_init.1 ∈ xv_tbl := (xv_tbl_mem 1060 (by decide +kernel) rfl)
theorem lX11_1 : Cond.methodLink RX11 1 Lib.objectInit ∈ xv_tbl := (xv_tbl_mem 1063 (by decide +kernel) rfl)
theorem gX11_7 : xv_G RX11 7 11 0 := ⟨RX11, TX11, 49, rfl, by decide, inX11, Or.inl (xv_tbl_mem 1064 (by decide +kernel) rfl)⟩
theorem gX11_13 : xv_G RX11 13 11 1 := ⟨RX11, TX11, 49, rfl, by decide, inX11, Or.inl (xv_tbl_mem 1065 (by decide +kernel) rfl)⟩
theorem gX11_17 : xv_G RX11 17 11 2 := ⟨RX11, TX11, 49, rfl, by decide, inX11, Or.inl (xv_tbl_mem 1066 (by decide +kernel) rfl)⟩
theorem gX11_144 : xv_G RX11 144 11 3 := ⟨RX11, TX11, 49, rfl, by decide, inX11, Or.inl (xv_tbl_mem 1067 (by decide +kernel) rfl)⟩
theorem gX11_20 : xv_G RX11 20 11 4 := ⟨RX11, TX11, 49, rfl, by decide, inX11, Or.inl (xv_tbl_mem 1068 (by decide +kernel) rfl)⟩
theorem gX11_147 : xv_G RX11 147 11 5 := ⟨RX11, TX11, 49, rfl, by decide, inX11, Or.inl (xv_tbl_mem 1069 (by decide +kernel) rfl)⟩
theorem gX11_23 : xv_G RX11 23 11 6 := ⟨RX11, TX11, 49, rfl, by decide, inX11, Or.inl (xv_tbl_mem 1070 (by decide +kernel) rfl)⟩
theorem gX11_26 : xv_G RX11 26 11 7 := ⟨RX11, TX11, 49, rfl, by decide, inX11, Or.inl (xv_tbl_mem 1071 (by decide +kernel) rfl)⟩
theorem gX11_29 : xv_G RX11 29 11 8 := ⟨RX11, TX11, 49, rfl, by decide, inX11, Or.inl (xv_tbl_mem 1072 (by decide +kernel) rfl)⟩
theorem gX11_32 : xv_G RX11 32 11 9 := ⟨RX11, TX11, 49, rfl, by decide, inX11, Or.inl (xv_tbl_mem 1073 (by decide +kernel) rfl)⟩
theorem gX11_35 : xv_G RX11 35 11 10 := ⟨RX11, TX11, 49, rfl, by decide, inX11, Or.inl (xv_tbl_mem 1074 (by decide +kernel) rfl)⟩
theorem gX11_38 : xv_G RX11 38 11 11 := ⟨RX11, TX11, 49, rfl, by decide, inX11, Or.inl (xv_tbl_mem 1075 (by decide +kernel) rfl)⟩
theorem gX11_41 : xv_G RX11 41 11 12 := ⟨RX11, TX11, 49, rfl, by decide, inX11, Or.inl (xv_tbl_mem 1076 (by decide +kernel) rfl)⟩
theorem gX11_172 : xv_G RX11 172 11 13 := ⟨RX11, TX11, 49, rfl, by decide, inX11, Or.inl (xv_tbl_mem 1077 (by decide +kernel) rfl)⟩
theorem gX11_44 : xv_G RX11 44 11 14 := ⟨RX11, TX11, 49, rfl, by decide, inX11, Or.inl (xv_tbl_mem 1078 (by decide +kernel) rfl)⟩
theorem gX11_47 : xv_G RX11 47 11 15 := ⟨RX11, TX11, 49, rfl, by decide, inX11, Or.inl (xv_tbl_mem 1079 (by decide +kernel) rfl)⟩
theorem gX11_50 : xv_G RX11 50 11 16 := ⟨RX11, TX11, 49, rfl, by decide, inX11, Or.inl (xv_tbl_mem 1080 (by decide +kernel) rfl)⟩
theorem gX11_53 : xv_G RX11 53 11 17 := ⟨RX11, TX11, 49, rfl, by decide, inX11, Or.inl (xv_tbl_mem 1081 (by decide +kernel) rfl)⟩
theorem gX11_56 : xv_G RX11 56 11 18 := ⟨RX11, TX11, 49, rfl, by decide, inX11, Or.inl (xv_tbl_mem 1082 (by decide +kernel) rfl)⟩
theorem gX11_59 : xv_G RX11 59 11 19 := ⟨RX11, TX11, 49, rfl, by decide, inX11, Or.inl (xv_tbl_mem 1083 (by decide +kernel) rfl)⟩
theorem gX11_62 : xv_G RX11 62 11 20 := ⟨RX11, TX11, 49, rfl, by decide, inX11, Or.inl (xv_tbl_mem 1084 (by decide +kernel) rfl)⟩
theorem gX11_65 : xv_G RX11 65 11 21 := ⟨RX11, TX11, 49, rfl, by decide, inX11, Or.inl (xv_tbl_mem 1085 (by decide +kernel) rfl)⟩
theorem gX11_68 : xv_G RX11 68 11 22 := ⟨RX11, TX11, 49, rfl, by decide, inX11, Or.inl (xv_tbl_mem 1086 (by decide +kernel) rfl)⟩
theorem gX11_71 : xv_G RX11 71 11 23 := ⟨RX11, TX11, 49, rfl, by decide, inX11, Or.inl (xv_tbl_mem 1087 (by decide +kernel) rfl)⟩
theorem gX11_74 : xv_G RX11 74 11 24 := ⟨RX11, TX11, 49, rfl, by decide, inX11, Or.inl (xv_tbl_mem 1088 (by decide +kernel) rfl)⟩
theorem gX11_237 : xv_G RX11 237 11 25 := ⟨RX11, TX11, 49, rfl, by decide, inX11, Or.inl (xv_tbl_mem 1089 (by decide +kernel) rfl)⟩
theorem gX11_77 : xv_G RX11 77 11 26 := ⟨RX11, TX11, 49, rfl, by decide, inX11, Or.inl (xv_tbl_mem 1090 (by decide +kernel) rfl)⟩
theorem gX11_80 : xv_G RX11 80 11 27 := ⟨RX11, TX11, 49, rfl, by decide, inX11, Or.inl (xv_tbl_mem 1091 (by decide +kernel) rfl)⟩
theorem gX11_234 : xv_G RX11 234 11 28 := ⟨RX11, TX11, 49, rfl, by decide, inX11, Or.inl (xv_tbl_mem 1092 (by decide +kernel) rfl)⟩
theorem gX11_83 : xv_G RX11 83 11 29 := ⟨RX11, TX11, 49, rfl, by decide, inX11, Or.inl (xv_tbl_mem 1093 (by decide +kernel) rfl)⟩
theorem gX11_240 : xv_G RX11 240 11 30 := ⟨RX11, TX11, 49, rfl, by decide, inX11, Or.inl (xv_tbl_mem 1094 (by decide +kernel) rfl)⟩
theorem gX11_246 : xv_G RX11 246 11 31 := ⟨RX11, TX11, 49, rfl, by decide, inX11, Or.inl (xv_tbl_mem 1095 (by decide +kernel) rfl)⟩
theorem gX11_86 : xv_G RX11 86 11 32 := ⟨RX11, TX11, 49, rfl, by decide, inX11, Or.inl (xv_tbl_mem 1096 (by decide +kernel) rfl)⟩
theorem gX11_89 : xv_G RX11 89 11 33 := ⟨RX11, TX11, 49, rfl, by decide, inX11, Or.inl (xv_tbl_mem 1097 (by decide +kernel) rfl)⟩
theorem gX11_249 : xv_G RX11 249 11 34 := ⟨RX11, TX11, 49, rfl, by decide, inX11, Or.inl (xv_tbl_mem 1098 (by decide +kernel) rfl)⟩
theorem gX11_92 : xv_G RX11 92 11 35 := ⟨RX11, TX11, 49, rfl, by decide, inX11, Or.inl (xv_tbl_mem 1099 (by decide +kernel) rfl)⟩
theorem gX11_95 : xv_G RX11 95 11 36 := ⟨RX11, TX11, 49, rfl, by decide, inX11, Or.inl (xv_tbl_mem 1100 (by decide +kernel) rfl)⟩
theorem gX11_98 : xv_G RX11 98 11 37 := ⟨RX11, TX11, 49, rfl, by decide, inX11, Or.inl (xv_tbl_mem 1101 (by decide +kernel) rfl)⟩
theorem gX11_256 : xv_G RX11 256 11 38 := ⟨RX11, TX11, 49, rfl, by decide, inX11, Or.inl (xv_tbl_mem 1102 (by decide +kernel) rfl)⟩
theorem gX11_101 : xv_G RX11 101 11 39 := ⟨RX11, TX11, 49, rfl, by decide, inX11, Or.inl (xv_tbl_mem 1103 (by decide +kernel) rfl)⟩
theorem gX11_104 : xv_G RX11 104 11 40 := ⟨RX11, TX11, 49, rfl, by decide, inX11, Or.inl (xv_tbl_mem 1104 (by decide +kernel) rfl)⟩
theorem gX11_107 : xv_G RX11 107 11 41 := ⟨RX11, TX11, 49, rfl, by decide, inX11, Or.inl (xv_tbl_mem 1105 (by decide +kernel) rfl)⟩
theorem gX11_110 : xv_G RX11 110 11 42 := ⟨RX11, TX11, 49, rfl, by decide, inX11, Or.inl (xv_tbl_mem 1106 (by decide +kernel) rfl)⟩
theorem gX11_182 : xv_G RX11 182 11 43 := ⟨RX11, TX11, 49, rfl, by decide, inX11, Or.inl (xv_tbl_mem 1107 (by decide +kernel) rfl)⟩
theorem gX11_113 : xv_G RX11 113 11 44 := ⟨RX11, TX11, 49, rfl, by decide, inX11, Or.inl (xv_tbl_mem 1108 (by decide +kernel) rfl)⟩
theorem gX11_116 : xv_G RX11 116 11 45 := ⟨RX11, TX11, 49, rfl, by decide, inX11, Or.inl (xv_tbl_mem 1109 (by decide +kernel) rfl)⟩
theorem gX11_119 : xv_G RX11 119 11 46 := ⟨RX11, TX11, 49, rfl, by decide, inX11, Or.inl (xv_tbl_mem 1110 (by decide +kernel) rfl)⟩
theorem gX11_185 : xv_G RX11 185 11 47 := ⟨RX11, TX11, 49, rfl, by decide, inX11, Or.inl (xv_tbl_mem 1111 (by decide +kernel) rfl)⟩
theorem gX11_122 : xv_G RX11 122 11 48 := ⟨RX11, TX11, 49, rfl, by decide, inX11, Or.inl (xv_tbl_mem 1112 (by decide +kernel) rfl)⟩
theorem lL_127 : Cond.methodLink RL 127 mX11_thrown.1 ∈ xv_tbl := (xv_tbl_mem 1212 (by decide +kernel) rfl)
theorem lL_126 : Cond.methodLink RL 126 mX11_page.1 ∈ xv_tbl := (xv_tbl_mem 1216 (by decide +kernel) rfl)
theorem lX11_130 : Cond.methodLink RX11 130 mX11_isPage.1 ∈ xv_tbl ∨ (mX11_isPage.2.2.2.2 = [] ∧ ∃ host, Cond.methodLinkNest RX11 130 mX11_isPage.1 host ∈ xv_tbl) := Or.inl (xv_tbl_mem 1220 (by decide +kernel) rfl)
theorem lX11_126 : Cond.methodLink RX11 126 mX11_isIn.1 ∈ xv_tbl ∨ (mX11_isIn.2.2.2.2 = [] ∧ ∃ host, Cond.methodLinkNest RX11 126 mX11_isIn.1 host ∈ xv_tbl) := Or.inl (xv_tbl_mem 1223 (by decide +kernel) rfl)
theorem lX11_134 : Cond.methodLink RX11 134 mX11_isEmpty.1 ∈ xv_tbl := (xv_tbl_mem 1226 (by decide +kernel) rfl)
theorem lX11_137 : Cond.methodLink RX11 137 mX11_fails.1 ∈ xv_tbl := (xv_tbl_mem 1230 (by decide +kernel) rfl)
theorem lL_133 : Cond.methodLink RL 133 mX11_cell.1 ∈ xv_tbl := (xv_tbl_mem 1234 (by decide +kernel) rfl)
theorem lX11_140 : Cond.methodLink RX11 140 mX11_isCell.1 ∈ xv_tbl ∨ (mX11_isCell.2.2.2.2 = [] ∧ ∃ host, Cond.methodLinkNest RX11 140 mX11_isCell.1 host ∈ xv_tbl) := Or.inl (xv_tbl_mem 1238 (by decide +kernel) rfl)
theorem lL_137 : Cond.methodLink RL 137 mX11_touched.1 ∈ xv_tbl := (xv_tbl_mem 1241 (by decide +kernel) rfl)
theorem lL_140 : Cond.methodLink RL 140 mX11_distance.1 ∈ xv_tbl := (xv_tbl_mem 1245 (by decide +kernel) rfl)
theorem lL_144 : Cond.methodLink RL 144 mX11_advert.1 ∈ xv_tbl := (xv_tbl_mem 1249 (by decide +kernel) rfl)
theorem lL_148 : Cond.methodLink RL 148 mX11_place.1 ∈ xv_tbl := (xv_tbl_mem 1253 (by decide +kernel) rfl)
theorem lX11_158 : Cond.methodLink RX11 158 mX11_isAdvert.1 ∈ xv_tbl := (xv_tbl_mem 1257 (by decide +kernel) rfl)
theorem lX11_161 : Cond.methodLink RX11 161 mX11_fits.1 ∈ xv_tbl := (xv_tbl_mem 1261 (by decide +kernel) rfl)
theorem lX11_150 : Cond.methodLink RX11 150 mX11_apart.1 ∈ xv_tbl ∨ (mX11_apart.2.2.2.2 = [] ∧ ∃ host, Cond.methodLinkNest RX11 150 mX11_apart.1 host ∈ xv_tbl) := Or.inl (xv_tbl_mem 1265 (by decide +kernel) rfl)
theorem lX11_164 : Cond.methodLink RX11 164 mX11_isFree.1 ∈ xv_tbl := (xv_tbl_mem 1268 (by decide +kernel) rfl)
theorem lX11_167 : Cond.methodLink RX11 167 mX11_fills.1 ∈ xv_tbl := (xv_tbl_mem 1272 (by decide +kernel) rfl)
theorem lX11_154 : Cond.methodLink RX11 154 mX11_puts.1 ∈ xv_tbl := (xv_tbl_mem 1276 (by decide +kernel) rfl)
theorem lL_151 : Cond.methodLink RL 151 mX11_takeOff.1 ∈ xv_tbl := (xv_tbl_mem 1280 (by decide +kernel) rfl)
theorem lL_154 : Cond.methodLink RL 154 mX11_advertsIn.1 ∈ xv_tbl := (xv_tbl_mem 1284 (by decide +kernel) rfl)
theorem lL_158 : Cond.methodLink RL 158 mX11_story.1 ∈ xv_tbl := (xv_tbl_mem 1288 (by decide +kernel) rfl)
theorem lL_161 : Cond.methodLink RL 161 mX11_lay.1 ∈ xv_tbl := (xv_tbl_mem 1293 (by decide +kernel) rfl)
theorem lX11_206 : Cond.methodLink RX11 206 mX11_isStory.1 ∈ xv_tbl := (xv_tbl_mem 1297 (by decide +kernel) rfl)
theorem lX11_209 : Cond.methodLink RX11 209 mX11_finds.1 ∈ xv_tbl := (xv_tbl_mem 1301 (by decide +kernel) rfl)
theorem lX11_202 : Cond.methodLink RX11 202 mX11_ways.1 ∈ xv_tbl := (xv_tbl_mem 1305 (by decide +kernel) rfl)
theorem lX11_188 : Cond.methodLink RX11 188 mX11_platesOf.1 ∈ xv_tbl := (xv_tbl_mem 1309 (by decide +kernel) rfl)
theorem lX11_191 : Cond.methodLink RX11 191 mX11_cellsFor.1 ∈ xv_tbl := (xv_tbl_mem 1313 (by decide +kernel) rfl)
theorem lX11_195 : Cond.methodLink RX11 195 mX11_firstFor.1 ∈ xv_tbl := (xv_tbl_mem 1317 (by decide +kernel) rfl)
theorem lX11_175 : Cond.methodLink RX11 175 mX11_cellAt.1 ∈ xv_tbl ∨ (mX11_cellAt.2.2.2.2 = [] ∧ ∃ host, Cond.methodLinkNest RX11 175 mX11_cellAt.1 host ∈ xv_tbl) := Or.inl (xv_tbl_mem 1321 (by decide +kernel) rfl)
theorem lX11_198 : Cond.methodLink RX11 198 mX11_keeps.1 ∈ xv_tbl := (xv_tbl_mem 1324 (by decide +kernel) rfl)
theorem lX11_179 : Cond.methodLink RX11 179 mX11_size.1 ∈ xv_tbl ∨ (mX11_size.2.2.2.2 = [] ∧ ∃ host, Cond.methodLinkNest RX11 179 mX11_size.1 host ∈ xv_tbl) := Or.inl (xv_tbl_mem 1328 (by decide +kernel) rfl)
theorem lX11_213 : Cond.methodLink RX11 213 mX11_lays.1 ∈ xv_tbl := (xv_tbl_mem 1331 (by decide +kernel) rfl)
theorem lL_164 : Cond.methodLink RL 164 mX11_lift.1 ∈ xv_tbl := (xv_tbl_mem 1335 (by decide +kernel) rfl)
theorem lX11_220 : Cond.methodLink RX11 220 mX11_lifts.1 ∈ xv_tbl := (xv_tbl_mem 1339 (by decide +kernel) rfl)
theorem lX11_217 : Cond.methodLink RX11 217 mX11_clears.1 ∈ xv_tbl := (xv_tbl_mem 1343 (by decide +kernel) rfl)
theorem lL_167 : Cond.methodLink RL 167 mX11_change.1 ∈ xv_tbl := (xv_tbl_mem 1347 (by decide +kernel) rfl)
theorem lL_170 : Cond.methodLink RL 170 mX11_part.1 ∈ xv_tbl := (xv_tbl_mem 1351 (by decide +kernel) rfl)
theorem lL_173 : Cond.methodLink RL 173 mX11_person.1 ∈ xv_tbl := (xv_tbl_mem 1355 (by decide +kernel) rfl)
theorem lX11_224 : Cond.methodLink RX11 224 mX11_isPerson.1 ∈ xv_tbl ∨ (mX11_isPerson.2.2.2.2 = [] ∧ ∃ host, Cond.methodLinkNest RX11 224 mX11_isPerson.1 host ∈ xv_tbl) := Or.inl (xv_tbl_mem 1359 (by decide +kernel) rfl)
theorem lL_176 : Cond.methodLink RL 176 mX11_sign.1 ∈ xv_tbl := (xv_tbl_mem 1362 (by decide +kernel) rfl)
theorem lX11_227 : Cond.methodLink RX11 227 mX11_many.1 ∈ xv_tbl := (xv_tbl_mem 1366 (by decide +kernel) rfl)
theorem lL_179 : Cond.methodLink RL 179 mX11_hold.1 ∈ xv_tbl := (xv_tbl_mem 1370 (by decide +kernel) rfl)
theorem lL_182 : Cond.methodLink RL 182 mX11_isReady.1 ∈ xv_tbl := (xv_tbl_mem 1374 (by decide +kernel) rfl)
theorem lX11_231 : Cond.methodLink RX11 231 mX11_ready.1 ∈ xv_tbl := (xv_tbl_mem 1378 (by decide +kernel) rfl)
theorem lL_186 : Cond.methodLink RL 186 mX11_close.1 ∈ xv_tbl := (xv_tbl_mem 1382 (by decide +kernel) rfl)
theorem lL_189 : Cond.methodLink RL 189 mX11_printed.1 ∈ xv_tbl := (xv_tbl_mem 1386 (by decide +kernel) rfl)
theorem lX11_243 : Cond.methodLink RX11 243 mX11_isEdition.1 ∈ xv_tbl := (xv_tbl_mem 1390 (by decide +kernel) rfl)
theorem lL_192 : Cond.methodLink RL 192 mX11_correct.1 ∈ xv_tbl := (xv_tbl_mem 1394 (by decide +kernel) rfl)
theorem lL_195 : Cond.methodLink RL 195 mX11_placeCorrection.1 ∈ xv_tbl := (xv_tbl_mem 1398 (by decide +kernel) rfl)
theorem lL_198 : Cond.methodLink RL 198 mX11_clean.1 ∈ xv_tbl := (xv_tbl_mem 1402 (by decide +kernel) rfl)
theorem lL_201 : Cond.methodLink RL 201 mX11_pass.1 ∈ xv_tbl := (xv_tbl_mem 1406 (by decide +kernel) rfl)
theorem lL_204 : Cond.methodLink RL 204 mX11_truck.1 ∈ xv_tbl := (xv_tbl_mem 1410 (by decide +kernel) rfl)
theorem lL_207 : Cond.methodLink RL 207 mX11_late.1 ∈ xv_tbl := (xv_tbl_mem 1414 (by decide +kernel) rfl)
theorem lL_210 : Cond.methodLink RL 210 mX11_word.1 ∈ xv_tbl := (xv_tbl_mem 1418 (by decide +kernel) rfl)
theorem lL_213 : Cond.methodLink RL 213 mX11_fit.1 ∈ xv_tbl := (xv_tbl_mem 1422 (by decide +kernel) rfl)
theorem lL_217 : Cond.methodLink RL 217 mX11_dropWords.1 ∈ xv_tbl := (xv_tbl_mem 1426 (by decide +kernel) rfl)
theorem lL_220 : Cond.methodLink RL 220 mX11_weigh.1 ∈ xv_tbl := (xv_tbl_mem 1430 (by decide +kernel) rfl)
theorem lL_223 : Cond.methodLink RL 223 mX11_crop.1 ∈ xv_tbl := (xv_tbl_mem 1434 (by decide +kernel) rfl)
theorem lX11_252 : Cond.methodLink RX11 252 mX11_digit.1 ∈ xv_tbl ∨ (mX11_digit.2.2.2.2 = [] ∧ ∃ host, Cond.methodLinkNest RX11 252 mX11_digit.1 host ∈ xv_tbl) := Or.inl (xv_tbl_mem 1438 (by decide +kernel) rfl)
theorem lL_226 : Cond.methodLink RL 226 mX11_wire.1 ∈ xv_tbl := (xv_tbl_mem 1441 (by decide +kernel) rfl)
theorem lL_229 : Cond.methodLink RL 229 mX11_take.1 ∈ xv_tbl := (xv_tbl_mem 1446 (by decide +kernel) rfl)
theorem lL_233 : Cond.methodLink RL 233 mX11_numbers.1 ∈ xv_tbl := (xv_tbl_mem 1450 (by decide +kernel) rfl)
theorem lL_237 : Cond.methodLink RL 237 mX11_solutions.1 ∈ xv_tbl := (xv_tbl_mem 1454 (by decide +kernel) rfl)
theorem lX11_259 : Cond.methodLink RX11 259 mX11_isPossible.1 ∈ xv_tbl := (xv_tbl_mem 1458 (by decide +kernel) rfl)
theorem xv_objw : Cond.instanceMethod Lib.objectInit ∈ xv_tbl ∧ Cond.code Lib.objectInit ⟨#[0xb1]⟩ 1 none ∈ xv_tbl := ⟨(xv_tbl_mem 27 (by decide +kernel) rfl), (xv_tbl_mem 28 (by decide +kernel) rfl)⟩
theorem xv_maxw : Cond.static Lib.Math.max.name ∈ xv_tbl ∧ Cond.initialized "java/lang/Math" ∈ xv_tbl ∧ Cond.code Lib.Math.max.name Lib.Math.max.code 2 (some .int) ∈ xv_tbl := ⟨(xv_tbl_mem 949 (by decide +kernel) rfl), (xv_tbl_mem 20 (by decide +kernel) rfl), (xv_tbl_mem 950 (by decide +kernel) rfl)⟩
theorem xv_ao_a : Cond.arrayOver (.array .int) ∈ xv_tbl := (xv_tbl_mem 36 (by decide +kernel) rfl)
theorem xv_ac_int : Cond.arrayClass .int ∈ xv_tbl := (xv_tbl_mem 60 (by decide +kernel) rfl)
theorem xv_ac_boolean : Cond.arrayClass .boolean ∈ xv_tbl := (xv_tbl_mem 61 (by decide +kernel) rfl)
theorem xv_ao_0 : Cond.arrayOver (.object "PressHall$Advert") ∈ xv_tbl := (xv_tbl_mem 63 (by decide +kernel) rfl)
theorem xv_ao_6 : Cond.arrayOver (.object "PressHall$Story") ∈ xv_tbl := (xv_tbl_mem 65 (by decide +kernel) rfl)
theorem xv_ac_byte : Cond.arrayClass .byte ∈ xv_tbl := (xv_tbl_mem 365 (by decide +kernel) rfl)
theorem xv_ac_long : Cond.arrayClass .long ∈ xv_tbl := (xv_tbl_mem 1462 (by decide +kernel) rfl)
theorem hX10_93 : xv_H RX10 91 93 95 "java/lang/IllegalStateException" := ⟨by decide +kernel, (xv_tbl_mem 397 (by decide +kernel) rfl), (xv_tbl_mem 16 (by decide +kernel) rfl), ⟨_, List.mem_of_getElem? (i := 2) rfl⟩, xv_atsin (by decide +kernel) (by decide +kernel), List.all_eq_true.mp (by decide +kernel)⟩
theorem hX10_120 : xv_H RX10 91 120 95 "java/lang/IllegalStateException" := ⟨by decide +kernel, (xv_tbl_mem 397 (by decide +kernel) rfl), (xv_tbl_mem 16 (by decide +kernel) rfl), ⟨_, List.mem_of_getElem? (i := 4) rfl⟩, xv_atsin (by decide +kernel) (by decide +kernel), List.all_eq_true.mp (by decide +kernel)⟩
theorem hX10_133 : xv_H RX10 91 133 95 "java/lang/IllegalStateException" := ⟨by decide +kernel, (xv_tbl_mem 397 (by decide +kernel) rfl), (xv_tbl_mem 16 (by decide +kernel) rfl), ⟨_, List.mem_of_getElem? (i := 6) rfl⟩, xv_atsin (by decide +kernel) (by decide +kernel), List.all_eq_true.mp (by decide +kernel)⟩
theorem hX10_167 : xv_H RX10 91 167 95 "java/lang/IllegalStateException" := ⟨by decide +kernel, (xv_tbl_mem 397 (by decide +kernel) rfl), (xv_tbl_mem 16 (by decide +kernel) rfl), ⟨_, List.mem_of_getElem? (i := 7) rfl⟩, xv_atsin (by decide +kernel) (by decide +kernel), List.all_eq_true.mp (by decide +kernel)⟩
theorem hX10_174 : xv_H RX10 172 174 176 "java/lang/IndexOutOfBoundsException" := ⟨by decide +kernel, (xv_tbl_mem 298 (by decide +kernel) rfl), (xv_tbl_mem 14 (by decide +kernel) rfl), ⟨_, List.mem_of_getElem? (i := 8) rfl⟩, xv_atsin (by decide +kernel) (by decide +kernel), List.all_eq_true.mp (by decide +kernel)⟩
theorem hX10_190 : xv_H RX10 91 190 95 "java/lang/IllegalStateException" := ⟨by decide +kernel, (xv_tbl_mem 397 (by decide +kernel) rfl), (xv_tbl_mem 16 (by decide +kernel) rfl), ⟨_, List.mem_of_getElem? (i := 9) rfl⟩, xv_atsin (by decide +kernel) (by decide +kernel), List.all_eq_true.mp (by decide +kernel)⟩
theorem hX10_202 : xv_H RX10 91 202 95 "java/lang/IllegalStateException" := ⟨by decide +kernel, (xv_tbl_mem 397 (by decide +kernel) rfl), (xv_tbl_mem 16 (by decide +kernel) rfl), ⟨_, List.mem_of_getElem? (i := 11) rfl⟩, xv_atsin (by decide +kernel) (by decide +kernel), List.all_eq_true.mp (by decide +kernel)⟩
theorem hX10_221 : xv_H RX10 91 221 95 "java/lang/IllegalStateException" := ⟨by decide +kernel, (xv_tbl_mem 397 (by decide +kernel) rfl), (xv_tbl_mem 16 (by decide +kernel) rfl), ⟨_, List.mem_of_getElem? (i := 12) rfl⟩, xv_atsin (by decide +kernel) (by decide +kernel), List.all_eq_true.mp (by decide +kernel)⟩
theorem hX10_226 : xv_H RX10 91 226 95 "java/lang/IllegalStateException" := ⟨by decide +kernel, (xv_tbl_mem 397 (by decide +kernel) rfl), (xv_tbl_mem 16 (by decide +kernel) rfl), ⟨_, List.mem_of_getElem? (i := 13) rfl⟩, xv_atsin (by decide +kernel) (by decide +kernel), List.all_eq_true.mp (by decide +kernel)⟩
theorem hX10_263 : xv_H RX10 91 263 95 "java/lang/IllegalStateException" := ⟨by decide +kernel, (xv_tbl_mem 397 (by decide +kernel) rfl), (xv_tbl_mem 16 (by decide +kernel) rfl), ⟨_, List.mem_of_getElem? (i := 15) rfl⟩, xv_atsin (by decide +kernel) (by decide +kernel), List.all_eq_true.mp (by decide +kernel)⟩
theorem hX10_268 : xv_H RX10 91 268 95 "java/lang/IllegalStateException" := ⟨by decide +kernel, (xv_tbl_mem 397 (by decide +kernel) rfl), (xv_tbl_mem 16 (by decide +kernel) rfl), ⟨_, List.mem_of_getElem? (i := 16) rfl⟩, xv_atsin (by decide +kernel) (by decide +kernel), List.all_eq_true.mp (by decide +kernel)⟩
theorem hX10_285 : xv_H RX10 91 285 95 "java/lang/IllegalStateException" := ⟨by decide +kernel, (xv_tbl_mem 397 (by decide +kernel) rfl), (xv_tbl_mem 16 (by decide +kernel) rfl), ⟨_, List.mem_of_getElem? (i := 17) rfl⟩, xv_atsin (by decide +kernel) (by decide +kernel), List.all_eq_true.mp (by decide +kernel)⟩
theorem hX10_305 : xv_H RX10 91 305 95 "java/lang/IllegalStateException" := ⟨by decide +kernel, (xv_tbl_mem 397 (by decide +kernel) rfl), (xv_tbl_mem 16 (by decide +kernel) rfl), ⟨_, List.mem_of_getElem? (i := 19) rfl⟩, xv_atsin (by decide +kernel) (by decide +kernel), List.all_eq_true.mp (by decide +kernel)⟩
theorem hX10_310 : xv_H RX10 91 310 95 "java/lang/IllegalStateException" := ⟨by decide +kernel, (xv_tbl_mem 397 (by decide +kernel) rfl), (xv_tbl_mem 16 (by decide +kernel) rfl), ⟨_, List.mem_of_getElem? (i := 20) rfl⟩, xv_atsin (by decide +kernel) (by decide +kernel), List.all_eq_true.mp (by decide +kernel)⟩
theorem hX10_334 : xv_H RX10 91 334 95 "java/lang/IllegalStateException" := ⟨by decide +kernel, (xv_tbl_mem 397 (by decide +kernel) rfl), (xv_tbl_mem 16 (by decide +kernel) rfl), ⟨_, List.mem_of_getElem? (i := 21) rfl⟩, xv_atsin (by decide +kernel) (by decide +kernel), List.all_eq_true.mp (by decide +kernel)⟩
theorem hX10_339 : xv_H RX10 172 339 176 "java/lang/IndexOutOfBoundsException" := ⟨by decide +kernel, (xv_tbl_mem 298 (by decide +kernel) rfl), (xv_tbl_mem 14 (by decide +kernel) rfl), ⟨_, List.mem_of_getElem? (i := 22) rfl⟩, xv_atsin (by decide +kernel) (by decide +kernel), List.all_eq_true.mp (by decide +kernel)⟩
theorem hX10_348 : xv_H RX10 91 348 95 "java/lang/IllegalStateException" := ⟨by decide +kernel, (xv_tbl_mem 397 (by decide +kernel) rfl), (xv_tbl_mem 16 (by decide +kernel) rfl), ⟨_, List.mem_of_getElem? (i := 23) rfl⟩, xv_atsin (by decide +kernel) (by decide +kernel), List.all_eq_true.mp (by decide +kernel)⟩
theorem hX10_367 : xv_H RX10 91 367 95 "java/lang/IllegalStateException" := ⟨by decide +kernel, (xv_tbl_mem 397 (by decide +kernel) rfl), (xv_tbl_mem 16 (by decide +kernel) rfl), ⟨_, List.mem_of_getElem? (i := 24) rfl⟩, xv_atsin (by decide +kernel) (by decide +kernel), List.all_eq_true.mp (by decide +kernel)⟩
theorem hX10_370 : xv_H RX10 91 370 95 "java/lang/IllegalStateException" := ⟨by decide +kernel, (xv_tbl_mem 397 (by decide +kernel) rfl), (xv_tbl_mem 16 (by decide +kernel) rfl), ⟨_, List.mem_of_getElem? (i := 25) rfl⟩, xv_atsin (by decide +kernel) (by decide +kernel), List.all_eq_true.mp (by decide +kernel)⟩
theorem hX10_383 : xv_H RX10 381 383 385 "java/lang/IllegalArgumentException" := ⟨by decide +kernel, (xv_tbl_mem 369 (by decide +kernel) rfl), (xv_tbl_mem 15 (by decide +kernel) rfl), ⟨_, List.mem_of_getElem? (i := 26) rfl⟩, xv_atsin (by decide +kernel) (by decide +kernel), List.all_eq_true.mp (by decide +kernel)⟩
theorem hX10_395 : xv_H RX10 172 395 176 "java/lang/IndexOutOfBoundsException" := ⟨by decide +kernel, (xv_tbl_mem 298 (by decide +kernel) rfl), (xv_tbl_mem 14 (by decide +kernel) rfl), ⟨_, List.mem_of_getElem? (i := 0) rfl⟩, xv_atsin (by decide +kernel) (by decide +kernel), List.all_eq_true.mp (by decide +kernel)⟩
theorem hX10_400 : xv_H RX10 172 400 176 "java/lang/IndexOutOfBoundsException" := ⟨by decide +kernel, (xv_tbl_mem 298 (by decide +kernel) rfl), (xv_tbl_mem 14 (by decide +kernel) rfl), ⟨_, List.mem_of_getElem? (i := 3) rfl⟩, xv_atsin (by decide +kernel) (by decide +kernel), List.all_eq_true.mp (by decide +kernel)⟩
theorem hX10_402 : xv_H RX10 172 402 176 "java/lang/IndexOutOfBoundsException" := ⟨by decide +kernel, (xv_tbl_mem 298 (by decide +kernel) rfl), (xv_tbl_mem 14 (by decide +kernel) rfl), ⟨_, List.mem_of_getElem? (i := 14) rfl⟩, xv_atsin (by decide +kernel) (by decide +kernel), List.all_eq_true.mp (by decide +kernel)⟩
theorem hX10_404 : xv_H RX10 381 404 385 "java/lang/IllegalArgumentException" := ⟨by decide +kernel, (xv_tbl_mem 369 (by decide +kernel) rfl), (xv_tbl_mem 15 (by decide +kernel) rfl), ⟨_, List.mem_of_getElem? (i := 1) rfl⟩, xv_atsin (by decide +kernel) (by decide +kernel), List.all_eq_true.mp (by decide +kernel)⟩
theorem hX10_406 : xv_H RX10 172 406 176 "java/lang/IndexOutOfBoundsException" := ⟨by decide +kernel, (xv_tbl_mem 298 (by decide +kernel) rfl), (xv_tbl_mem 14 (by decide +kernel) rfl), ⟨_, List.mem_of_getElem? (i := 18) rfl⟩, xv_atsin (by decide +kernel) (by decide +kernel), List.all_eq_true.mp (by decide +kernel)⟩
theorem hX10_408 : xv_H RX10 172 408 176 "java/lang/IndexOutOfBoundsException" := ⟨by decide +kernel, (xv_tbl_mem 298 (by decide +kernel) rfl), (xv_tbl_mem 14 (by decide +kernel) rfl), ⟨_, List.mem_of_getElem? (i := 5) rfl⟩, xv_atsin (by decide +kernel) (by decide +kernel), List.all_eq_true.mp (by decide +kernel)⟩
theorem hX10_410 : xv_H RX10 172 410 176 "java/lang/IndexOutOfBoundsException" := ⟨by decide +kernel, (xv_tbl_mem 298 (by decide +kernel) rfl), (xv_tbl_mem 14 (by decide +kernel) rfl), ⟨_, List.mem_of_getElem? (i := 10) rfl⟩, xv_atsin (by decide +kernel) (by decide +kernel), List.all_eq_true.mp (by decide +kernel)⟩
