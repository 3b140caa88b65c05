theorem xv_atsin {L : List Cond} (h1 : L.all (fun w => decide (w ∈ lw_tbl)) = true) (h2 : L.all xv_g = true) : ∀ w ∈ L, w ∈ xv_tbl := fun w hw => List.mem_filter.mpr ⟨of_decide_eq_true (List.all_eq_true.mp h1 w hw), List.all_eq_true.mp h2 w hw⟩
abbrev mX0_init : xv_M := (yX0_init, cX0_init, 7, none, [])
abbrev mX0_lowestPage : xv_M := (yX0_lowestPage, cX0_lowestPage, 1, some (.int), [])
abbrev mX0_highestPage : xv_M := (yX0_highestPage, cX0_highestPage, 1, some (.int), [])
abbrev mX0_isPlaced : xv_M := (yX0_isPlaced, cX0_isPlaced, 1, some (.boolean), [])
abbrev mX0_putAt : xv_M := (yX0_putAt, cX0_putAt, 3, none, [])
abbrev mX0_whereItIs : xv_M := (yX0_whereItIs, cX0_whereItIs, 1, some (.int), [])
abbrev mX1_init : xv_M := (yX1_init, cX1_init, 1, none, [])
abbrev mX1_keep : xv_M := (yX1_keep, cX1_keep, 5, none, [])
abbrev mX1_isKept : xv_M := (yX1_isKept, cX1_isKept, 2, some (.boolean), [])
abbrev mX1_at : xv_M := (yX1_at, cX1_at, 4, some (.int), [])
abbrev mX1_has : xv_M := (yX1_has, cX1_has, 5, some (.boolean), [])
abbrev mX1_owes : xv_M := (yX1_owes, cX1_owes, 3, some (.boolean), [])
abbrev mX1_addOwed : xv_M := (yX1_addOwed, cX1_addOwed, 2, none, [])
abbrev mX1_longestOwed : xv_M := (yX1_longestOwed, cX1_longestOwed, 1, some (.int), [])
abbrev mX1_dropLongestOwed : xv_M := (yX1_dropLongestOwed, cX1_dropLongestOwed, 2, none, [])
abbrev mX2_init : xv_M := (yX2_init, cX2_init, 1, none, [])
abbrev mX3_init : xv_M := (yX3_init, cX3_init, 2, none, [])
abbrev mX3_find : xv_M := (yX3_find, cX3_find, 5, some (.boolean), [])
abbrev mX3_tryOnePage : xv_M := (yX3_tryOnePage, cX3_tryOnePage, 5, none, [])
abbrev mX3_tryTwoPages : xv_M := (yX3_tryTwoPages, cX3_tryTwoPages, 8, none, [])
abbrev mX3_setRun : xv_M := (yX3_setRun, cX3_setRun, 6, some (.boolean), [])
abbrev mX3_keepIfCheaper : xv_M := (yX3_keepIfCheaper, cX3_keepIfCheaper, 2, none, [])
abbrev mX4_init : xv_M := (yX4_init, cX4_init, 1, none, [])
abbrev mX5_init : xv_M := (yX5_init, cX5_init, 1, none, [])
abbrev mX5_setKind : xv_M := (yX5_setKind, cX5_setKind, 4, none, [])
abbrev mX5_sectionOf : xv_M := (yX5_sectionOf, cX5_sectionOf, 2, some (.int), [])
abbrev mX5_hasColour : xv_M := (yX5_hasColour, cX5_hasColour, 2, some (.boolean), [])
abbrev mX5_at : xv_M := (yX5_at, cX5_at, 3, some (.int), [])
abbrev mX5_put : xv_M := (yX5_put, cX5_put, 4, none, [])
abbrev mX5_isBare : xv_M := (yX5_isBare, cX5_isBare, 3, some (.boolean), [])
abbrev mX5_lowestFree : xv_M := (yX5_lowestFree, cX5_lowestFree, 3, some (.int), [])
abbrev mX5_freeAllOf : xv_M := (yX5_freeAllOf, cX5_freeAllOf, 4, none, [])
abbrev mX5_platesOf : xv_M := (yX5_platesOf, cX5_platesOf, 5, some (.int), [])
abbrev mX5_freeRectangle : xv_M := (yX5_freeRectangle, cX5_freeRectangle, 6, some (.int), [])
abbrev mX5_isFreeRectangle : xv_M := (yX5_isFreeRectangle, cX5_isFreeRectangle, 7, some (.boolean), [])
abbrev mX5_fillRectangle : xv_M := (yX5_fillRectangle, cX5_fillRectangle, 5, none, [])
abbrev mX5_freeRun : xv_M := (yX5_freeRun, cX5_freeRun, 7, some (.int), [])
abbrev mX5_isThere : xv_M := (yX5_isThere, cX5_isThere, 2, some (.boolean), [])
abbrev mX5_letLeave : xv_M := (yX5_letLeave, cX5_letLeave, 4, none, [])
abbrev mX5_letComeBack : xv_M := (yX5_letComeBack, cX5_letComeBack, 2, none, [])
abbrev mX5_hasSigned : xv_M := (yX5_hasSigned, cX5_hasSigned, 3, some (.boolean), [])
abbrev mX5_addSignature : xv_M := (yX5_addSignature, cX5_addSignature, 3, some (.int), [])
abbrev mX5_turnHold : xv_M := (yX5_turnHold, cX5_turnHold, 3, some (.boolean), [])
abbrev mX5_canGo : xv_M := (yX5_canGo, cX5_canGo, 2, some (.boolean), [])
abbrev mX5_canAllGo : xv_M := (yX5_canAllGo, cX5_canAllGo, 2, some (.boolean), [])
abbrev mX6_init : xv_M := (yX6_init, cX6_init, 5, none, [])
abbrev mX6_isLaid : xv_M := (yX6_isLaid, cX6_isLaid, 1, some (.boolean), [])
abbrev mX6_linesOfFirst : xv_M := (yX6_linesOfFirst, cX6_linesOfFirst, 5, some (.int), [])
abbrev mX6_cellsFor : xv_M := (yX6_cellsFor, cX6_cellsFor, 4, some (.int), [])
abbrev mX7_init : xv_M := (yX7_init, cX7_init, 1, none, [])
abbrev mX8_init : xv_M := (yX8_init, cX8_init, 1, none, [])
abbrev mX8_clear : xv_M := (yX8_clear, cX8_clear, 2, none, [])
abbrev mX8_setPart : xv_M := (yX8_setPart, cX8_setPart, 5, none, [])
abbrev mX8_copy : xv_M := (yX8_copy, cX8_copy, 3, none, [])
abbrev mX8_pageOf : xv_M := (yX8_pageOf, cX8_pageOf, 2, some (.int), [])
abbrev mX8_start : xv_M := (yX8_start, cX8_start, 2, some (.int), [])
abbrev mX8_size : xv_M := (yX8_size, cX8_size, 2, some (.int), [])
abbrev mX8_plates : xv_M := (yX8_plates, cX8_plates, 3, some (.int), [])
abbrev mX9_init : xv_M := (yX9_init, cX9_init, 1, none, [])
abbrev mX10_init : xv_M := (yX10_init, cX10_init, 1, none, [])
abbrev mX10_page : xv_M := (yX10_page, cX10_page, 4, none, [])
abbrev mX10_cell : xv_M := (yX10_cell, cX10_cell, 3, some (.int), [])
abbrev mX10_touched : xv_M := (yX10_touched, cX10_touched, 1, some (.int), [])
abbrev mX10_distance : xv_M := (yX10_distance, cX10_distance, 4, some (.int), [])
abbrev mX10_advert : xv_M := (yX10_advert, cX10_advert, 7, some (.int), [])
abbrev mX10_place : xv_M := (yX10_place, cX10_place, 5, some (.int), [])
abbrev mX10_takeOff : xv_M := (yX10_takeOff, cX10_takeOff, 4, some (.int), [])
abbrev mX10_advertsIn : xv_M := (yX10_advertsIn, cX10_advertsIn, 5, some (.int), [])
abbrev mX10_story : xv_M := (yX10_story, cX10_story, 5, some (.int), [])
abbrev mX10_lay : xv_M := (yX10_lay, cX10_lay, 3, some (.int), [])
abbrev mX10_lift : xv_M := (yX10_lift, cX10_lift, 4, some (.int), [])
abbrev mX10_change : xv_M := (yX10_change, cX10_change, 7, some (.int), [])
abbrev mX10_part : xv_M := (yX10_part, cX10_part, 5, some (.int), [])
abbrev mX10_person : xv_M := (yX10_person, cX10_person, 2, some (.boolean), [])
abbrev mX10_sign : xv_M := (yX10_sign, cX10_sign, 3, some (.int), [])
abbrev mX10_hold : xv_M := (yX10_hold, cX10_hold, 3, some (.boolean), [])
abbrev mX10_isReady : xv_M := (yX10_isReady, cX10_isReady, 2, some (.boolean), [])
abbrev mX10_close : xv_M := (yX10_close, cX10_close, 1, some (.int), [])
abbrev mX10_printed : xv_M := (yX10_printed, cX10_printed, 4, some (.int), [])
abbrev mX10_correct : xv_M := (yX10_correct, cX10_correct, 3, some (.int), [])
abbrev mX10_placeCorrection : xv_M := (yX10_placeCorrection, cX10_placeCorrection, 5, some (.int), [])
abbrev mX10_clean : xv_M := (yX10_clean, cX10_clean, 4, some (.int), [])
abbrev mX10_pass : xv_M := (yX10_pass, cX10_pass, 2, some (.int), [])
abbrev mX10_needPage : xv_M := (yX10_needPage, cX10_needPage, 1, none, [])
abbrev mX10_needCell : xv_M := (yX10_needCell, cX10_needCell, 1, none, [])
abbrev mX10_needPerson : xv_M := (yX10_needPerson, cX10_needPerson, 1, none, [])
abbrev mX10_needRange : xv_M := (yX10_needRange, cX10_needRange, 3, none, [])
abbrev mX10_needEdition : xv_M := (yX10_needEdition, cX10_needEdition, 2, none, [])
abbrev mX10_needAdvert : xv_M := (yX10_needAdvert, cX10_needAdvert, 3, some (.object "PressHall$Advert"), [])
abbrev mX10_needStory : xv_M := (yX10_needStory, cX10_needStory, 3, some (.object "PressHall$Story"), [])
abbrev mX10_storyAt : xv_M := (yX10_storyAt, cX10_storyAt, 2, some (.object "PressHall$Story"), [])
abbrev mX10_isPage : xv_M := (yX10_isPage, cX10_isPage, 1, some (.boolean), [])
abbrev mX10_isCell : xv_M := (yX10_isCell, cX10_isCell, 1, some (.boolean), [])
abbrev mX10_isZonePage : xv_M := (yX10_isZonePage, cX10_isZonePage, 1, some (.boolean), [])
abbrev mX10_isInCopies : xv_M := (yX10_isInCopies, cX10_isInCopies, 2, some (.boolean), [])
abbrev mX10_plateOf : xv_M := (yX10_plateOf, cX10_plateOf, 1, some (.int), [])
abbrev mX10_cellInColumns : xv_M := (yX10_cellInColumns, cX10_cellInColumns, 1, some (.int), [])
abbrev mX10_pagesApart : xv_M := (yX10_pagesApart, cX10_pagesApart, 2, some (.int), [])
abbrev mX10_distanceOf : xv_M := (yX10_distanceOf, cX10_distanceOf, 2, some (.int), [])
abbrev mX10_fits : xv_M := (yX10_fits, cX10_fits, 3, some (.boolean), [])
abbrev mX10_isFarFromItsLike : xv_M := (yX10_isFarFromItsLike, cX10_isFarFromItsLike, 5, some (.boolean), [])
abbrev mX10_paragraphsOf : xv_M := (yX10_paragraphsOf, cX10_paragraphsOf, 3, some (.int), [])
abbrev mX10_putOut : xv_M := (yX10_putOut, cX10_putOut, 7, none, [])
abbrev mJ6_bitCount_0f7a4 : xv_M := (yJ6_bitCount_0f7a4, cJ6_bitCount_0f7a4, 1, some (.int), [])
abbrev mL_part : xv_M := (yL_part, cL_part, 4, some (.int), [])
abbrev mL_does : xv_M := (yL_does, cL_does, 8, some (.int), [(0, 362, 363, 86), (0, 362, 369, 88), (0, 362, 375, 90)])
abbrev mL_paged : xv_M := (yL_paged, cL_paged, 4, some (.int), [])
abbrev mL_cell : xv_M := (yL_cell, cL_cell, 4, some (.int), [])
abbrev mL_puts : xv_M := (yL_puts, cL_puts, 5, none, [])
abbrev mL_areCells : xv_M := (yL_areCells, cL_areCells, 15, some (.boolean), [])
abbrev mL_inColumns : xv_M := (yL_inColumns, cL_inColumns, 9, some (.boolean), [])
abbrev mL_count : xv_M := (yL_count, cL_count, 3, some (.int), [])
abbrev mL_isFar : xv_M := (yL_isFar, cL_isFar, 10, some (.boolean), [])
abbrev mL_placeFor : xv_M := (yL_placeFor, cL_placeFor, 17, some (.int), [])
abbrev mL_lines : xv_M := (yL_lines, cL_lines, 3, some (.int), [])
abbrev mL_isAdvert : xv_M := (yL_isAdvert, cL_isAdvert, 18, some (.boolean), [])
abbrev mL_isStory : xv_M := (yL_isStory, cL_isStory, 12, some (.boolean), [])
abbrev mL_laid : xv_M := (yL_laid, cL_laid, 4, some (.int), [])
abbrev mL_fitsIn : xv_M := (yL_fitsIn, cL_fitsIn, 14, some (.boolean), [])
abbrev mL_isSigned : xv_M := (yL_isSigned, cL_isSigned, 12, some (.boolean), [])
abbrev mL_isClosed : xv_M := (yL_isClosed, cL_isClosed, 17, some (.boolean), [])
abbrev mL_law : xv_M := (yL_law, cL_law, 22, some .boolean, [])
theorem inX0 : ∀ w ∈ u_ws RX0 TX0 8, w ∈ xv_tbl := List.forall_mem_cons.mpr ⟨(xv_tbl_mem 436 (by decide +kernel) rfl), List.forall_mem_cons.mpr ⟨(xv_tbl_mem 438 (by decide +kernel) rfl), List.forall_mem_cons.mpr ⟨(xv_tbl_mem 440 (by decide +kernel) rfl), List.forall_mem_cons.mpr ⟨(xv_tbl_mem 442 (by decide +kernel) rfl), List.forall_mem_cons.mpr ⟨(xv_tbl_mem 444 (by decide +kernel) rfl), List.forall_mem_cons.mpr ⟨(xv_tbl_mem 446 (by decide +kernel) rfl), List.forall_mem_cons.mpr ⟨(xv_tbl_mem 448 (by decide +kernel) rfl), List.forall_mem_cons.mpr ⟨(xv_tbl_mem 450 (by decide +kernel) rfl), fun _ h => absurd h List.not_mem_nil⟩⟩⟩⟩⟩⟩⟩⟩
theorem inX1 : ∀ w ∈ u_ws RX1 TX1 5, w ∈ xv_tbl := List.forall_mem_cons.mpr ⟨(xv_tbl_mem 126 (by decide +kernel) rfl), List.forall_mem_cons.mpr ⟨(xv_tbl_mem 128 (by decide +kernel) rfl), List.forall_mem_cons.mpr ⟨(xv_tbl_mem 130 (by decide +kernel) rfl), List.forall_mem_cons.mpr ⟨(xv_tbl_mem 132 (by decide +kernel) rfl), List.forall_mem_cons.mpr ⟨(xv_tbl_mem 134 (by decide +kernel) rfl), fun _ h => absurd h List.not_mem_nil⟩⟩⟩⟩⟩
theorem inX2 : ∀ w ∈ u_ws RX2 TX2 3, w ∈ xv_tbl := List.forall_mem_cons.mpr ⟨(xv_tbl_mem 160 (by decide +kernel) rfl), List.forall_mem_cons.mpr ⟨(xv_tbl_mem 162 (by decide +kernel) rfl), List.forall_mem_cons.mpr ⟨(xv_tbl_mem 164 (by decide +kernel) rfl), fun _ h => absurd h List.not_mem_nil⟩⟩⟩
theorem inX3 : ∀ w ∈ u_ws RX3 TX3 6, w ∈ xv_tbl := List.forall_mem_cons.mpr ⟨(xv_tbl_mem 99 (by decide +kernel) rfl), List.forall_mem_cons.mpr ⟨(xv_tbl_mem 101 (by decide +kernel) rfl), List.forall_mem_cons.mpr ⟨(xv_tbl_mem 103 (by decide +kernel) rfl), List.forall_mem_cons.mpr ⟨(xv_tbl_mem 105 (by decide +kernel) rfl), List.forall_mem_cons.mpr ⟨(xv_tbl_mem 107 (by decide +kernel) rfl), List.forall_mem_cons.mpr ⟨(xv_tbl_mem 109 (by decide +kernel) rfl), fun _ h => absurd h List.not_mem_nil⟩⟩⟩⟩⟩⟩
theorem inX4 : ∀ w ∈ u_ws RX4 TX4 4, w ∈ xv_tbl := List.forall_mem_cons.mpr ⟨(xv_tbl_mem 192 (by decide +kernel) rfl), List.forall_mem_cons.mpr ⟨(xv_tbl_mem 194 (by decide +kernel) rfl), List.forall_mem_cons.mpr ⟨(xv_tbl_mem 196 (by decide +kernel) rfl), List.forall_mem_cons.mpr ⟨(xv_tbl_mem 198 (by decide +kernel) rfl), fun _ h => absurd h List.not_mem_nil⟩⟩⟩⟩
theorem inX5 : ∀ w ∈ u_ws RX5 TX5 7, w ∈ xv_tbl := List.forall_mem_cons.mpr ⟨(xv_tbl_mem 43 (by decide +kernel) rfl), List.forall_mem_cons.mpr ⟨(xv_tbl_mem 45 (by decide +kernel) rfl), List.forall_mem_cons.mpr ⟨(xv_tbl_mem 47 (by decide +kernel) rfl), List.forall_mem_cons.mpr ⟨(xv_tbl_mem 49 (by decide +kernel) rfl), List.forall_mem_cons.mpr ⟨(xv_tbl_mem 51 (by decide +kernel) rfl), List.forall_mem_cons.mpr ⟨(xv_tbl_mem 53 (by decide +kernel) rfl), List.forall_mem_cons.mpr ⟨(xv_tbl_mem 55 (by decide +kernel) rfl), fun _ h => absurd h List.not_mem_nil⟩⟩⟩⟩⟩⟩⟩
theorem inX6 : ∀ w ∈ u_ws RX6 TX6 5, w ∈ xv_tbl := List.forall_mem_cons.mpr ⟨(xv_tbl_mem 566 (by decide +kernel) rfl), List.forall_mem_cons.mpr ⟨(xv_tbl_mem 568 (by decide +kernel) rfl), List.forall_mem_cons.mpr ⟨(xv_tbl_mem 570 (by decide +kernel) rfl), List.forall_mem_cons.mpr ⟨(xv_tbl_mem 572 (by decide +kernel) rfl), List.forall_mem_cons.mpr ⟨(xv_tbl_mem 574 (by decide +kernel) rfl), fun _ h => absurd h List.not_mem_nil⟩⟩⟩⟩⟩
theorem inX7 : ∀ w ∈ u_ws RX7 TX7 3, w ∈ xv_tbl := List.forall_mem_cons.mpr ⟨(xv_tbl_mem 145 (by decide +kernel) rfl), List.forall_mem_cons.mpr ⟨(xv_tbl_mem 147 (by decide +kernel) rfl), List.forall_mem_cons.mpr ⟨(xv_tbl_mem 149 (by decide +kernel) rfl), fun _ h => absurd h List.not_mem_nil⟩⟩⟩
theorem inX8 : ∀ w ∈ u_ws RX8 TX8 4, w ∈ xv_tbl := List.forall_mem_cons.mpr ⟨(xv_tbl_mem 83 (by decide +kernel) rfl), List.forall_mem_cons.mpr ⟨(xv_tbl_mem 85 (by decide +kernel) rfl), List.forall_mem_cons.mpr ⟨(xv_tbl_mem 87 (by decide +kernel) rfl), List.forall_mem_cons.mpr ⟨(xv_tbl_mem 89 (by decide +kernel) rfl), fun _ h => absurd h List.not_mem_nil⟩⟩⟩⟩
theorem inX9 : ∀ w ∈ u_ws RX9 TX9 3, w ∈ xv_tbl := List.forall_mem_cons.mpr ⟨(xv_tbl_mem 175 (by decide +kernel) rfl), List.forall_mem_cons.mpr ⟨(xv_tbl_mem 177 (by decide +kernel) rfl), List.forall_mem_cons.mpr ⟨(xv_tbl_mem 179 (by decide +kernel) rfl), fun _ h => absurd h List.not_mem_nil⟩⟩⟩
theorem inX10 : ∀ w ∈ u_ws RX10 TX10 14, w ∈ xv_tbl := List.forall_mem_cons.mpr ⟨(xv_tbl_mem 215 (by decide +kernel) rfl), List.forall_mem_cons.mpr ⟨(xv_tbl_mem 217 (by decide +kernel) rfl), List.forall_mem_cons.mpr ⟨(xv_tbl_mem 219 (by decide +kernel) rfl), List.forall_mem_cons.mpr ⟨(xv_tbl_mem 221 (by decide +kernel) rfl), List.forall_mem_cons.mpr ⟨(xv_tbl_mem 223 (by decide +kernel) rfl), List.forall_mem_cons.mpr ⟨(xv_tbl_mem 225 (by decide +kernel) rfl), List.forall_mem_cons.mpr ⟨(xv_tbl_mem 227 (by decide +kernel) rfl), List.forall_mem_cons.mpr ⟨(xv_tbl_mem 229 (by decide +kernel) rfl), List.forall_mem_cons.mpr ⟨(xv_tbl_mem 231 (by decide +kernel) rfl), List.forall_mem_cons.mpr ⟨(xv_tbl_mem 233 (by decide +kernel) rfl), List.forall_mem_cons.mpr ⟨(xv_tbl_mem 235 (by decide +kernel) rfl), List.forall_mem_cons.mpr ⟨(xv_tbl_mem 237 (by decide +kernel) rfl), List.forall_mem_cons.mpr ⟨(xv_tbl_mem 239 (by decide +kernel) rfl), List.forall_mem_cons.mpr ⟨(xv_tbl_mem 241 (by decide +kernel) rfl), fun _ h => absurd h List.not_mem_nil⟩⟩⟩⟩⟩⟩⟩⟩⟩⟩⟩⟩⟩⟩
theorem YX0_init : xv_Y mX0_init 6 := ⟨(xv_tbl_mem 416 (by decide +kernel) rfl), (xv_tbl_mem 16 (by decide +kernel) rfl), by decide +kernel, by decide +kernel, by decide +kernel, by decide⟩
theorem VX0_init : Cond.instanceMethod mX0_init.1 ∈ xv_tbl ∧ mX0_init.1.name = "<init>" ∧ mX0_init.2.2.2.1 = none := ⟨(xv_tbl_mem 415 (by decide +kernel) rfl), rfl, rfl⟩
theorem YX0_lowestPage : xv_Y mX0_lowestPage 0 := ⟨(xv_tbl_mem 470 (by decide +kernel) rfl), (xv_tbl_mem 16 (by decide +kernel) rfl), by decide +kernel, by decide +kernel, by decide +kernel, by decide⟩
theorem VX0_lowestPage : Cond.instanceMethod mX0_lowestPage.1 ∈ xv_tbl ∧ Cond.selects mX0_lowestPage.1.cls mX0_lowestPage.1 mX0_lowestPage.1 ∈ xv_tbl ∧ (vwCl[0]?.map fun q => q.1) = some mX0_lowestPage.1.cls := ⟨(xv_tbl_mem 468 (by decide +kernel) rfl), (xv_tbl_mem 469 (by decide +kernel) rfl), rfl⟩
theorem YX0_highestPage : xv_Y mX0_highestPage 0 := ⟨(xv_tbl_mem 474 (by decide +kernel) rfl), (xv_tbl_mem 16 (by decide +kernel) rfl), by decide +kernel, by decide +kernel, by decide +kernel, by decide⟩
theorem VX0_highestPage : Cond.instanceMethod mX0_highestPage.1 ∈ xv_tbl ∧ Cond.selects mX0_highestPage.1.cls mX0_highestPage.1 mX0_highestPage.1 ∈ xv_tbl ∧ (vwCl[0]?.map fun q => q.1) = some mX0_highestPage.1.cls := ⟨(xv_tbl_mem 472 (by decide +kernel) rfl), (xv_tbl_mem 473 (by decide +kernel) rfl), rfl⟩
theorem YX0_isPlaced : xv_Y mX0_isPlaced 0 := ⟨(xv_tbl_mem 465 (by decide +kernel) rfl), (xv_tbl_mem 16 (by decide +kernel) rfl), by decide +kernel, by decide +kernel, by decide +kernel, by decide⟩
theorem VX0_isPlaced : Cond.instanceMethod mX0_isPlaced.1 ∈ xv_tbl ∧ Cond.selects mX0_isPlaced.1.cls mX0_isPlaced.1 mX0_isPlaced.1 ∈ xv_tbl ∧ (vwCl[0]?.map fun q => q.1) = some mX0_isPlaced.1.cls := ⟨(xv_tbl_mem 463 (by decide +kernel) rfl), (xv_tbl_mem 464 (by decide +kernel) rfl), rfl⟩
theorem YX0_putAt : xv_Y mX0_putAt 2 := ⟨(xv_tbl_mem 508 (by decide +kernel) rfl), (xv_tbl_mem 16 (by decide +kernel) rfl), by decide +kernel, by decide +kernel, by decide +kernel, by decide⟩
theorem VX0_putAt : Cond.instanceMethod mX0_putAt.1 ∈ xv_tbl ∧ Cond.selects mX0_putAt.1.cls mX0_putAt.1 mX0_putAt.1 ∈ xv_tbl ∧ (vwCl[0]?.map fun q => q.1) = some mX0_putAt.1.cls := ⟨(xv_tbl_mem 506 (by decide +kernel) rfl), (xv_tbl_mem 507 (by decide +kernel) rfl), rfl⟩
theorem YX0_whereItIs : xv_Y mX0_whereItIs 0 := ⟨(xv_tbl_mem 523 (by decide +kernel) rfl), (xv_tbl_mem 16 (by decide +kernel) rfl), by decide +kernel, by decide +kernel, by decide +kernel, by decide⟩
theorem VX0_whereItIs : Cond.instanceMethod mX0_whereItIs.1 ∈ xv_tbl ∧ Cond.selects mX0_whereItIs.1.cls mX0_whereItIs.1 mX0_whereItIs.1 ∈ xv_tbl ∧ (vwCl[0]?.map fun q => q.1) = some mX0_whereItIs.1.cls := ⟨(xv_tbl_mem 521 (by decide +kernel) rfl), (xv_tbl_mem 522 (by decide +kernel) rfl), rfl⟩
theorem YX1_init : xv_Y mX1_init 0 := ⟨(xv_tbl_mem 116 (by decide +kernel) rfl), (xv_tbl_mem 5 (by decide +kernel) rfl), by decide +kernel, by decide +kernel, by decide +kernel, by decide⟩
theorem VX1_init : Cond.instanceMethod mX1_init.1 ∈ xv_tbl ∧ mX1_init.1.name = "<init>" ∧ mX1_init.2.2.2.1 = none := ⟨(xv_tbl_mem 115 (by decide +kernel) rfl), rfl, rfl⟩
theorem YX1_keep : xv_Y mX1_keep 2 := ⟨(xv_tbl_mem 762 (by decide +kernel) rfl), (xv_tbl_mem 5 (by decide +kernel) rfl), by decide +kernel, by decide +kernel, by decide +kernel, by decide⟩
theorem VX1_keep : Cond.instanceMethod mX1_keep.1 ∈ xv_tbl ∧ Cond.selects mX1_keep.1.cls mX1_keep.1 mX1_keep.1 ∈ xv_tbl ∧ (vwCl[1]?.map fun q => q.1) = some mX1_keep.1.cls := ⟨(xv_tbl_mem 760 (by decide +kernel) rfl), (xv_tbl_mem 761 (by decide +kernel) rfl), rfl⟩
theorem YX1_isKept : xv_Y mX1_isKept 1 := ⟨(xv_tbl_mem 780 (by decide +kernel) rfl), (xv_tbl_mem 5 (by decide +kernel) rfl), by decide +kernel, by decide +kernel, by decide +kernel, by decide⟩
theorem VX1_isKept : Cond.instanceMethod mX1_isKept.1 ∈ xv_tbl ∧ Cond.selects mX1_isKept.1.cls mX1_isKept.1 mX1_isKept.1 ∈ xv_tbl ∧ (vwCl[1]?.map fun q => q.1) = some mX1_isKept.1.cls := ⟨(xv_tbl_mem 779 (by decide +kernel) rfl), (xv_tbl_sel 15 (by decide +kernel) rfl), rfl⟩
theorem YX1_at : xv_Y mX1_at 3 := ⟨(xv_tbl_mem 776 (by decide +kernel) rfl), (xv_tbl_mem 5 (by decide +kernel) rfl), by decide +kernel, by decide +kernel, by decide +kernel, by decide⟩
theorem VX1_at : Cond.instanceMethod mX1_at.1 ∈ xv_tbl ∧ Cond.selects mX1_at.1.cls mX1_at.1 mX1_at.1 ∈ xv_tbl ∧ (vwCl[1]?.map fun q => q.1) = some mX1_at.1.cls := ⟨(xv_tbl_mem 774 (by decide +kernel) rfl), (xv_tbl_mem 775 (by decide +kernel) rfl), rfl⟩
theorem YX1_has : xv_Y mX1_has 2 := ⟨(xv_tbl_mem 790 (by decide +kernel) rfl), (xv_tbl_mem 5 (by decide +kernel) rfl), by decide +kernel, by decide +kernel, by decide +kernel, by decide⟩
theorem VX1_has : Cond.instanceMethod mX1_has.1 ∈ xv_tbl ∧ Cond.selects mX1_has.1.cls mX1_has.1 mX1_has.1 ∈ xv_tbl ∧ (vwCl[1]?.map fun q => q.1) = some mX1_has.1.cls := ⟨(xv_tbl_mem 788 (by decide +kernel) rfl), (xv_tbl_mem 789 (by decide +kernel) rfl), rfl⟩
theorem YX1_owes : xv_Y mX1_owes 1 := ⟨(xv_tbl_mem 795 (by decide +kernel) rfl), (xv_tbl_mem 5 (by decide +kernel) rfl), by decide +kernel, by decide +kernel, by decide +kernel, by decide⟩
theorem VX1_owes : Cond.instanceMethod mX1_owes.1 ∈ xv_tbl ∧ Cond.selects mX1_owes.1.cls mX1_owes.1 mX1_owes.1 ∈ xv_tbl ∧ (vwCl[1]?.map fun q => q.1) = some mX1_owes.1.cls := ⟨(xv_tbl_mem 793 (by decide +kernel) rfl), (xv_tbl_mem 794 (by decide +kernel) rfl), rfl⟩
theorem YX1_addOwed : xv_Y mX1_addOwed 1 := ⟨(xv_tbl_mem 800 (by decide +kernel) rfl), (xv_tbl_mem 5 (by decide +kernel) rfl), by decide +kernel, by decide +kernel, by decide +kernel, by decide⟩
theorem VX1_addOwed : Cond.instanceMethod mX1_addOwed.1 ∈ xv_tbl ∧ Cond.selects mX1_addOwed.1.cls mX1_addOwed.1 mX1_addOwed.1 ∈ xv_tbl ∧ (vwCl[1]?.map fun q => q.1) = some mX1_addOwed.1.cls := ⟨(xv_tbl_mem 798 (by decide +kernel) rfl), (xv_tbl_mem 799 (by decide +kernel) rfl), rfl⟩
theorem YX1_longestOwed : xv_Y mX1_longestOwed 0 := ⟨(xv_tbl_mem 809 (by decide +kernel) rfl), (xv_tbl_mem 5 (by decide +kernel) rfl), by decide +kernel, by decide +kernel, by decide +kernel, by decide⟩
theorem VX1_longestOwed : Cond.instanceMethod mX1_longestOwed.1 ∈ xv_tbl ∧ Cond.selects mX1_longestOwed.1.cls mX1_longestOwed.1 mX1_longestOwed.1 ∈ xv_tbl ∧ (vwCl[1]?.map fun q => q.1) = some mX1_longestOwed.1.cls := ⟨(xv_tbl_mem 807 (by decide +kernel) rfl), (xv_tbl_mem 808 (by decide +kernel) rfl), rfl⟩
theorem YX1_dropLongestOwed : xv_Y mX1_dropLongestOwed 0 := ⟨(xv_tbl_mem 817 (by decide +kernel) rfl), (xv_tbl_mem 5 (by decide +kernel) rfl), by decide +kernel, by decide +kernel, by decide +kernel, by decide⟩
theorem VX1_dropLongestOwed : Cond.instanceMethod mX1_dropLongestOwed.1 ∈ xv_tbl ∧ Cond.selects mX1_dropLongestOwed.1.cls mX1_dropLongestOwed.1 mX1_dropLongestOwed.1 ∈ xv_tbl ∧ (vwCl[1]?.map fun q => q.1) = some mX1_dropLongestOwed.1.cls := ⟨(xv_tbl_mem 815 (by decide +kernel) rfl), (xv_tbl_mem 816 (by decide +kernel) rfl), rfl⟩
theorem YX2_init : xv_Y mX2_init 0 := ⟨(xv_tbl_mem 156 (by decide +kernel) rfl), (xv_tbl_mem 7 (by decide +kernel) rfl), by decide +kernel, by decide +kernel, by decide +kernel, by decide⟩
theorem VX2_init : Cond.instanceMethod mX2_init.1 ∈ xv_tbl ∧ mX2_init.1.name = "<init>" ∧ mX2_init.2.2.2.1 = none := ⟨(xv_tbl_mem 155 (by decide +kernel) rfl), rfl, rfl⟩
theorem YX3_init : xv_Y mX3_init 1 := ⟨(xv_tbl_mem 68 (by decide +kernel) rfl), (xv_tbl_mem 3 (by decide +kernel) rfl), by decide +kernel, by decide +kernel, by decide +kernel, by decide⟩
theorem VX3_init : Cond.instanceMethod mX3_init.1 ∈ xv_tbl ∧ mX3_init.1.name = "<init>" ∧ mX3_init.2.2.2.1 = none := ⟨(xv_tbl_mem 67 (by decide +kernel) rfl), rfl, rfl⟩
theorem YX3_find : xv_Y mX3_find 3 := ⟨(xv_tbl_mem 598 (by decide +kernel) rfl), (xv_tbl_mem 3 (by decide +kernel) rfl), by decide +kernel, by decide +kernel, by decide +kernel, by decide⟩
theorem VX3_find : Cond.instanceMethod mX3_find.1 ∈ xv_tbl ∧ Cond.selects mX3_find.1.cls mX3_find.1 mX3_find.1 ∈ xv_tbl ∧ (vwCl[3]?.map fun q => q.1) = some mX3_find.1.cls := ⟨(xv_tbl_mem 596 (by decide +kernel) rfl), (xv_tbl_mem 597 (by decide +kernel) rfl), rfl⟩
theorem YX3_tryOnePage : xv_Y mX3_tryOnePage 2 := ⟨(xv_tbl_mem 610 (by decide +kernel) rfl), (xv_tbl_mem 3 (by decide +kernel) rfl), by decide +kernel, by decide +kernel, by decide +kernel, by decide⟩
theorem VX3_tryOnePage : Cond.instanceMethod mX3_tryOnePage.1 ∈ xv_tbl ∧ Cond.selects mX3_tryOnePage.1.cls mX3_tryOnePage.1 mX3_tryOnePage.1 ∈ xv_tbl ∧ (vwCl[3]?.map fun q => q.1) = some mX3_tryOnePage.1.cls := ⟨(xv_tbl_mem 609 (by decide +kernel) rfl), (xv_tbl_sel 8 (by decide +kernel) rfl), rfl⟩
theorem YX3_tryTwoPages : xv_Y mX3_tryTwoPages 2 := ⟨(xv_tbl_mem 666 (by decide +kernel) rfl), (xv_tbl_mem 3 (by decide +kernel) rfl), by decide +kernel, by decide +kernel, by decide +kernel, by decide⟩
theorem VX3_tryTwoPages : Cond.instanceMethod mX3_tryTwoPages.1 ∈ xv_tbl ∧ Cond.selects mX3_tryTwoPages.1.cls mX3_tryTwoPages.1 mX3_tryTwoPages.1 ∈ xv_tbl ∧ (vwCl[3]?.map fun q => q.1) = some mX3_tryTwoPages.1.cls := ⟨(xv_tbl_mem 665 (by decide +kernel) rfl), (xv_tbl_sel 12 (by decide +kernel) rfl), rfl⟩
theorem YX3_setRun : xv_Y mX3_setRun 4 := ⟨(xv_tbl_mem 622 (by decide +kernel) rfl), (xv_tbl_mem 3 (by decide +kernel) rfl), by decide +kernel, by decide +kernel, by decide +kernel, by decide⟩
theorem VX3_setRun : Cond.instanceMethod mX3_setRun.1 ∈ xv_tbl ∧ Cond.selects mX3_setRun.1.cls mX3_setRun.1 mX3_setRun.1 ∈ xv_tbl ∧ (vwCl[3]?.map fun q => q.1) = some mX3_setRun.1.cls := ⟨(xv_tbl_mem 621 (by decide +kernel) rfl), (xv_tbl_sel 10 (by decide +kernel) rfl), rfl⟩
theorem YX3_keepIfCheaper : xv_Y mX3_keepIfCheaper 0 := ⟨(xv_tbl_mem 635 (by decide +kernel) rfl), (xv_tbl_mem 3 (by decide +kernel) rfl), by decide +kernel, by decide +kernel, by decide +kernel, by decide⟩
theorem VX3_keepIfCheaper : Cond.instanceMethod mX3_keepIfCheaper.1 ∈ xv_tbl ∧ Cond.selects mX3_keepIfCheaper.1.cls mX3_keepIfCheaper.1 mX3_keepIfCheaper.1 ∈ xv_tbl ∧ (vwCl[3]?.map fun q => q.1) = some mX3_keepIfCheaper.1.cls := ⟨(xv_tbl_mem 634 (by decide +kernel) rfl), (xv_tbl_sel 11 (by decide +kernel) rfl), rfl⟩
theorem YX4_init : xv_Y mX4_init 0 := ⟨(xv_tbl_mem 186 (by decide +kernel) rfl), (xv_tbl_mem 9 (by decide +kernel) rfl), by decide +kernel, by decide +kernel, by decide +kernel, by decide⟩
theorem VX4_init : Cond.instanceMethod mX4_init.1 ∈ xv_tbl ∧ mX4_init.1.name = "<init>" ∧ mX4_init.2.2.2.1 = none := ⟨(xv_tbl_mem 185 (by decide +kernel) rfl), rfl, rfl⟩
theorem YX5_init : xv_Y mX5_init 0 := ⟨(xv_tbl_mem 31 (by decide +kernel) rfl), (xv_tbl_mem 2 (by decide +kernel) rfl), by decide +kernel, by decide +kernel, by decide +kernel, by decide⟩
theorem VX5_init : Cond.instanceMethod mX5_init.1 ∈ xv_tbl ∧ mX5_init.1.name = "<init>" ∧ mX5_init.2.2.2.1 = none := ⟨(xv_tbl_mem 30 (by decide +kernel) rfl), rfl, rfl⟩
theorem YX5_setKind : xv_Y mX5_setKind 3 := ⟨(xv_tbl_mem 389 (by decide +kernel) rfl), (xv_tbl_mem 2 (by decide +kernel) rfl), by decide +kernel, by decide +kernel, by decide +kernel, by decide⟩
theorem VX5_setKind : Cond.instanceMethod mX5_setKind.1 ∈ xv_tbl ∧ Cond.selects mX5_setKind.1.cls mX5_setKind.1 mX5_setKind.1 ∈ xv_tbl ∧ (vwCl[5]?.map fun q => q.1) = some mX5_setKind.1.cls := ⟨(xv_tbl_mem 387 (by decide +kernel) rfl), (xv_tbl_mem 388 (by decide +kernel) rfl), rfl⟩
theorem YX5_sectionOf : xv_Y mX5_sectionOf 1 := ⟨(xv_tbl_mem 482 (by decide +kernel) rfl), (xv_tbl_mem 2 (by decide +kernel) rfl), by decide +kernel, by decide +kernel, by decide +kernel, by decide⟩
theorem VX5_sectionOf : Cond.instanceMethod mX5_sectionOf.1 ∈ xv_tbl ∧ Cond.selects mX5_sectionOf.1.cls mX5_sectionOf.1 mX5_sectionOf.1 ∈ xv_tbl ∧ (vwCl[5]?.map fun q => q.1) = some mX5_sectionOf.1.cls := ⟨(xv_tbl_mem 480 (by decide +kernel) rfl), (xv_tbl_mem 481 (by decide +kernel) rfl), rfl⟩
theorem YX5_hasColour : xv_Y mX5_hasColour 1 := ⟨(xv_tbl_mem 486 (by decide +kernel) rfl), (xv_tbl_mem 2 (by decide +kernel) rfl), by decide +kernel, by decide +kernel, by decide +kernel, by decide⟩
theorem VX5_hasColour : Cond.instanceMethod mX5_hasColour.1 ∈ xv_tbl ∧ Cond.selects mX5_hasColour.1.cls mX5_hasColour.1 mX5_hasColour.1 ∈ xv_tbl ∧ (vwCl[5]?.map fun q => q.1) = some mX5_hasColour.1.cls := ⟨(xv_tbl_mem 484 (by decide +kernel) rfl), (xv_tbl_mem 485 (by decide +kernel) rfl), rfl⟩
theorem YX5_at : xv_Y mX5_at 2 := ⟨(xv_tbl_mem 365 (by decide +kernel) rfl), (xv_tbl_mem 2 (by decide +kernel) rfl), by decide +kernel, by decide +kernel, by decide +kernel, by decide⟩
theorem VX5_at : Cond.instanceMethod mX5_at.1 ∈ xv_tbl ∧ Cond.selects mX5_at.1.cls mX5_at.1 mX5_at.1 ∈ xv_tbl ∧ (vwCl[5]?.map fun q => q.1) = some mX5_at.1.cls := ⟨(xv_tbl_mem 363 (by decide +kernel) rfl), (xv_tbl_mem 364 (by decide +kernel) rfl), rfl⟩
theorem YX5_put : xv_Y mX5_put 3 := ⟨(xv_tbl_mem 516 (by decide +kernel) rfl), (xv_tbl_mem 2 (by decide +kernel) rfl), by decide +kernel, by decide +kernel, by decide +kernel, by decide⟩
theorem VX5_put : Cond.instanceMethod mX5_put.1 ∈ xv_tbl ∧ Cond.selects mX5_put.1.cls mX5_put.1 mX5_put.1 ∈ xv_tbl ∧ (vwCl[5]?.map fun q => q.1) = some mX5_put.1.cls := ⟨(xv_tbl_mem 514 (by decide +kernel) rfl), (xv_tbl_mem 515 (by decide +kernel) rfl), rfl⟩
theorem YX5_isBare : xv_Y mX5_isBare 1 := ⟨(xv_tbl_mem 361 (by decide +kernel) rfl), (xv_tbl_mem 2 (by decide +kernel) rfl), by decide +kernel, by decide +kernel, by decide +kernel, by decide⟩
theorem VX5_isBare : Cond.instanceMethod mX5_isBare.1 ∈ xv_tbl ∧ Cond.selects mX5_isBare.1.cls mX5_isBare.1 mX5_isBare.1 ∈ xv_tbl ∧ (vwCl[5]?.map fun q => q.1) = some mX5_isBare.1.cls := ⟨(xv_tbl_mem 359 (by decide +kernel) rfl), (xv_tbl_mem 360 (by decide +kernel) rfl), rfl⟩
theorem YX5_lowestFree : xv_Y mX5_lowestFree 1 := ⟨(xv_tbl_mem 813 (by decide +kernel) rfl), (xv_tbl_mem 2 (by decide +kernel) rfl), by decide +kernel, by decide +kernel, by decide +kernel, by decide⟩
theorem VX5_lowestFree : Cond.instanceMethod mX5_lowestFree.1 ∈ xv_tbl ∧ Cond.selects mX5_lowestFree.1.cls mX5_lowestFree.1 mX5_lowestFree.1 ∈ xv_tbl ∧ (vwCl[5]?.map fun q => q.1) = some mX5_lowestFree.1.cls := ⟨(xv_tbl_mem 811 (by decide +kernel) rfl), (xv_tbl_mem 812 (by decide +kernel) rfl), rfl⟩
theorem YX5_freeAllOf : xv_Y mX5_freeAllOf 1 := ⟨(xv_tbl_mem 532 (by decide +kernel) rfl), (xv_tbl_mem 2 (by decide +kernel) rfl), by decide +kernel, by decide +kernel, by decide +kernel, by decide⟩
theorem VX5_freeAllOf : Cond.instanceMethod mX5_freeAllOf.1 ∈ xv_tbl ∧ Cond.selects mX5_freeAllOf.1.cls mX5_freeAllOf.1 mX5_freeAllOf.1 ∈ xv_tbl ∧ (vwCl[5]?.map fun q => q.1) = some mX5_freeAllOf.1.cls := ⟨(xv_tbl_mem 530 (by decide +kernel) rfl), (xv_tbl_mem 531 (by decide +kernel) rfl), rfl⟩
theorem YX5_platesOf : xv_Y mX5_platesOf 1 := ⟨(xv_tbl_mem 691 (by decide +kernel) rfl), (xv_tbl_mem 2 (by decide +kernel) rfl), by decide +kernel, by decide +kernel, by decide +kernel, by decide⟩
theorem VX5_platesOf : Cond.instanceMethod mX5_platesOf.1 ∈ xv_tbl ∧ Cond.selects mX5_platesOf.1.cls mX5_platesOf.1 mX5_platesOf.1 ∈ xv_tbl ∧ (vwCl[5]?.map fun q => q.1) = some mX5_platesOf.1.cls := ⟨(xv_tbl_mem 689 (by decide +kernel) rfl), (xv_tbl_mem 690 (by decide +kernel) rfl), rfl⟩
theorem YX5_freeRectangle : xv_Y mX5_freeRectangle 3 := ⟨(xv_tbl_mem 500 (by decide +kernel) rfl), (xv_tbl_mem 2 (by decide +kernel) rfl), by decide +kernel, by decide +kernel, by decide +kernel, by decide⟩
theorem VX5_freeRectangle : Cond.instanceMethod mX5_freeRectangle.1 ∈ xv_tbl ∧ Cond.selects mX5_freeRectangle.1.cls mX5_freeRectangle.1 mX5_freeRectangle.1 ∈ xv_tbl ∧ (vwCl[5]?.map fun q => q.1) = some mX5_freeRectangle.1.cls := ⟨(xv_tbl_mem 498 (by decide +kernel) rfl), (xv_tbl_mem 499 (by decide +kernel) rfl), rfl⟩
theorem YX5_isFreeRectangle : xv_Y mX5_isFreeRectangle 4 := ⟨(xv_tbl_mem 504 (by decide +kernel) rfl), (xv_tbl_mem 2 (by decide +kernel) rfl), by decide +kernel, by decide +kernel, by decide +kernel, by decide⟩
theorem VX5_isFreeRectangle : Cond.instanceMethod mX5_isFreeRectangle.1 ∈ xv_tbl ∧ Cond.selects mX5_isFreeRectangle.1.cls mX5_isFreeRectangle.1 mX5_isFreeRectangle.1 ∈ xv_tbl ∧ (vwCl[5]?.map fun q => q.1) = some mX5_isFreeRectangle.1.cls := ⟨(xv_tbl_mem 503 (by decide +kernel) rfl), (xv_tbl_sel 5 (by decide +kernel) rfl), rfl⟩
theorem YX5_fillRectangle : xv_Y mX5_fillRectangle 2 := ⟨(xv_tbl_mem 512 (by decide +kernel) rfl), (xv_tbl_mem 2 (by decide +kernel) rfl), by decide +kernel, by decide +kernel, by decide +kernel, by decide⟩
theorem VX5_fillRectangle : Cond.instanceMethod mX5_fillRectangle.1 ∈ xv_tbl ∧ Cond.selects mX5_fillRectangle.1.cls mX5_fillRectangle.1 mX5_fillRectangle.1 ∈ xv_tbl ∧ (vwCl[5]?.map fun q => q.1) = some mX5_fillRectangle.1.cls := ⟨(xv_tbl_mem 510 (by decide +kernel) rfl), (xv_tbl_mem 511 (by decide +kernel) rfl), rfl⟩
theorem YX5_freeRun : xv_Y mX5_freeRun 3 := ⟨(xv_tbl_mem 627 (by decide +kernel) rfl), (xv_tbl_mem 2 (by decide +kernel) rfl), by decide +kernel, by decide +kernel, by decide +kernel, by decide⟩
theorem VX5_freeRun : Cond.instanceMethod mX5_freeRun.1 ∈ xv_tbl ∧ Cond.selects mX5_freeRun.1.cls mX5_freeRun.1 mX5_freeRun.1 ∈ xv_tbl ∧ (vwCl[5]?.map fun q => q.1) = some mX5_freeRun.1.cls := ⟨(xv_tbl_mem 625 (by decide +kernel) rfl), (xv_tbl_mem 626 (by decide +kernel) rfl), rfl⟩
theorem YX5_isThere : xv_Y mX5_isThere 1 := ⟨(xv_tbl_mem 708 (by decide +kernel) rfl), (xv_tbl_mem 2 (by decide +kernel) rfl), by decide +kernel, by decide +kernel, by decide +kernel, by decide⟩
theorem VX5_isThere : Cond.instanceMethod mX5_isThere.1 ∈ xv_tbl ∧ Cond.selects mX5_isThere.1.cls mX5_isThere.1 mX5_isThere.1 ∈ xv_tbl ∧ (vwCl[5]?.map fun q => q.1) = some mX5_isThere.1.cls := ⟨(xv_tbl_mem 706 (by decide +kernel) rfl), (xv_tbl_mem 707 (by decide +kernel) rfl), rfl⟩
theorem YX5_letLeave : xv_Y mX5_letLeave 1 := ⟨(xv_tbl_mem 712 (by decide +kernel) rfl), (xv_tbl_mem 2 (by decide +kernel) rfl), by decide +kernel, by decide +kernel, by decide +kernel, by decide⟩
theorem VX5_letLeave : Cond.instanceMethod mX5_letLeave.1 ∈ xv_tbl ∧ Cond.selects mX5_letLeave.1.cls mX5_letLeave.1 mX5_letLeave.1 ∈ xv_tbl ∧ (vwCl[5]?.map fun q => q.1) = some mX5_letLeave.1.cls := ⟨(xv_tbl_mem 710 (by decide +kernel) rfl), (xv_tbl_mem 711 (by decide +kernel) rfl), rfl⟩
theorem YX5_letComeBack : xv_Y mX5_letComeBack 1 := ⟨(xv_tbl_mem 716 (by decide +kernel) rfl), (xv_tbl_mem 2 (by decide +kernel) rfl), by decide +kernel, by decide +kernel, by decide +kernel, by decide⟩
theorem VX5_letComeBack : Cond.instanceMethod mX5_letComeBack.1 ∈ xv_tbl ∧ Cond.selects mX5_letComeBack.1.cls mX5_letComeBack.1 mX5_letComeBack.1 ∈ xv_tbl ∧ (vwCl[5]?.map fun q => q.1) = some mX5_letComeBack.1.cls := ⟨(xv_tbl_mem 714 (by decide +kernel) rfl), (xv_tbl_mem 715 (by decide +kernel) rfl), rfl⟩
theorem YX5_hasSigned : xv_Y mX5_hasSigned 2 := ⟨(xv_tbl_mem 724 (by decide +kernel) rfl), (xv_tbl_mem 2 (by decide +kernel) rfl), by decide +kernel, by decide +kernel, by decide +kernel, by decide⟩
theorem VX5_hasSigned : Cond.instanceMethod mX5_hasSigned.1 ∈ xv_tbl ∧ Cond.selects mX5_hasSigned.1.cls mX5_hasSigned.1 mX5_hasSigned.1 ∈ xv_tbl ∧ (vwCl[5]?.map fun q => q.1) = some mX5_hasSigned.1.cls := ⟨(xv_tbl_mem 722 (by decide +kernel) rfl), (xv_tbl_mem 723 (by decide +kernel) rfl), rfl⟩
theorem YX5_addSignature : xv_Y mX5_addSignature 2 := ⟨(xv_tbl_mem 729 (by decide +kernel) rfl), (xv_tbl_mem 2 (by decide +kernel) rfl), by decide +kernel, by decide +kernel, by decide +kernel, by decide⟩
theorem VX5_addSignature : Cond.instanceMethod mX5_addSignature.1 ∈ xv_tbl ∧ Cond.selects mX5_addSignature.1.cls mX5_addSignature.1 mX5_addSignature.1 ∈ xv_tbl ∧ (vwCl[5]?.map fun q => q.1) = some mX5_addSignature.1.cls := ⟨(xv_tbl_mem 727 (by decide +kernel) rfl), (xv_tbl_mem 728 (by decide +kernel) rfl), rfl⟩
theorem YX5_turnHold : xv_Y mX5_turnHold 2 := ⟨(xv_tbl_mem 739 (by decide +kernel) rfl), (xv_tbl_mem 2 (by decide +kernel) rfl), by decide +kernel, by decide +kernel, by decide +kernel, by decide⟩
theorem VX5_turnHold : Cond.instanceMethod mX5_turnHold.1 ∈ xv_tbl ∧ Cond.selects mX5_turnHold.1.cls mX5_turnHold.1 mX5_turnHold.1 ∈ xv_tbl ∧ (vwCl[5]?.map fun q => q.1) = some mX5_turnHold.1.cls := ⟨(xv_tbl_mem 737 (by decide +kernel) rfl), (xv_tbl_mem 738 (by decide +kernel) rfl), rfl⟩
theorem YX5_canGo : xv_Y mX5_canGo 1 := ⟨(xv_tbl_mem 747 (by decide +kernel) rfl), (xv_tbl_mem 2 (by decide +kernel) rfl), by decide +kernel, by decide +kernel, by decide +kernel, by decide⟩
theorem VX5_canGo : Cond.instanceMethod mX5_canGo.1 ∈ xv_tbl ∧ Cond.selects mX5_canGo.1.cls mX5_canGo.1 mX5_canGo.1 ∈ xv_tbl ∧ (vwCl[5]?.map fun q => q.1) = some mX5_canGo.1.cls := ⟨(xv_tbl_mem 745 (by decide +kernel) rfl), (xv_tbl_mem 746 (by decide +kernel) rfl), rfl⟩
theorem YX5_canAllGo : xv_Y mX5_canAllGo 0 := ⟨(xv_tbl_mem 756 (by decide +kernel) rfl), (xv_tbl_mem 2 (by decide +kernel) rfl), by decide +kernel, by decide +kernel, by decide +kernel, by decide⟩
theorem VX5_canAllGo : Cond.instanceMethod mX5_canAllGo.1 ∈ xv_tbl ∧ Cond.selects mX5_canAllGo.1.cls mX5_canAllGo.1 mX5_canAllGo.1 ∈ xv_tbl ∧ (vwCl[5]?.map fun q => q.1) = some mX5_canAllGo.1.cls := ⟨(xv_tbl_mem 754 (by decide +kernel) rfl), (xv_tbl_mem 755 (by decide +kernel) rfl), rfl⟩
theorem YX6_init : xv_Y mX6_init 4 := ⟨(xv_tbl_mem 552 (by decide +kernel) rfl), (xv_tbl_mem 17 (by decide +kernel) rfl), by decide +kernel, by decide +kernel, by decide +kernel, by decide⟩
theorem VX6_init : Cond.instanceMethod mX6_init.1 ∈ xv_tbl ∧ mX6_init.1.name = "<init>" ∧ mX6_init.2.2.2.1 = none := ⟨(xv_tbl_mem 551 (by decide +kernel) rfl), rfl, rfl⟩
theorem YX6_isLaid : xv_Y mX6_isLaid 0 := ⟨(xv_tbl_mem 593 (by decide +kernel) rfl), (xv_tbl_mem 17 (by decide +kernel) rfl), by decide +kernel, by decide +kernel, by decide +kernel, by decide⟩
theorem VX6_isLaid : Cond.instanceMethod mX6_isLaid.1 ∈ xv_tbl ∧ Cond.selects mX6_isLaid.1.cls mX6_isLaid.1 mX6_isLaid.1 ∈ xv_tbl ∧ (vwCl[6]?.map fun q => q.1) = some mX6_isLaid.1.cls := ⟨(xv_tbl_mem 591 (by decide +kernel) rfl), (xv_tbl_mem 592 (by decide +kernel) rfl), rfl⟩
theorem YX6_linesOfFirst : xv_Y mX6_linesOfFirst 1 := ⟨(xv_tbl_mem 618 (by decide +kernel) rfl), (xv_tbl_mem 17 (by decide +kernel) rfl), by decide +kernel, by decide +kernel, by decide +kernel, by decide⟩
theorem VX6_linesOfFirst : Cond.instanceMethod mX6_linesOfFirst.1 ∈ xv_tbl ∧ Cond.selects mX6_linesOfFirst.1.cls mX6_linesOfFirst.1 mX6_linesOfFirst.1 ∈ xv_tbl ∧ (vwCl[6]?.map fun q => q.1) = some mX6_linesOfFirst.1.cls := ⟨(xv_tbl_mem 617 (by decide +kernel) rfl), (xv_tbl_sel 9 (by decide +kernel) rfl), rfl⟩
theorem YX6_cellsFor : xv_Y mX6_cellsFor 2 := ⟨(xv_tbl_mem 614 (by decide +kernel) rfl), (xv_tbl_mem 17 (by decide +kernel) rfl), by decide +kernel, by decide +kernel, by decide +kernel, by decide⟩
theorem VX6_cellsFor : Cond.instanceMethod mX6_cellsFor.1 ∈ xv_tbl ∧ Cond.selects mX6_cellsFor.1.cls mX6_cellsFor.1 mX6_cellsFor.1 ∈ xv_tbl ∧ (vwCl[6]?.map fun q => q.1) = some mX6_cellsFor.1.cls := ⟨(xv_tbl_mem 612 (by decide +kernel) rfl), (xv_tbl_mem 613 (by decide +kernel) rfl), rfl⟩
theorem YX7_init : xv_Y mX7_init 0 := ⟨(xv_tbl_mem 141 (by decide +kernel) rfl), (xv_tbl_mem 6 (by decide +kernel) rfl), by decide +kernel, by decide +kernel, by decide +kernel, by decide⟩
theorem VX7_init : Cond.instanceMethod mX7_init.1 ∈ xv_tbl ∧ mX7_init.1.name = "<init>" ∧ mX7_init.2.2.2.1 = none := ⟨(xv_tbl_mem 140 (by decide +kernel) rfl), rfl, rfl⟩
theorem YX8_init : xv_Y mX8_init 0 := ⟨(xv_tbl_mem 74 (by decide +kernel) rfl), (xv_tbl_mem 4 (by decide +kernel) rfl), by decide +kernel, by decide +kernel, by decide +kernel, by decide⟩
theorem VX8_init : Cond.instanceMethod mX8_init.1 ∈ xv_tbl ∧ mX8_init.1.name = "<init>" ∧ mX8_init.2.2.2.1 = none := ⟨(xv_tbl_mem 73 (by decide +kernel) rfl), rfl, rfl⟩
theorem YX8_clear : xv_Y mX8_clear 0 := ⟨(xv_tbl_mem 602 (by decide +kernel) rfl), (xv_tbl_mem 4 (by decide +kernel) rfl), by decide +kernel, by decide +kernel, by decide +kernel, by decide⟩
theorem VX8_clear : Cond.instanceMethod mX8_clear.1 ∈ xv_tbl ∧ Cond.selects mX8_clear.1.cls mX8_clear.1 mX8_clear.1 ∈ xv_tbl ∧ (vwCl[8]?.map fun q => q.1) = some mX8_clear.1.cls := ⟨(xv_tbl_mem 600 (by decide +kernel) rfl), (xv_tbl_mem 601 (by decide +kernel) rfl), rfl⟩
theorem YX8_setPart : xv_Y mX8_setPart 4 := ⟨(xv_tbl_mem 606 (by decide +kernel) rfl), (xv_tbl_mem 4 (by decide +kernel) rfl), by decide +kernel, by decide +kernel, by decide +kernel, by decide⟩
theorem VX8_setPart : Cond.instanceMethod mX8_setPart.1 ∈ xv_tbl ∧ Cond.selects mX8_setPart.1.cls mX8_setPart.1 mX8_setPart.1 ∈ xv_tbl ∧ (vwCl[8]?.map fun q => q.1) = some mX8_setPart.1.cls := ⟨(xv_tbl_mem 604 (by decide +kernel) rfl), (xv_tbl_mem 605 (by decide +kernel) rfl), rfl⟩
theorem YX8_copy : xv_Y mX8_copy 1 := ⟨(xv_tbl_mem 650 (by decide +kernel) rfl), (xv_tbl_mem 4 (by decide +kernel) rfl), by decide +kernel, by decide +kernel, by decide +kernel, by decide⟩
theorem VX8_copy : Cond.instanceMethod mX8_copy.1 ∈ xv_tbl ∧ Cond.selects mX8_copy.1.cls mX8_copy.1 mX8_copy.1 ∈ xv_tbl ∧ (vwCl[8]?.map fun q => q.1) = some mX8_copy.1.cls := ⟨(xv_tbl_mem 648 (by decide +kernel) rfl), (xv_tbl_mem 649 (by decide +kernel) rfl), rfl⟩
theorem YX8_pageOf : xv_Y mX8_pageOf 1 := ⟨(xv_tbl_mem 654 (by decide +kernel) rfl), (xv_tbl_mem 4 (by decide +kernel) rfl), by decide +kernel, by decide +kernel, by decide +kernel, by decide⟩
theorem VX8_pageOf : Cond.instanceMethod mX8_pageOf.1 ∈ xv_tbl ∧ Cond.selects mX8_pageOf.1.cls mX8_pageOf.1 mX8_pageOf.1 ∈ xv_tbl ∧ (vwCl[8]?.map fun q => q.1) = some mX8_pageOf.1.cls := ⟨(xv_tbl_mem 652 (by decide +kernel) rfl), (xv_tbl_mem 653 (by decide +kernel) rfl), rfl⟩
theorem YX8_start : xv_Y mX8_start 1 := ⟨(xv_tbl_mem 658 (by decide +kernel) rfl), (xv_tbl_mem 4 (by decide +kernel) rfl), by decide +kernel, by decide +kernel, by decide +kernel, by decide⟩
theorem VX8_start : Cond.instanceMethod mX8_start.1 ∈ xv_tbl ∧ Cond.selects mX8_start.1.cls mX8_start.1 mX8_start.1 ∈ xv_tbl ∧ (vwCl[8]?.map fun q => q.1) = some mX8_start.1.cls := ⟨(xv_tbl_mem 656 (by decide +kernel) rfl), (xv_tbl_mem 657 (by decide +kernel) rfl), rfl⟩
theorem YX8_size : xv_Y mX8_size 1 := ⟨(xv_tbl_mem 662 (by decide +kernel) rfl), (xv_tbl_mem 4 (by decide +kernel) rfl), by decide +kernel, by decide +kernel, by decide +kernel, by decide⟩
theorem VX8_size : Cond.instanceMethod mX8_size.1 ∈ xv_tbl ∧ Cond.selects mX8_size.1.cls mX8_size.1 mX8_size.1 ∈ xv_tbl ∧ (vwCl[8]?.map fun q => q.1) = some mX8_size.1.cls := ⟨(xv_tbl_mem 660 (by decide +kernel) rfl), (xv_tbl_mem 661 (by decide +kernel) rfl), rfl⟩
theorem YX8_plates : xv_Y mX8_plates 0 := ⟨(xv_tbl_mem 639 (by decide +kernel) rfl), (xv_tbl_mem 4 (by decide +kernel) rfl), by decide +kernel, by decide +kernel, by decide +kernel, by decide⟩
theorem VX8_plates : Cond.instanceMethod mX8_plates.1 ∈ xv_tbl ∧ Cond.selects mX8_plates.1.cls mX8_plates.1 mX8_plates.1 ∈ xv_tbl ∧ (vwCl[8]?.map fun q => q.1) = some mX8_plates.1.cls := ⟨(xv_tbl_mem 637 (by decide +kernel) rfl), (xv_tbl_mem 638 (by decide +kernel) rfl), rfl⟩
theorem YX9_init : xv_Y mX9_init 0 := ⟨(xv_tbl_mem 171 (by decide +kernel) rfl), (xv_tbl_mem 8 (by decide +kernel) rfl), by decide +kernel, by decide +kernel, by decide +kernel, by decide⟩
theorem VX9_init : Cond.instanceMethod mX9_init.1 ∈ xv_tbl ∧ mX9_init.1.name = "<init>" ∧ mX9_init.2.2.2.1 = none := ⟨(xv_tbl_mem 170 (by decide +kernel) rfl), rfl, rfl⟩
theorem YX10_init : xv_Y mX10_init 0 := ⟨(xv_tbl_mem 23 (by decide +kernel) rfl), (xv_tbl_mem 1 (by decide +kernel) rfl), by decide +kernel, by decide +kernel, by decide +kernel, by decide⟩
theorem VX10_init : Cond.instanceMethod mX10_init.1 ∈ xv_tbl ∧ mX10_init.1.name = "<init>" ∧ mX10_init.2.2.2.1 = none := ⟨(xv_tbl_mem 22 (by decide +kernel) rfl), rfl, rfl⟩
theorem YX10_page : xv_Y mX10_page 3 := ⟨(xv_tbl_mem 264 (by decide +kernel) rfl), (xv_tbl_mem 1 (by decide +kernel) rfl), by decide +kernel, by decide +kernel, by decide +kernel, by decide⟩
theorem VX10_page : Cond.instanceMethod mX10_page.1 ∈ xv_tbl ∧ Cond.selects mX10_page.1.cls mX10_page.1 mX10_page.1 ∈ xv_tbl ∧ (vwCl[10]?.map fun q => q.1) = some mX10_page.1.cls := ⟨(xv_tbl_mem 262 (by decide +kernel) rfl), (xv_tbl_mem 263 (by decide +kernel) rfl), rfl⟩
theorem YX10_cell : xv_Y mX10_cell 2 := ⟨(xv_tbl_mem 393 (by decide +kernel) rfl), (xv_tbl_mem 1 (by decide +kernel) rfl), by decide +kernel, by decide +kernel, by decide +kernel, by decide⟩
theorem VX10_cell : Cond.instanceMethod mX10_cell.1 ∈ xv_tbl ∧ Cond.selects mX10_cell.1.cls mX10_cell.1 mX10_cell.1 ∈ xv_tbl ∧ (vwCl[10]?.map fun q => q.1) = some mX10_cell.1.cls := ⟨(xv_tbl_mem 391 (by decide +kernel) rfl), (xv_tbl_mem 392 (by decide +kernel) rfl), rfl⟩
theorem YX10_touched : xv_Y mX10_touched 0 := ⟨(xv_tbl_mem 247 (by decide +kernel) rfl), (xv_tbl_mem 1 (by decide +kernel) rfl), by decide +kernel, by decide +kernel, by decide +kernel, by decide⟩
theorem VX10_touched : Cond.instanceMethod mX10_touched.1 ∈ xv_tbl ∧ Cond.selects mX10_touched.1.cls mX10_touched.1 mX10_touched.1 ∈ xv_tbl ∧ (vwCl[10]?.map fun q => q.1) = some mX10_touched.1.cls := ⟨(xv_tbl_mem 245 (by decide +kernel) rfl), (xv_tbl_mem 246 (by decide +kernel) rfl), rfl⟩
theorem YX10_distance : xv_Y mX10_distance 2 := ⟨(xv_tbl_mem 403 (by decide +kernel) rfl), (xv_tbl_mem 1 (by decide +kernel) rfl), by decide +kernel, by decide +kernel, by decide +kernel, by decide⟩
theorem VX10_distance : Cond.instanceMethod mX10_distance.1 ∈ xv_tbl ∧ Cond.selects mX10_distance.1.cls mX10_distance.1 mX10_distance.1 ∈ xv_tbl ∧ (vwCl[10]?.map fun q => q.1) = some mX10_distance.1.cls := ⟨(xv_tbl_mem 401 (by decide +kernel) rfl), (xv_tbl_mem 402 (by decide +kernel) rfl), rfl⟩
theorem YX10_advert : xv_Y mX10_advert 6 := ⟨(xv_tbl_mem 411 (by decide +kernel) rfl), (xv_tbl_mem 1 (by decide +kernel) rfl), by decide +kernel, by decide +kernel, by decide +kernel, by decide⟩
theorem VX10_advert : Cond.instanceMethod mX10_advert.1 ∈ xv_tbl ∧ Cond.selects mX10_advert.1.cls mX10_advert.1 mX10_advert.1 ∈ xv_tbl ∧ (vwCl[10]?.map fun q => q.1) = some mX10_advert.1.cls := ⟨(xv_tbl_mem 409 (by decide +kernel) rfl), (xv_tbl_mem 410 (by decide +kernel) rfl), rfl⟩
theorem YX10_place : xv_Y mX10_place 1 := ⟨(xv_tbl_mem 456 (by decide +kernel) rfl), (xv_tbl_mem 1 (by decide +kernel) rfl), by decide +kernel, by decide +kernel, by decide +kernel, by decide⟩
theorem VX10_place : Cond.instanceMethod mX10_place.1 ∈ xv_tbl ∧ Cond.selects mX10_place.1.cls mX10_place.1 mX10_place.1 ∈ xv_tbl ∧ (vwCl[10]?.map fun q => q.1) = some mX10_place.1.cls := ⟨(xv_tbl_mem 454 (by decide +kernel) rfl), (xv_tbl_mem 455 (by decide +kernel) rfl), rfl⟩
theorem YX10_takeOff : xv_Y mX10_takeOff 1 := ⟨(xv_tbl_mem 527 (by decide +kernel) rfl), (xv_tbl_mem 1 (by decide +kernel) rfl), by decide +kernel, by decide +kernel, by decide +kernel, by decide⟩
theorem VX10_takeOff : Cond.instanceMethod mX10_takeOff.1 ∈ xv_tbl ∧ Cond.selects mX10_takeOff.1.cls mX10_takeOff.1 mX10_takeOff.1 ∈ xv_tbl ∧ (vwCl[10]?.map fun q => q.1) = some mX10_takeOff.1.cls := ⟨(xv_tbl_mem 525 (by decide +kernel) rfl), (xv_tbl_mem 526 (by decide +kernel) rfl), rfl⟩
theorem YX10_advertsIn : xv_Y mX10_advertsIn 1 := ⟨(xv_tbl_mem 536 (by decide +kernel) rfl), (xv_tbl_mem 1 (by decide +kernel) rfl), by decide +kernel, by decide +kernel, by decide +kernel, by decide⟩
theorem VX10_advertsIn : Cond.instanceMethod mX10_advertsIn.1 ∈ xv_tbl ∧ Cond.selects mX10_advertsIn.1.cls mX10_advertsIn.1 mX10_advertsIn.1 ∈ xv_tbl ∧ (vwCl[10]?.map fun q => q.1) = some mX10_advertsIn.1.cls := ⟨(xv_tbl_mem 534 (by decide +kernel) rfl), (xv_tbl_mem 535 (by decide +kernel) rfl), rfl⟩
theorem YX10_story : xv_Y mX10_story 3 := ⟨(xv_tbl_mem 544 (by decide +kernel) rfl), (xv_tbl_mem 1 (by decide +kernel) rfl), by decide +kernel, by decide +kernel, by decide +kernel, by decide⟩
theorem VX10_story : Cond.instanceMethod mX10_story.1 ∈ xv_tbl ∧ Cond.selects mX10_story.1.cls mX10_story.1 mX10_story.1 ∈ xv_tbl ∧ (vwCl[10]?.map fun q => q.1) = some mX10_story.1.cls := ⟨(xv_tbl_mem 542 (by decide +kernel) rfl), (xv_tbl_mem 543 (by decide +kernel) rfl), rfl⟩
theorem YX10_lay : xv_Y mX10_lay 1 := ⟨(xv_tbl_mem 580 (by decide +kernel) rfl), (xv_tbl_mem 1 (by decide +kernel) rfl), by decide +kernel, by decide +kernel, by decide +kernel, by decide⟩
theorem VX10_lay : Cond.instanceMethod mX10_lay.1 ∈ xv_tbl ∧ Cond.selects mX10_lay.1.cls mX10_lay.1 mX10_lay.1 ∈ xv_tbl ∧ (vwCl[10]?.map fun q => q.1) = some mX10_lay.1.cls := ⟨(xv_tbl_mem 578 (by decide +kernel) rfl), (xv_tbl_mem 579 (by decide +kernel) rfl), rfl⟩
theorem YX10_lift : xv_Y mX10_lift 1 := ⟨(xv_tbl_mem 680 (by decide +kernel) rfl), (xv_tbl_mem 1 (by decide +kernel) rfl), by decide +kernel, by decide +kernel, by decide +kernel, by decide⟩
theorem VX10_lift : Cond.instanceMethod mX10_lift.1 ∈ xv_tbl ∧ Cond.selects mX10_lift.1.cls mX10_lift.1 mX10_lift.1 ∈ xv_tbl ∧ (vwCl[10]?.map fun q => q.1) = some mX10_lift.1.cls := ⟨(xv_tbl_mem 678 (by decide +kernel) rfl), (xv_tbl_mem 679 (by decide +kernel) rfl), rfl⟩
theorem YX10_change : xv_Y mX10_change 2 := ⟨(xv_tbl_mem 686 (by decide +kernel) rfl), (xv_tbl_mem 1 (by decide +kernel) rfl), by decide +kernel, by decide +kernel, by decide +kernel, by decide⟩
theorem VX10_change : Cond.instanceMethod mX10_change.1 ∈ xv_tbl ∧ Cond.selects mX10_change.1.cls mX10_change.1 mX10_change.1 ∈ xv_tbl ∧ (vwCl[10]?.map fun q => q.1) = some mX10_change.1.cls := ⟨(xv_tbl_mem 684 (by decide +kernel) rfl), (xv_tbl_mem 685 (by decide +kernel) rfl), rfl⟩
theorem YX10_part : xv_Y mX10_part 2 := ⟨(xv_tbl_mem 696 (by decide +kernel) rfl), (xv_tbl_mem 1 (by decide +kernel) rfl), by decide +kernel, by decide +kernel, by decide +kernel, by decide⟩
theorem VX10_part : Cond.instanceMethod mX10_part.1 ∈ xv_tbl ∧ Cond.selects mX10_part.1.cls mX10_part.1 mX10_part.1 ∈ xv_tbl ∧ (vwCl[10]?.map fun q => q.1) = some mX10_part.1.cls := ⟨(xv_tbl_mem 694 (by decide +kernel) rfl), (xv_tbl_mem 695 (by decide +kernel) rfl), rfl⟩
theorem YX10_person : xv_Y mX10_person 1 := ⟨(xv_tbl_mem 700 (by decide +kernel) rfl), (xv_tbl_mem 1 (by decide +kernel) rfl), by decide +kernel, by decide +kernel, by decide +kernel, by decide⟩
theorem VX10_person : Cond.instanceMethod mX10_person.1 ∈ xv_tbl ∧ Cond.selects mX10_person.1.cls mX10_person.1 mX10_person.1 ∈ xv_tbl ∧ (vwCl[10]?.map fun q => q.1) = some mX10_person.1.cls := ⟨(xv_tbl_mem 698 (by decide +kernel) rfl), (xv_tbl_mem 699 (by decide +kernel) rfl), rfl⟩
theorem YX10_sign : xv_Y mX10_sign 2 := ⟨(xv_tbl_mem 720 (by decide +kernel) rfl), (xv_tbl_mem 1 (by decide +kernel) rfl), by decide +kernel, by decide +kernel, by decide +kernel, by decide⟩
theorem VX10_sign : Cond.instanceMethod mX10_sign.1 ∈ xv_tbl ∧ Cond.selects mX10_sign.1.cls mX10_sign.1 mX10_sign.1 ∈ xv_tbl ∧ (vwCl[10]?.map fun q => q.1) = some mX10_sign.1.cls := ⟨(xv_tbl_mem 718 (by decide +kernel) rfl), (xv_tbl_mem 719 (by decide +kernel) rfl), rfl⟩
theorem YX10_hold : xv_Y mX10_hold 2 := ⟨(xv_tbl_mem 734 (by decide +kernel) rfl), (xv_tbl_mem 1 (by decide +kernel) rfl), by decide +kernel, by decide +kernel, by decide +kernel, by decide⟩
theorem VX10_hold : Cond.instanceMethod mX10_hold.1 ∈ xv_tbl ∧ Cond.selects mX10_hold.1.cls mX10_hold.1 mX10_hold.1 ∈ xv_tbl ∧ (vwCl[10]?.map fun q => q.1) = some mX10_hold.1.cls := ⟨(xv_tbl_mem 732 (by decide +kernel) rfl), (xv_tbl_mem 733 (by decide +kernel) rfl), rfl⟩
theorem YX10_isReady : xv_Y mX10_isReady 1 := ⟨(xv_tbl_mem 743 (by decide +kernel) rfl), (xv_tbl_mem 1 (by decide +kernel) rfl), by decide +kernel, by decide +kernel, by decide +kernel, by decide⟩
theorem VX10_isReady : Cond.instanceMethod mX10_isReady.1 ∈ xv_tbl ∧ Cond.selects mX10_isReady.1.cls mX10_isReady.1 mX10_isReady.1 ∈ xv_tbl ∧ (vwCl[10]?.map fun q => q.1) = some mX10_isReady.1.cls := ⟨(xv_tbl_mem 741 (by decide +kernel) rfl), (xv_tbl_mem 742 (by decide +kernel) rfl), rfl⟩
theorem YX10_close : xv_Y mX10_close 0 := ⟨(xv_tbl_mem 752 (by decide +kernel) rfl), (xv_tbl_mem 1 (by decide +kernel) rfl), by decide +kernel, by decide +kernel, by decide +kernel, by decide⟩
theorem VX10_close : Cond.instanceMethod mX10_close.1 ∈ xv_tbl ∧ Cond.selects mX10_close.1.cls mX10_close.1 mX10_close.1 ∈ xv_tbl ∧ (vwCl[10]?.map fun q => q.1) = some mX10_close.1.cls := ⟨(xv_tbl_mem 750 (by decide +kernel) rfl), (xv_tbl_mem 751 (by decide +kernel) rfl), rfl⟩
theorem YX10_printed : xv_Y mX10_printed 3 := ⟨(xv_tbl_mem 767 (by decide +kernel) rfl), (xv_tbl_mem 1 (by decide +kernel) rfl), by decide +kernel, by decide +kernel, by decide +kernel, by decide⟩
theorem VX10_printed : Cond.instanceMethod mX10_printed.1 ∈ xv_tbl ∧ Cond.selects mX10_printed.1.cls mX10_printed.1 mX10_printed.1 ∈ xv_tbl ∧ (vwCl[10]?.map fun q => q.1) = some mX10_printed.1.cls := ⟨(xv_tbl_mem 765 (by decide +kernel) rfl), (xv_tbl_mem 766 (by decide +kernel) rfl), rfl⟩
theorem YX10_correct : xv_Y mX10_correct 2 := ⟨(xv_tbl_mem 786 (by decide +kernel) rfl), (xv_tbl_mem 1 (by decide +kernel) rfl), by decide +kernel, by decide +kernel, by decide +kernel, by decide⟩
theorem VX10_correct : Cond.instanceMethod mX10_correct.1 ∈ xv_tbl ∧ Cond.selects mX10_correct.1.cls mX10_correct.1 mX10_correct.1 ∈ xv_tbl ∧ (vwCl[10]?.map fun q => q.1) = some mX10_correct.1.cls := ⟨(xv_tbl_mem 784 (by decide +kernel) rfl), (xv_tbl_mem 785 (by decide +kernel) rfl), rfl⟩
theorem YX10_placeCorrection : xv_Y mX10_placeCorrection 0 := ⟨(xv_tbl_mem 804 (by decide +kernel) rfl), (xv_tbl_mem 1 (by decide +kernel) rfl), by decide +kernel, by decide +kernel, by decide +kernel, by decide⟩
theorem VX10_placeCorrection : Cond.instanceMethod mX10_placeCorrection.1 ∈ xv_tbl ∧ Cond.selects mX10_placeCorrection.1.cls mX10_placeCorrection.1 mX10_placeCorrection.1 ∈ xv_tbl ∧ (vwCl[10]?.map fun q => q.1) = some mX10_placeCorrection.1.cls := ⟨(xv_tbl_mem 802 (by decide +kernel) rfl), (xv_tbl_mem 803 (by decide +kernel) rfl), rfl⟩
theorem YX10_clean : xv_Y mX10_clean 1 := ⟨(xv_tbl_mem 821 (by decide +kernel) rfl), (xv_tbl_mem 1 (by decide +kernel) rfl), by decide +kernel, by decide +kernel, by decide +kernel, by decide⟩
theorem VX10_clean : Cond.instanceMethod mX10_clean.1 ∈ xv_tbl ∧ Cond.selects mX10_clean.1.cls mX10_clean.1 mX10_clean.1 ∈ xv_tbl ∧ (vwCl[10]?.map fun q => q.1) = some mX10_clean.1.cls := ⟨(xv_tbl_mem 819 (by decide +kernel) rfl), (xv_tbl_mem 820 (by decide +kernel) rfl), rfl⟩
theorem YX10_pass : xv_Y mX10_pass 1 := ⟨(xv_tbl_mem 825 (by decide +kernel) rfl), (xv_tbl_mem 1 (by decide +kernel) rfl), by decide +kernel, by decide +kernel, by decide +kernel, by decide⟩
theorem VX10_pass : Cond.instanceMethod mX10_pass.1 ∈ xv_tbl ∧ Cond.selects mX10_pass.1.cls mX10_pass.1 mX10_pass.1 ∈ xv_tbl ∧ (vwCl[10]?.map fun q => q.1) = some mX10_pass.1.cls := ⟨(xv_tbl_mem 823 (by decide +kernel) rfl), (xv_tbl_mem 824 (by decide +kernel) rfl), rfl⟩
theorem YX10_needPage : xv_Y mX10_needPage 1 := ⟨(xv_tbl_mem 267 (by decide +kernel) rfl), (xv_tbl_mem 1 (by decide +kernel) rfl), by decide +kernel, by decide +kernel, by decide +kernel, by decide⟩
theorem VX10_needPage : Cond.static mX10_needPage.1 ∈ xv_tbl := (xv_tbl_mem 266 (by decide +kernel) rfl)
theorem YX10_needCell : xv_Y mX10_needCell 1 := ⟨(xv_tbl_mem 396 (by decide +kernel) rfl), (xv_tbl_mem 1 (by decide +kernel) rfl), by decide +kernel, by decide +kernel, by decide +kernel, by decide⟩
theorem VX10_needCell : Cond.static mX10_needCell.1 ∈ xv_tbl := (xv_tbl_mem 395 (by decide +kernel) rfl)
theorem YX10_needPerson : xv_Y mX10_needPerson 1 := ⟨(xv_tbl_mem 703 (by decide +kernel) rfl), (xv_tbl_mem 1 (by decide +kernel) rfl), by decide +kernel, by decide +kernel, by decide +kernel, by decide⟩
theorem VX10_needPerson : Cond.static mX10_needPerson.1 ∈ xv_tbl := (xv_tbl_mem 702 (by decide +kernel) rfl)
theorem YX10_needRange : xv_Y mX10_needRange 3 := ⟨(xv_tbl_mem 341 (by decide +kernel) rfl), (xv_tbl_mem 1 (by decide +kernel) rfl), by decide +kernel, by decide +kernel, by decide +kernel, by decide⟩
theorem VX10_needRange : Cond.static mX10_needRange.1 ∈ xv_tbl := (xv_tbl_mem 340 (by decide +kernel) rfl)
theorem YX10_needEdition : xv_Y mX10_needEdition 1 := ⟨(xv_tbl_mem 771 (by decide +kernel) rfl), (xv_tbl_mem 1 (by decide +kernel) rfl), by decide +kernel, by decide +kernel, by decide +kernel, by decide⟩
theorem VX10_needEdition : Cond.instanceMethod mX10_needEdition.1 ∈ xv_tbl ∧ Cond.selects mX10_needEdition.1.cls mX10_needEdition.1 mX10_needEdition.1 ∈ xv_tbl ∧ (vwCl[10]?.map fun q => q.1) = some mX10_needEdition.1.cls := ⟨(xv_tbl_mem 770 (by decide +kernel) rfl), (xv_tbl_sel 14 (by decide +kernel) rfl), rfl⟩
theorem YX10_needAdvert : xv_Y mX10_needAdvert 1 := ⟨(xv_tbl_mem 460 (by decide +kernel) rfl), (xv_tbl_mem 1 (by decide +kernel) rfl), by decide +kernel, by decide +kernel, by decide +kernel, by decide⟩
theorem VX10_needAdvert : Cond.instanceMethod mX10_needAdvert.1 ∈ xv_tbl ∧ Cond.selects mX10_needAdvert.1.cls mX10_needAdvert.1 mX10_needAdvert.1 ∈ xv_tbl ∧ (vwCl[10]?.map fun q => q.1) = some mX10_needAdvert.1.cls := ⟨(xv_tbl_mem 459 (by decide +kernel) rfl), (xv_tbl_sel 2 (by decide +kernel) rfl), rfl⟩
theorem YX10_needStory : xv_Y mX10_needStory 1 := ⟨(xv_tbl_mem 584 (by decide +kernel) rfl), (xv_tbl_mem 1 (by decide +kernel) rfl), by decide +kernel, by decide +kernel, by decide +kernel, by decide⟩
theorem VX10_needStory : Cond.instanceMethod mX10_needStory.1 ∈ xv_tbl ∧ Cond.selects mX10_needStory.1.cls mX10_needStory.1 mX10_needStory.1 ∈ xv_tbl ∧ (vwCl[10]?.map fun q => q.1) = some mX10_needStory.1.cls := ⟨(xv_tbl_mem 583 (by decide +kernel) rfl), (xv_tbl_sel 6 (by decide +kernel) rfl), rfl⟩
theorem YX10_storyAt : xv_Y mX10_storyAt 1 := ⟨(xv_tbl_mem 588 (by decide +kernel) rfl), (xv_tbl_mem 1 (by decide +kernel) rfl), by decide +kernel, by decide +kernel, by decide +kernel, by decide⟩
theorem VX10_storyAt : Cond.instanceMethod mX10_storyAt.1 ∈ xv_tbl ∧ Cond.selects mX10_storyAt.1.cls mX10_storyAt.1 mX10_storyAt.1 ∈ xv_tbl ∧ (vwCl[10]?.map fun q => q.1) = some mX10_storyAt.1.cls := ⟨(xv_tbl_mem 587 (by decide +kernel) rfl), (xv_tbl_sel 7 (by decide +kernel) rfl), rfl⟩
theorem YX10_isPage : xv_Y mX10_isPage 1 := ⟨(xv_tbl_mem 270 (by decide +kernel) rfl), (xv_tbl_mem 1 (by decide +kernel) rfl), by decide +kernel, by decide +kernel, by decide +kernel, by decide⟩
theorem VX10_isPage : Cond.static mX10_isPage.1 ∈ xv_tbl := (xv_tbl_mem 269 (by decide +kernel) rfl)
theorem YX10_isCell : xv_Y mX10_isCell 1 := ⟨(xv_tbl_mem 369 (by decide +kernel) rfl), (xv_tbl_mem 1 (by decide +kernel) rfl), by decide +kernel, by decide +kernel, by decide +kernel, by decide⟩
theorem VX10_isCell : Cond.static mX10_isCell.1 ∈ xv_tbl := (xv_tbl_mem 368 (by decide +kernel) rfl)
theorem YX10_isZonePage : xv_Y mX10_isZonePage 1 := ⟨(xv_tbl_mem 496 (by decide +kernel) rfl), (xv_tbl_mem 1 (by decide +kernel) rfl), by decide +kernel, by decide +kernel, by decide +kernel, by decide⟩
theorem VX10_isZonePage : Cond.static mX10_isZonePage.1 ∈ xv_tbl := (xv_tbl_mem 495 (by decide +kernel) rfl)
theorem YX10_isInCopies : xv_Y mX10_isInCopies 2 := ⟨(xv_tbl_mem 540 (by decide +kernel) rfl), (xv_tbl_mem 1 (by decide +kernel) rfl), by decide +kernel, by decide +kernel, by decide +kernel, by decide⟩
theorem VX10_isInCopies : Cond.static mX10_isInCopies.1 ∈ xv_tbl := (xv_tbl_mem 539 (by decide +kernel) rfl)
theorem YX10_plateOf : xv_Y mX10_plateOf 1 := ⟨(xv_tbl_mem 519 (by decide +kernel) rfl), (xv_tbl_mem 1 (by decide +kernel) rfl), by decide +kernel, by decide +kernel, by decide +kernel, by decide⟩
theorem VX10_plateOf : Cond.static mX10_plateOf.1 ∈ xv_tbl := (xv_tbl_mem 518 (by decide +kernel) rfl)
theorem YX10_cellInColumns : xv_Y mX10_cellInColumns 1 := ⟨(xv_tbl_mem 630 (by decide +kernel) rfl), (xv_tbl_mem 1 (by decide +kernel) rfl), by decide +kernel, by decide +kernel, by decide +kernel, by decide⟩
theorem VX10_cellInColumns : Cond.static mX10_cellInColumns.1 ∈ xv_tbl := (xv_tbl_mem 629 (by decide +kernel) rfl)
theorem YX10_pagesApart : xv_Y mX10_pagesApart 2 := ⟨(xv_tbl_mem 493 (by decide +kernel) rfl), (xv_tbl_mem 1 (by decide +kernel) rfl), by decide +kernel, by decide +kernel, by decide +kernel, by decide⟩
theorem VX10_pagesApart : Cond.static mX10_pagesApart.1 ∈ xv_tbl := (xv_tbl_mem 492 (by decide +kernel) rfl)
theorem YX10_distanceOf : xv_Y mX10_distanceOf 1 := ⟨(xv_tbl_mem 407 (by decide +kernel) rfl), (xv_tbl_mem 1 (by decide +kernel) rfl), by decide +kernel, by decide +kernel, by decide +kernel, by decide⟩
theorem VX10_distanceOf : Cond.instanceMethod mX10_distanceOf.1 ∈ xv_tbl ∧ Cond.selects mX10_distanceOf.1.cls mX10_distanceOf.1 mX10_distanceOf.1 ∈ xv_tbl ∧ (vwCl[10]?.map fun q => q.1) = some mX10_distanceOf.1.cls := ⟨(xv_tbl_mem 406 (by decide +kernel) rfl), (xv_tbl_sel 1 (by decide +kernel) rfl), rfl⟩
theorem YX10_fits : xv_Y mX10_fits 2 := ⟨(xv_tbl_mem 478 (by decide +kernel) rfl), (xv_tbl_mem 1 (by decide +kernel) rfl), by decide +kernel, by decide +kernel, by decide +kernel, by decide⟩
theorem VX10_fits : Cond.instanceMethod mX10_fits.1 ∈ xv_tbl ∧ Cond.selects mX10_fits.1.cls mX10_fits.1 mX10_fits.1 ∈ xv_tbl ∧ (vwCl[10]?.map fun q => q.1) = some mX10_fits.1.cls := ⟨(xv_tbl_mem 477 (by decide +kernel) rfl), (xv_tbl_sel 3 (by decide +kernel) rfl), rfl⟩
theorem YX10_isFarFromItsLike : xv_Y mX10_isFarFromItsLike 2 := ⟨(xv_tbl_mem 490 (by decide +kernel) rfl), (xv_tbl_mem 1 (by decide +kernel) rfl), by decide +kernel, by decide +kernel, by decide +kernel, by decide⟩
theorem VX10_isFarFromItsLike : Cond.instanceMethod mX10_isFarFromItsLike.1 ∈ xv_tbl ∧ Cond.selects mX10_isFarFromItsLike.1.cls mX10_isFarFromItsLike.1 mX10_isFarFromItsLike.1 ∈ xv_tbl ∧ (vwCl[10]?.map fun q => q.1) = some mX10_isFarFromItsLike.1.cls := ⟨(xv_tbl_mem 489 (by decide +kernel) rfl), (xv_tbl_sel 4 (by decide +kernel) rfl), rfl⟩
theorem YX10_paragraphsOf : xv_Y mX10_paragraphsOf 1 := ⟨(xv_tbl_mem 547 (by decide +kernel) rfl), (xv_tbl_mem 1 (by decide +kernel) rfl), by decide +kernel, by decide +kernel, by decide +kernel, by decide⟩
theorem VX10_paragraphsOf : Cond.static mX10_paragraphsOf.1 ∈ xv_tbl := (xv_tbl_mem 546 (by decide +kernel) rfl)
theorem YX10_putOut : xv_Y mX10_putOut 2 := ⟨(xv_tbl_mem 670 (by decide +kernel) rfl), (xv_tbl_mem 1 (by decide +kernel) rfl), by decide +kernel, by decide +kernel, by decide +kernel, by decide⟩
theorem VX10_putOut : Cond.instanceMethod mX10_putOut.1 ∈ xv_tbl ∧ Cond.selects mX10_putOut.1.cls mX10_putOut.1 mX10_putOut.1 ∈ xv_tbl ∧ (vwCl[10]?.map fun q => q.1) = some mX10_putOut.1.cls := ⟨(xv_tbl_mem 669 (by decide +kernel) rfl), (xv_tbl_sel 13 (by decide +kernel) rfl), rfl⟩
theorem YJ6_bitCount_0f7a4 : xv_Y mJ6_bitCount_0f7a4 1 := ⟨(xv_tbl_mem 643 (by decide +kernel) rfl), (xv_tbl_mem 18 (by decide +kernel) rfl), by decide +kernel, by decide +kernel, by decide +kernel, by decide⟩
theorem VJ6_bitCount_0f7a4 : Cond.static mJ6_bitCount_0f7a4.1 ∈ xv_tbl := (xv_tbl_mem 642 (by decide +kernel) rfl)
theorem YL_part : xv_Y mL_part 3 := ⟨(xv_tbl_mem 250 (by decide +kernel) rfl), (xv_tbl_mem 0 (by decide +kernel) rfl), by decide +kernel, by decide +kernel, by decide +kernel, by decide⟩
theorem VL_part : Cond.static mL_part.1 ∈ xv_tbl := (xv_tbl_mem 249 (by decide +kernel) rfl)
theorem YL_does : xv_Y mL_does 7 := ⟨(xv_tbl_mem 254 (by decide +kernel) rfl), (xv_tbl_mem 0 (by decide +kernel) rfl), by decide +kernel, by decide +kernel, by decide +kernel, by decide⟩
theorem VL_does : Cond.static mL_does.1 ∈ xv_tbl := (xv_tbl_mem 253 (by decide +kernel) rfl)
theorem YL_paged : xv_Y mL_paged 4 := ⟨(xv_tbl_mem 260 (by decide +kernel) rfl), (xv_tbl_mem 0 (by decide +kernel) rfl), by decide +kernel, by decide +kernel, by decide +kernel, by decide⟩
theorem VL_paged : Cond.static mL_paged.1 ∈ xv_tbl := (xv_tbl_mem 259 (by decide +kernel) rfl)
theorem YL_cell : xv_Y mL_cell 4 := ⟨(xv_tbl_mem 828 (by decide +kernel) rfl), (xv_tbl_mem 0 (by decide +kernel) rfl), by decide +kernel, by decide +kernel, by decide +kernel, by decide⟩
theorem VL_cell : Cond.static mL_cell.1 ∈ xv_tbl := (xv_tbl_mem 827 (by decide +kernel) rfl)
theorem YL_puts : xv_Y mL_puts 5 := ⟨(xv_tbl_mem 834 (by decide +kernel) rfl), (xv_tbl_mem 0 (by decide +kernel) rfl), by decide +kernel, by decide +kernel, by decide +kernel, by decide⟩
theorem VL_puts : Cond.static mL_puts.1 ∈ xv_tbl := (xv_tbl_mem 833 (by decide +kernel) rfl)
theorem VL_areCells : Cond.static mL_areCells.1 ∈ xv_tbl := (xv_tbl_mem 830 (by decide +kernel) rfl)
theorem YL_inColumns : xv_Y mL_inColumns 4 := ⟨(xv_tbl_mem 840 (by decide +kernel) rfl), (xv_tbl_mem 0 (by decide +kernel) rfl), by decide +kernel, by decide +kernel, by decide +kernel, by decide⟩
theorem VL_inColumns : Cond.static mL_inColumns.1 ∈ xv_tbl := (xv_tbl_mem 839 (by decide +kernel) rfl)
theorem YL_count : xv_Y mL_count 1 := ⟨(xv_tbl_mem 837 (by decide +kernel) rfl), (xv_tbl_mem 0 (by decide +kernel) rfl), by decide +kernel, by decide +kernel, by decide +kernel, by decide⟩
theorem VL_count : Cond.static mL_count.1 ∈ xv_tbl := (xv_tbl_mem 836 (by decide +kernel) rfl)
theorem YL_isFar : xv_Y mL_isFar 6 := ⟨(xv_tbl_mem 850 (by decide +kernel) rfl), (xv_tbl_mem 0 (by decide +kernel) rfl), by decide +kernel, by decide +kernel, by decide +kernel, by decide⟩
theorem VL_isFar : Cond.static mL_isFar.1 ∈ xv_tbl := (xv_tbl_mem 849 (by decide +kernel) rfl)
theorem YL_placeFor : xv_Y mL_placeFor 8 := ⟨(xv_tbl_mem 847 (by decide +kernel) rfl), (xv_tbl_mem 0 (by decide +kernel) rfl), by decide +kernel, by decide +kernel, by decide +kernel, by decide⟩
theorem VL_placeFor : Cond.static mL_placeFor.1 ∈ xv_tbl := (xv_tbl_mem 846 (by decide +kernel) rfl)
theorem YL_lines : xv_Y mL_lines 1 := ⟨(xv_tbl_mem 856 (by decide +kernel) rfl), (xv_tbl_mem 0 (by decide +kernel) rfl), by decide +kernel, by decide +kernel, by decide +kernel, by decide⟩
theorem VL_lines : Cond.static mL_lines.1 ∈ xv_tbl := (xv_tbl_mem 855 (by decide +kernel) rfl)
theorem VL_isAdvert : Cond.static mL_isAdvert.1 ∈ xv_tbl := (xv_tbl_mem 842 (by decide +kernel) rfl)
theorem VL_isStory : Cond.static mL_isStory.1 ∈ xv_tbl := (xv_tbl_mem 852 (by decide +kernel) rfl)
theorem YL_laid : xv_Y mL_laid 3 := ⟨(xv_tbl_mem 862 (by decide +kernel) rfl), (xv_tbl_mem 0 (by decide +kernel) rfl), by decide +kernel, by decide +kernel, by decide +kernel, by decide⟩
theorem VL_laid : Cond.static mL_laid.1 ∈ xv_tbl := (xv_tbl_mem 861 (by decide +kernel) rfl)
theorem YL_fitsIn : xv_Y mL_fitsIn 4 := ⟨(xv_tbl_mem 859 (by decide +kernel) rfl), (xv_tbl_mem 0 (by decide +kernel) rfl), by decide +kernel, by decide +kernel, by decide +kernel, by decide⟩
theorem VL_fitsIn : Cond.static mL_fitsIn.1 ∈ xv_tbl := (xv_tbl_mem 858 (by decide +kernel) rfl)
theorem YL_isSigned : xv_Y mL_isSigned 6 := ⟨(xv_tbl_mem 865 (by decide +kernel) rfl), (xv_tbl_mem 0 (by decide +kernel) rfl), by decide +kernel, by decide +kernel, by decide +kernel, by decide⟩
theorem VL_isSigned : Cond.static mL_isSigned.1 ∈ xv_tbl := (xv_tbl_mem 864 (by decide +kernel) rfl)
theorem VL_isClosed : Cond.static mL_isClosed.1 ∈ xv_tbl := (xv_tbl_mem 867 (by decide +kernel) rfl)
theorem nL_15 : xv_N RL 15 10 14 := ⟨RX10, TX10, rfl, inX10, (xv_tbl_mem 19 (by decide +kernel) rfl), (xv_tbl_mem 20 (by decide +kernel) rfl), (xv_tbl_mem 1 (by decide +kernel) rfl), by decide +kernel, by decide +kernel⟩
theorem kL_15 : Cond.classLink RL 15 "PressHall" ∈ xv_tbl := (xv_tbl_mem 19 (by decide +kernel) rfl)
theorem lL_137 : Cond.methodLink RL 137 mX10_init.1 ∈ xv_tbl := (xv_tbl_mem 21 (by decide +kernel) rfl)
theorem lX10_1 : Cond.methodLink RX10 1 Lib.objectInit ∈ xv_tbl := (xv_tbl_mem 24 (by decide +kernel) rfl)
theorem nX10_7 : xv_N RX10 7 5 7 := ⟨RX5, TX5, rfl, inX5, (xv_tbl_mem 27 (by decide +kernel) rfl), (xv_tbl_mem 28 (by decide +kernel) rfl), (xv_tbl_mem 2 (by decide +kernel) rfl), by decide +kernel, by decide +kernel⟩
theorem kX10_7 : Cond.classLink RX10 7 "PressHall$Sheets" ∈ xv_tbl := (xv_tbl_mem 27 (by decide +kernel) rfl)
theorem lX10_9 : Cond.methodLink RX10 9 mX5_init.1 ∈ xv_tbl := (xv_tbl_mem 29 (by decide +kernel) rfl)
theorem lX5_3 : Cond.methodLink RX5 3 Lib.objectInit ∈ xv_tbl := (xv_tbl_mem 32 (by decide +kernel) rfl)
theorem kX5_9 : Cond.classLink RX5 9 "[[I" ∈ xv_tbl := (xv_tbl_mem 33 (by decide +kernel) rfl)
theorem gX5_11 : xv_G RX5 11 5 0 := ⟨RX5, TX5, 7, rfl, by decide, inX5, Or.inl (xv_tbl_mem 35 (by decide +kernel) rfl)⟩
theorem gX5_16 : xv_G RX5 16 5 1 := ⟨RX5, TX5, 7, rfl, by decide, inX5, Or.inl (xv_tbl_mem 36 (by decide +kernel) rfl)⟩
theorem gX5_20 : xv_G RX5 20 5 2 := ⟨RX5, TX5, 7, rfl, by decide, inX5, Or.inl (xv_tbl_mem 37 (by decide +kernel) rfl)⟩
theorem gX5_24 : xv_G RX5 24 5 3 := ⟨RX5, TX5, 7, rfl, by decide, inX5, Or.inl (xv_tbl_mem 38 (by decide +kernel) rfl)⟩
theorem gX5_27 : xv_G RX5 27 5 4 := ⟨RX5, TX5, 7, rfl, by decide, inX5, Or.inl (xv_tbl_mem 39 (by decide +kernel) rfl)⟩
theorem gX5_30 : xv_G RX5 30 5 5 := ⟨RX5, TX5, 7, rfl, by decide, inX5, Or.inl (xv_tbl_mem 40 (by decide +kernel) rfl)⟩
theorem gX10_109 : xv_G RX10 109 5 6 := ⟨RX5, TX5, 7, rfl, by decide, inX5, Or.inr ⟨"PressHall", (xv_tbl_mem 41 (by decide +kernel) rfl)⟩⟩
theorem gX5_41 : xv_G RX5 41 5 6 := ⟨RX5, TX5, 7, rfl, by decide, inX5, Or.inl (xv_tbl_mem 42 (by decide +kernel) rfl)⟩
theorem nX10_20 : xv_N RX10 20 0 8 := ⟨RX0, TX0, rfl, inX0, (xv_tbl_mem 60 (by decide +kernel) rfl), (xv_tbl_mem 413 (by decide +kernel) rfl), (xv_tbl_mem 16 (by decide +kernel) rfl), by decide +kernel, by decide +kernel⟩
theorem kX10_20 : Cond.classLink RX10 20 "PressHall$Advert" ∈ xv_tbl := (xv_tbl_mem 60 (by decide +kernel) rfl)
theorem nX10_26 : xv_N RX10 26 6 5 := ⟨RX6, TX6, rfl, inX6, (xv_tbl_mem 62 (by decide +kernel) rfl), (xv_tbl_mem 549 (by decide +kernel) rfl), (xv_tbl_mem 17 (by decide +kernel) rfl), by decide +kernel, by decide +kernel⟩
theorem kX10_26 : Cond.classLink RX10 26 "PressHall$Story" ∈ xv_tbl := (xv_tbl_mem 62 (by decide +kernel) rfl)
theorem nX10_32 : xv_N RX10 32 3 6 := ⟨RX3, TX3, rfl, inX3, (xv_tbl_mem 64 (by decide +kernel) rfl), (xv_tbl_mem 65 (by decide +kernel) rfl), (xv_tbl_mem 3 (by decide +kernel) rfl), by decide +kernel, by decide +kernel⟩
theorem kX10_32 : Cond.classLink RX10 32 "PressHall$Layout" ∈ xv_tbl := (xv_tbl_mem 64 (by decide +kernel) rfl)
theorem lX10_34 : Cond.methodLink RX10 34 mX3_init.1 ∈ xv_tbl := (xv_tbl_mem 66 (by decide +kernel) rfl)
theorem lX3_3 : Cond.methodLink RX3 3 Lib.objectInit ∈ xv_tbl := (xv_tbl_mem 69 (by decide +kernel) rfl)
theorem nX3_15 : xv_N RX3 15 8 4 := ⟨RX8, TX8, rfl, inX8, (xv_tbl_mem 70 (by decide +kernel) rfl), (xv_tbl_mem 71 (by decide +kernel) rfl), (xv_tbl_mem 4 (by decide +kernel) rfl), by decide +kernel, by decide +kernel⟩
theorem kX3_15 : Cond.classLink RX3 15 "PressHall$Way" ∈ xv_tbl := (xv_tbl_mem 70 (by decide +kernel) rfl)
theorem lX3_17 : Cond.methodLink RX3 17 mX8_init.1 ∈ xv_tbl := (xv_tbl_mem 72 (by decide +kernel) rfl)
theorem lX8_3 : Cond.methodLink RX8 3 Lib.objectInit ∈ xv_tbl := (xv_tbl_mem 75 (by decide +kernel) rfl)
theorem gX8_21 : xv_G RX8 21 8 0 := ⟨RX8, TX8, 4, rfl, by decide, inX8, Or.inl (xv_tbl_mem 76 (by decide +kernel) rfl)⟩
theorem gX6_31 : xv_G RX6 31 8 0 := ⟨RX8, TX8, 4, rfl, by decide, inX8, Or.inr ⟨"PressHall", (xv_tbl_mem 77 (by decide +kernel) rfl)⟩⟩
theorem gX3_47 : xv_G RX3 47 8 0 := ⟨RX8, TX8, 4, rfl, by decide, inX8, Or.inr ⟨"PressHall", (xv_tbl_mem 78 (by decide +kernel) rfl)⟩⟩
theorem gX10_216 : xv_G RX10 216 8 0 := ⟨RX8, TX8, 4, rfl, by decide, inX8, Or.inr ⟨"PressHall", (xv_tbl_mem 79 (by decide +kernel) rfl)⟩⟩
theorem gX8_9 : xv_G RX8 9 8 1 := ⟨RX8, TX8, 4, rfl, by decide, inX8, Or.inl (xv_tbl_mem 80 (by decide +kernel) rfl)⟩
theorem gX8_15 : xv_G RX8 15 8 2 := ⟨RX8, TX8, 4, rfl, by decide, inX8, Or.inl (xv_tbl_mem 81 (by decide +kernel) rfl)⟩
theorem gX8_18 : xv_G RX8 18 8 3 := ⟨RX8, TX8, 4, rfl, by decide, inX8, Or.inl (xv_tbl_mem 82 (by decide +kernel) rfl)⟩
theorem gX3_9 : xv_G RX3 9 3 0 := ⟨RX3, TX3, 6, rfl, by decide, inX3, Or.inl (xv_tbl_mem 92 (by decide +kernel) rfl)⟩
theorem gX3_18 : xv_G RX3 18 3 1 := ⟨RX3, TX3, 6, rfl, by decide, inX3, Or.inl (xv_tbl_mem 93 (by decide +kernel) rfl)⟩
theorem gX10_432 : xv_G RX10 432 3 1 := ⟨RX3, TX3, 6, rfl, by decide, inX3, Or.inr ⟨"PressHall", (xv_tbl_mem 94 (by decide +kernel) rfl)⟩⟩
theorem gX3_22 : xv_G RX3 22 3 2 := ⟨RX3, TX3, 6, rfl, by decide, inX3, Or.inl (xv_tbl_mem 95 (by decide +kernel) rfl)⟩
theorem gX3_25 : xv_G RX3 25 3 3 := ⟨RX3, TX3, 6, rfl, by decide, inX3, Or.inl (xv_tbl_mem 96 (by decide +kernel) rfl)⟩
theorem gX3_29 : xv_G RX3 29 3 4 := ⟨RX3, TX3, 6, rfl, by decide, inX3, Or.inl (xv_tbl_mem 97 (by decide +kernel) rfl)⟩
theorem gX3_88 : xv_G RX3 88 3 5 := ⟨RX3, TX3, 6, rfl, by decide, inX3, Or.inl (xv_tbl_mem 98 (by decide +kernel) rfl)⟩
theorem nX10_41 : xv_N RX10 41 1 5 := ⟨RX1, TX1, rfl, inX1, (xv_tbl_mem 112 (by decide +kernel) rfl), (xv_tbl_mem 113 (by decide +kernel) rfl), (xv_tbl_mem 5 (by decide +kernel) rfl), by decide +kernel, by decide +kernel⟩
theorem kX10_41 : Cond.classLink RX10 41 "PressHall$Archive" ∈ xv_tbl := (xv_tbl_mem 112 (by decide +kernel) rfl)
theorem lX10_43 : Cond.methodLink RX10 43 mX1_init.1 ∈ xv_tbl := (xv_tbl_mem 114 (by decide +kernel) rfl)
theorem lX1_3 : Cond.methodLink RX1 3 Lib.objectInit ∈ xv_tbl := (xv_tbl_mem 117 (by decide +kernel) rfl)
theorem kX1_9 : Cond.classLink RX1 9 "[[I" ∈ xv_tbl := (xv_tbl_mem 118 (by decide +kernel) rfl)
theorem gX1_11 : xv_G RX1 11 1 0 := ⟨RX1, TX1, 5, rfl, by decide, inX1, Or.inl (xv_tbl_mem 119 (by decide +kernel) rfl)⟩
theorem gX1_16 : xv_G RX1 16 1 1 := ⟨RX1, TX1, 5, rfl, by decide, inX1, Or.inl (xv_tbl_mem 120 (by decide +kernel) rfl)⟩
theorem gX1_23 : xv_G RX1 23 1 2 := ⟨RX1, TX1, 5, rfl, by decide, inX1, Or.inl (xv_tbl_mem 121 (by decide +kernel) rfl)⟩
theorem gX10_282 : xv_G RX10 282 1 2 := ⟨RX1, TX1, 5, rfl, by decide, inX1, Or.inr ⟨"PressHall", (xv_tbl_mem 122 (by decide +kernel) rfl)⟩⟩
theorem gX1_20 : xv_G RX1 20 1 3 := ⟨RX1, TX1, 5, rfl, by decide, inX1, Or.inl (xv_tbl_mem 123 (by decide +kernel) rfl)⟩
theorem gX1_46 : xv_G RX1 46 1 4 := ⟨RX1, TX1, 5, rfl, by decide, inX1, Or.inl (xv_tbl_mem 124 (by decide +kernel) rfl)⟩
theorem gX10_279 : xv_G RX10 279 1 4 := ⟨RX1, TX1, 5, rfl, by decide, inX1, Or.inr ⟨"PressHall", (xv_tbl_mem 125 (by decide +kernel) rfl)⟩⟩
theorem nX10_48 : xv_N RX10 48 7 3 := ⟨RX7, TX7, rfl, inX7, (xv_tbl_mem 137 (by decide +kernel) rfl), (xv_tbl_mem 138 (by decide +kernel) rfl), (xv_tbl_mem 6 (by decide +kernel) rfl), by decide +kernel, by decide +kernel⟩
theorem kX10_48 : Cond.classLink RX10 48 "PressHall$Trucks" ∈ xv_tbl := (xv_tbl_mem 137 (by decide +kernel) rfl)
theorem lX10_50 : Cond.methodLink RX10 50 mX7_init.1 ∈ xv_tbl := (xv_tbl_mem 139 (by decide +kernel) rfl)
theorem lX7_3 : Cond.methodLink RX7 3 Lib.objectInit ∈ xv_tbl := (xv_tbl_mem 142 (by decide +kernel) rfl)
theorem gX7_9 : xv_G RX7 9 7 0 := ⟨RX7, TX7, 3, rfl, by decide, inX7, Or.inl (xv_tbl_mem 143 (by decide +kernel) rfl)⟩
theorem gX7_15 : xv_G RX7 15 7 1 := ⟨RX7, TX7, 3, rfl, by decide, inX7, Or.inl (xv_tbl_mem 144 (by decide +kernel) rfl)⟩
theorem nX10_55 : xv_N RX10 55 2 3 := ⟨RX2, TX2, rfl, inX2, (xv_tbl_mem 152 (by decide +kernel) rfl), (xv_tbl_mem 153 (by decide +kernel) rfl), (xv_tbl_mem 7 (by decide +kernel) rfl), by decide +kernel, by decide +kernel⟩
theorem kX10_55 : Cond.classLink RX10 55 "PressHall$Headline" ∈ xv_tbl := (xv_tbl_mem 152 (by decide +kernel) rfl)
theorem lX10_57 : Cond.methodLink RX10 57 mX2_init.1 ∈ xv_tbl := (xv_tbl_mem 154 (by decide +kernel) rfl)
theorem lX2_3 : Cond.methodLink RX2 3 Lib.objectInit ∈ xv_tbl := (xv_tbl_mem 157 (by decide +kernel) rfl)
theorem gX2_9 : xv_G RX2 9 2 0 := ⟨RX2, TX2, 3, rfl, by decide, inX2, Or.inl (xv_tbl_mem 158 (by decide +kernel) rfl)⟩
theorem gX2_15 : xv_G RX2 15 2 1 := ⟨RX2, TX2, 3, rfl, by decide, inX2, Or.inl (xv_tbl_mem 159 (by decide +kernel) rfl)⟩
theorem nX10_65 : xv_N RX10 65 9 3 := ⟨RX9, TX9, rfl, inX9, (xv_tbl_mem 167 (by decide +kernel) rfl), (xv_tbl_mem 168 (by decide +kernel) rfl), (xv_tbl_mem 8 (by decide +kernel) rfl), by decide +kernel, by decide +kernel⟩
theorem kX10_65 : Cond.classLink RX10 65 "PressHall$Wire" ∈ xv_tbl := (xv_tbl_mem 167 (by decide +kernel) rfl)
theorem lX10_67 : Cond.methodLink RX10 67 mX9_init.1 ∈ xv_tbl := (xv_tbl_mem 169 (by decide +kernel) rfl)
theorem lX9_3 : Cond.methodLink RX9 3 Lib.objectInit ∈ xv_tbl := (xv_tbl_mem 172 (by decide +kernel) rfl)
theorem gX9_9 : xv_G RX9 9 9 0 := ⟨RX9, TX9, 3, rfl, by decide, inX9, Or.inl (xv_tbl_mem 173 (by decide +kernel) rfl)⟩
theorem gX9_15 : xv_G RX9 15 9 1 := ⟨RX9, TX9, 3, rfl, by decide, inX9, Or.inl (xv_tbl_mem 174 (by decide +kernel) rfl)⟩
theorem nX10_72 : xv_N RX10 72 4 4 := ⟨RX4, TX4, rfl, inX4, (xv_tbl_mem 182 (by decide +kernel) rfl), (xv_tbl_mem 183 (by decide +kernel) rfl), (xv_tbl_mem 9 (by decide +kernel) rfl), by decide +kernel, by decide +kernel⟩
theorem kX10_72 : Cond.classLink RX10 72 "PressHall$Puzzle" ∈ xv_tbl := (xv_tbl_mem 182 (by decide +kernel) rfl)
theorem lX10_74 : Cond.methodLink RX10 74 mX4_init.1 ∈ xv_tbl := (xv_tbl_mem 184 (by decide +kernel) rfl)
theorem lX4_3 : Cond.methodLink RX4 3 Lib.objectInit ∈ xv_tbl := (xv_tbl_mem 187 (by decide +kernel) rfl)
theorem gX4_9 : xv_G RX4 9 4 0 := ⟨RX4, TX4, 4, rfl, by decide, inX4, Or.inl (xv_tbl_mem 188 (by decide +kernel) rfl)⟩
theorem gX4_15 : xv_G RX4 15 4 1 := ⟨RX4, TX4, 4, rfl, by decide, inX4, Or.inl (xv_tbl_mem 189 (by decide +kernel) rfl)⟩
theorem gX4_18 : xv_G RX4 18 4 2 := ⟨RX4, TX4, 4, rfl, by decide, inX4, Or.inl (xv_tbl_mem 190 (by decide +kernel) rfl)⟩
theorem gX4_21 : xv_G RX4 21 4 3 := ⟨RX4, TX4, 4, rfl, by decide, inX4, Or.inl (xv_tbl_mem 191 (by decide +kernel) rfl)⟩
theorem gX10_10 : xv_G RX10 10 10 0 := ⟨RX10, TX10, 14, rfl, by decide, inX10, Or.inl (xv_tbl_mem 201 (by decide +kernel) rfl)⟩
theorem gX10_16 : xv_G RX10 16 10 1 := ⟨RX10, TX10, 14, rfl, by decide, inX10, Or.inl (xv_tbl_mem 202 (by decide +kernel) rfl)⟩
theorem gX10_22 : xv_G RX10 22 10 2 := ⟨RX10, TX10, 14, rfl, by decide, inX10, Or.inl (xv_tbl_mem 203 (by decide +kernel) rfl)⟩
theorem gX10_117 : xv_G RX10 117 10 3 := ⟨RX10, TX10, 14, rfl, by decide, inX10, Or.inl (xv_tbl_mem 204 (by decide +kernel) rfl)⟩
theorem gX10_28 : xv_G RX10 28 10 4 := ⟨RX10, TX10, 14, rfl, by decide, inX10, Or.inl (xv_tbl_mem 205 (by decide +kernel) rfl)⟩
theorem gX10_187 : xv_G RX10 187 10 5 := ⟨RX10, TX10, 14, rfl, by decide, inX10, Or.inl (xv_tbl_mem 206 (by decide +kernel) rfl)⟩
theorem gX10_37 : xv_G RX10 37 10 6 := ⟨RX10, TX10, 14, rfl, by decide, inX10, Or.inl (xv_tbl_mem 207 (by decide +kernel) rfl)⟩
theorem gX10_44 : xv_G RX10 44 10 7 := ⟨RX10, TX10, 14, rfl, by decide, inX10, Or.inl (xv_tbl_mem 208 (by decide +kernel) rfl)⟩
theorem gX10_51 : xv_G RX10 51 10 8 := ⟨RX10, TX10, 14, rfl, by decide, inX10, Or.inl (xv_tbl_mem 209 (by decide +kernel) rfl)⟩
theorem gX10_287 : xv_G RX10 287 10 9 := ⟨RX10, TX10, 14, rfl, by decide, inX10, Or.inl (xv_tbl_mem 210 (by decide +kernel) rfl)⟩
theorem gX10_58 : xv_G RX10 58 10 10 := ⟨RX10, TX10, 14, rfl, by decide, inX10, Or.inl (xv_tbl_mem 211 (by decide +kernel) rfl)⟩
theorem gX10_62 : xv_G RX10 62 10 11 := ⟨RX10, TX10, 14, rfl, by decide, inX10, Or.inl (xv_tbl_mem 212 (by decide +kernel) rfl)⟩
theorem gX10_68 : xv_G RX10 68 10 12 := ⟨RX10, TX10, 14, rfl, by decide, inX10, Or.inl (xv_tbl_mem 213 (by decide +kernel) rfl)⟩
theorem gX10_75 : xv_G RX10 75 10 13 := ⟨RX10, TX10, 14, rfl, by decide, inX10, Or.inl (xv_tbl_mem 214 (by decide +kernel) rfl)⟩
theorem lL_110 : Cond.methodLink RL 110 mX10_touched.1 ∈ xv_tbl := (xv_tbl_mem 244 (by decide +kernel) rfl)
theorem lL_138 : Cond.methodLink RL 138 mL_part.1 ∈ xv_tbl ∨ (mL_part.2.2.2.2 = [] ∧ ∃ host, Cond.methodLinkNest RL 138 mL_part.1 host ∈ xv_tbl) := Or.inl (xv_tbl_mem 248 (by decide +kernel) rfl)
theorem lL_113 : Cond.methodLink RL 113 mL_does.1 ∈ xv_tbl ∨ (mL_does.2.2.2.2 = [] ∧ ∃ host, Cond.methodLinkNest RL 113 mL_does.1 host ∈ xv_tbl) := Or.inl (xv_tbl_mem 252 (by decide +kernel) rfl)
theorem kL_86 : Cond.classLink RL 86 "java/lang/IndexOutOfBoundsException" ∈ xv_tbl := (xv_tbl_mem 255 (by decide +kernel) rfl)
theorem kL_88 : Cond.classLink RL 88 "java/lang/IllegalArgumentException" ∈ xv_tbl := (xv_tbl_mem 256 (by decide +kernel) rfl)
theorem kL_90 : Cond.classLink RL 90 "java/lang/IllegalStateException" ∈ xv_tbl := (xv_tbl_mem 257 (by decide +kernel) rfl)
theorem lL_8 : Cond.methodLink RL 8 mL_paged.1 ∈ xv_tbl ∨ (mL_paged.2.2.2.2 = [] ∧ ∃ host, Cond.methodLinkNest RL 8 mL_paged.1 host ∈ xv_tbl) := Or.inl (xv_tbl_mem 258 (by decide +kernel) rfl)
theorem lL_92 : Cond.methodLink RL 92 mX10_page.1 ∈ xv_tbl := (xv_tbl_mem 261 (by decide +kernel) rfl)
theorem lX10_79 : Cond.methodLink RX10 79 mX10_needPage.1 ∈ xv_tbl ∨ (mX10_needPage.2.2.2.2 = [] ∧ ∃ host, Cond.methodLinkNest RX10 79 mX10_needPage.1 host ∈ xv_tbl) := Or.inl (xv_tbl_mem 265 (by decide +kernel) rfl)
theorem lX10_392 : Cond.methodLink RX10 392 mX10_isPage.1 ∈ xv_tbl ∨ (mX10_isPage.2.2.2.2 = [] ∧ ∃ host, Cond.methodLinkNest RX10 392 mX10_isPage.1 host ∈ xv_tbl) := Or.inl (xv_tbl_mem 268 (by decide +kernel) rfl)
theorem kX10_172 : Cond.classLink RX10 172 "java/lang/IndexOutOfBoundsException" ∈ xv_tbl := (xv_tbl_mem 271 (by decide +kernel) rfl)
theorem lX10_83 : Cond.methodLink RX10 83 mX10_needRange.1 ∈ xv_tbl ∨ (mX10_needRange.2.2.2.2 = [] ∧ ∃ host, Cond.methodLinkNest RX10 83 mX10_needRange.1 host ∈ xv_tbl) := Or.inl (xv_tbl_mem 339 (by decide +kernel) rfl)
theorem kX10_381 : Cond.classLink RX10 381 "java/lang/IllegalArgumentException" ∈ xv_tbl := (xv_tbl_mem 342 (by decide +kernel) rfl)
theorem lX10_87 : Cond.methodLink RX10 87 mX5_isBare.1 ∈ xv_tbl := (xv_tbl_mem 358 (by decide +kernel) rfl)
theorem lX5_48 : Cond.methodLink RX5 48 mX5_at.1 ∈ xv_tbl := (xv_tbl_mem 362 (by decide +kernel) rfl)
theorem lX5_34 : Cond.methodLink RX5 34 mX10_isPage.1 ∈ xv_tbl ∨ (mX10_isPage.2.2.2.2 = [] ∧ ∃ host, Cond.methodLinkNest RX5 34 mX10_isPage.1 host ∈ xv_tbl) := Or.inr ⟨rfl, "PressHall", (xv_tbl_mem 366 (by decide +kernel) rfl)⟩
theorem lX5_38 : Cond.methodLink RX5 38 mX10_isCell.1 ∈ xv_tbl ∨ (mX10_isCell.2.2.2.2 = [] ∧ ∃ host, Cond.methodLinkNest RX5 38 mX10_isCell.1 host ∈ xv_tbl) := Or.inr ⟨rfl, "PressHall", (xv_tbl_mem 367 (by decide +kernel) rfl)⟩
theorem kX10_91 : Cond.classLink RX10 91 "java/lang/IllegalStateException" ∈ xv_tbl := (xv_tbl_mem 370 (by decide +kernel) rfl)
theorem lX10_98 : Cond.methodLink RX10 98 mX5_setKind.1 ∈ xv_tbl := (xv_tbl_mem 386 (by decide +kernel) rfl)
theorem lL_14 : Cond.methodLink RL 14 mX10_cell.1 ∈ xv_tbl := (xv_tbl_mem 390 (by decide +kernel) rfl)
theorem lX10_102 : Cond.methodLink RX10 102 mX10_needCell.1 ∈ xv_tbl ∨ (mX10_needCell.2.2.2.2 = [] ∧ ∃ host, Cond.methodLinkNest RX10 102 mX10_needCell.1 host ∈ xv_tbl) := Or.inl (xv_tbl_mem 394 (by decide +kernel) rfl)
theorem lX10_397 : Cond.methodLink RX10 397 mX10_isCell.1 ∈ xv_tbl ∨ (mX10_isCell.2.2.2.2 = [] ∧ ∃ host, Cond.methodLinkNest RX10 397 mX10_isCell.1 host ∈ xv_tbl) := Or.inl (xv_tbl_mem 397 (by decide +kernel) rfl)
theorem lX10_105 : Cond.methodLink RX10 105 mX5_at.1 ∈ xv_tbl := (xv_tbl_mem 399 (by decide +kernel) rfl)
theorem lL_20 : Cond.methodLink RL 20 mX10_distance.1 ∈ xv_tbl := (xv_tbl_mem 400 (by decide +kernel) rfl)
theorem lX10_113 : Cond.methodLink RX10 113 mX10_distanceOf.1 ∈ xv_tbl := (xv_tbl_mem 404 (by decide +kernel) rfl)
theorem lL_23 : Cond.methodLink RL 23 mX10_advert.1 ∈ xv_tbl := (xv_tbl_mem 408 (by decide +kernel) rfl)
theorem lX10_122 : Cond.methodLink RX10 122 mX0_init.1 ∈ xv_tbl := (xv_tbl_mem 414 (by decide +kernel) rfl)
theorem lX0_3 : Cond.methodLink RX0 3 Lib.objectInit ∈ xv_tbl := (xv_tbl_mem 417 (by decide +kernel) rfl)
theorem gX0_9 : xv_G RX0 9 0 0 := ⟨RX0, TX0, 8, rfl, by decide, inX0, Or.inl (xv_tbl_mem 418 (by decide +kernel) rfl)⟩
theorem gX10_426 : xv_G RX10 426 0 0 := ⟨RX0, TX0, 8, rfl, by decide, inX0, Or.inr ⟨"PressHall", (xv_tbl_mem 419 (by decide +kernel) rfl)⟩⟩
theorem gX0_15 : xv_G RX0 15 0 1 := ⟨RX0, TX0, 8, rfl, by decide, inX0, Or.inl (xv_tbl_mem 420 (by decide +kernel) rfl)⟩
theorem gX10_146 : xv_G RX10 146 0 1 := ⟨RX0, TX0, 8, rfl, by decide, inX0, Or.inr ⟨"PressHall", (xv_tbl_mem 421 (by decide +kernel) rfl)⟩⟩
theorem gX5_65 : xv_G RX5 65 0 1 := ⟨RX0, TX0, 8, rfl, by decide, inX0, Or.inr ⟨"PressHall", (xv_tbl_mem 422 (by decide +kernel) rfl)⟩⟩
theorem gX0_18 : xv_G RX0 18 0 2 := ⟨RX0, TX0, 8, rfl, by decide, inX0, Or.inl (xv_tbl_mem 423 (by decide +kernel) rfl)⟩
theorem gX10_149 : xv_G RX10 149 0 2 := ⟨RX0, TX0, 8, rfl, by decide, inX0, Or.inr ⟨"PressHall", (xv_tbl_mem 424 (by decide +kernel) rfl)⟩⟩
theorem gX5_60 : xv_G RX5 60 0 2 := ⟨RX0, TX0, 8, rfl, by decide, inX0, Or.inr ⟨"PressHall", (xv_tbl_mem 425 (by decide +kernel) rfl)⟩⟩
theorem gX0_21 : xv_G RX0 21 0 3 := ⟨RX0, TX0, 8, rfl, by decide, inX0, Or.inl (xv_tbl_mem 426 (by decide +kernel) rfl)⟩
theorem gX10_416 : xv_G RX10 416 0 3 := ⟨RX0, TX0, 8, rfl, by decide, inX0, Or.inr ⟨"PressHall", (xv_tbl_mem 427 (by decide +kernel) rfl)⟩⟩
theorem gX0_25 : xv_G RX0 25 0 4 := ⟨RX0, TX0, 8, rfl, by decide, inX0, Or.inl (xv_tbl_mem 428 (by decide +kernel) rfl)⟩
theorem gX10_415 : xv_G RX10 415 0 4 := ⟨RX0, TX0, 8, rfl, by decide, inX0, Or.inr ⟨"PressHall", (xv_tbl_mem 429 (by decide +kernel) rfl)⟩⟩
theorem gX0_28 : xv_G RX0 28 0 5 := ⟨RX0, TX0, 8, rfl, by decide, inX0, Or.inl (xv_tbl_mem 430 (by decide +kernel) rfl)⟩
theorem gX0_31 : xv_G RX0 31 0 6 := ⟨RX0, TX0, 8, rfl, by decide, inX0, Or.inl (xv_tbl_mem 431 (by decide +kernel) rfl)⟩
theorem gX10_177 : xv_G RX10 177 0 6 := ⟨RX0, TX0, 8, rfl, by decide, inX0, Or.inr ⟨"PressHall", (xv_tbl_mem 432 (by decide +kernel) rfl)⟩⟩
theorem gX5_68 : xv_G RX5 68 0 6 := ⟨RX0, TX0, 8, rfl, by decide, inX0, Or.inr ⟨"PressHall", (xv_tbl_mem 433 (by decide +kernel) rfl)⟩⟩
theorem gX0_34 : xv_G RX0 34 0 7 := ⟨RX0, TX0, 8, rfl, by decide, inX0, Or.inl (xv_tbl_mem 434 (by decide +kernel) rfl)⟩
theorem gX5_71 : xv_G RX5 71 0 7 := ⟨RX0, TX0, 8, rfl, by decide, inX0, Or.inr ⟨"PressHall", (xv_tbl_mem 435 (by decide +kernel) rfl)⟩⟩
theorem lL_27 : Cond.methodLink RL 27 mX10_place.1 ∈ xv_tbl := (xv_tbl_mem 453 (by decide +kernel) rfl)
theorem lX10_125 : Cond.methodLink RX10 125 mX10_needAdvert.1 ∈ xv_tbl := (xv_tbl_mem 457 (by decide +kernel) rfl)
theorem lX10_129 : Cond.methodLink RX10 129 mX0_isPlaced.1 ∈ xv_tbl := (xv_tbl_mem 462 (by decide +kernel) rfl)
theorem lX10_135 : Cond.methodLink RX10 135 mX0_lowestPage.1 ∈ xv_tbl := (xv_tbl_mem 467 (by decide +kernel) rfl)
theorem lX10_139 : Cond.methodLink RX10 139 mX0_highestPage.1 ∈ xv_tbl := (xv_tbl_mem 471 (by decide +kernel) rfl)
theorem lX10_142 : Cond.methodLink RX10 142 mX10_fits.1 ∈ xv_tbl := (xv_tbl_mem 475 (by decide +kernel) rfl)
theorem lX10_318 : Cond.methodLink RX10 318 mX5_sectionOf.1 ∈ xv_tbl := (xv_tbl_mem 479 (by decide +kernel) rfl)
theorem lX10_420 : Cond.methodLink RX10 420 mX5_hasColour.1 ∈ xv_tbl := (xv_tbl_mem 483 (by decide +kernel) rfl)
theorem lX10_423 : Cond.methodLink RX10 423 mX10_isFarFromItsLike.1 ∈ xv_tbl := (xv_tbl_mem 487 (by decide +kernel) rfl)
theorem lX10_429 : Cond.methodLink RX10 429 mX10_pagesApart.1 ∈ xv_tbl ∨ (mX10_pagesApart.2.2.2.2 = [] ∧ ∃ host, Cond.methodLinkNest RX10 429 mX10_pagesApart.1 host ∈ xv_tbl) := Or.inl (xv_tbl_mem 491 (by decide +kernel) rfl)
theorem lX10_412 : Cond.methodLink RX10 412 mX10_isZonePage.1 ∈ xv_tbl ∨ (mX10_isZonePage.2.2.2.2 = [] ∧ ∃ host, Cond.methodLinkNest RX10 412 mX10_isZonePage.1 host ∈ xv_tbl) := Or.inl (xv_tbl_mem 494 (by decide +kernel) rfl)
theorem lX10_152 : Cond.methodLink RX10 152 mX5_freeRectangle.1 ∈ xv_tbl := (xv_tbl_mem 497 (by decide +kernel) rfl)
theorem lX5_56 : Cond.methodLink RX5 56 mX5_isFreeRectangle.1 ∈ xv_tbl := (xv_tbl_mem 501 (by decide +kernel) rfl)
theorem lX10_156 : Cond.methodLink RX10 156 mX0_putAt.1 ∈ xv_tbl := (xv_tbl_mem 505 (by decide +kernel) rfl)
theorem lX10_160 : Cond.methodLink RX10 160 mX5_fillRectangle.1 ∈ xv_tbl := (xv_tbl_mem 509 (by decide +kernel) rfl)
theorem lX5_52 : Cond.methodLink RX5 52 mX5_put.1 ∈ xv_tbl := (xv_tbl_mem 513 (by decide +kernel) rfl)
theorem lX5_44 : Cond.methodLink RX5 44 mX10_plateOf.1 ∈ xv_tbl ∨ (mX10_plateOf.2.2.2.2 = [] ∧ ∃ host, Cond.methodLinkNest RX5 44 mX10_plateOf.1 host ∈ xv_tbl) := Or.inr ⟨rfl, "PressHall", (xv_tbl_mem 517 (by decide +kernel) rfl)⟩
theorem lX10_164 : Cond.methodLink RX10 164 mX0_whereItIs.1 ∈ xv_tbl := (xv_tbl_mem 520 (by decide +kernel) rfl)
theorem lL_31 : Cond.methodLink RL 31 mX10_takeOff.1 ∈ xv_tbl := (xv_tbl_mem 524 (by decide +kernel) rfl)
theorem lX10_169 : Cond.methodLink RX10 169 mX5_freeAllOf.1 ∈ xv_tbl := (xv_tbl_mem 529 (by decide +kernel) rfl)
theorem lL_34 : Cond.methodLink RL 34 mX10_advertsIn.1 ∈ xv_tbl := (xv_tbl_mem 533 (by decide +kernel) rfl)
theorem lX10_180 : Cond.methodLink RX10 180 mX10_isInCopies.1 ∈ xv_tbl ∨ (mX10_isInCopies.2.2.2.2 = [] ∧ ∃ host, Cond.methodLinkNest RX10 180 mX10_isInCopies.1 host ∈ xv_tbl) := Or.inl (xv_tbl_mem 538 (by decide +kernel) rfl)
theorem lL_37 : Cond.methodLink RL 37 mX10_story.1 ∈ xv_tbl := (xv_tbl_mem 541 (by decide +kernel) rfl)
theorem lX10_184 : Cond.methodLink RX10 184 mX10_paragraphsOf.1 ∈ xv_tbl ∨ (mX10_paragraphsOf.2.2.2.2 = [] ∧ ∃ host, Cond.methodLinkNest RX10 184 mX10_paragraphsOf.1 host ∈ xv_tbl) := Or.inl (xv_tbl_mem 545 (by decide +kernel) rfl)
theorem lX10_192 : Cond.methodLink RX10 192 mX6_init.1 ∈ xv_tbl := (xv_tbl_mem 550 (by decide +kernel) rfl)
theorem lX6_3 : Cond.methodLink RX6 3 Lib.objectInit ∈ xv_tbl := (xv_tbl_mem 553 (by decide +kernel) rfl)
theorem nX6_24 : xv_N RX6 24 8 4 := ⟨RX8, TX8, rfl, inX8, (xv_tbl_mem 554 (by decide +kernel) rfl), (xv_tbl_mem 71 (by decide +kernel) rfl), (xv_tbl_mem 4 (by decide +kernel) rfl), by decide +kernel, by decide +kernel⟩
theorem kX6_24 : Cond.classLink RX6 24 "PressHall$Way" ∈ xv_tbl := (xv_tbl_mem 554 (by decide +kernel) rfl)
theorem lX6_26 : Cond.methodLink RX6 26 mX8_init.1 ∈ xv_tbl := (xv_tbl_mem 555 (by decide +kernel) rfl)
theorem gX6_9 : xv_G RX6 9 6 0 := ⟨RX6, TX6, 5, rfl, by decide, inX6, Or.inl (xv_tbl_mem 556 (by decide +kernel) rfl)⟩
theorem gX3_55 : xv_G RX3 55 6 0 := ⟨RX6, TX6, 5, rfl, by decide, inX6, Or.inr ⟨"PressHall", (xv_tbl_mem 557 (by decide +kernel) rfl)⟩⟩
theorem gX10_321 : xv_G RX10 321 6 0 := ⟨RX6, TX6, 5, rfl, by decide, inX6, Or.inr ⟨"PressHall", (xv_tbl_mem 558 (by decide +kernel) rfl)⟩⟩
theorem gX6_15 : xv_G RX6 15 6 1 := ⟨RX6, TX6, 5, rfl, by decide, inX6, Or.inl (xv_tbl_mem 559 (by decide +kernel) rfl)⟩
theorem gX6_18 : xv_G RX6 18 6 2 := ⟨RX6, TX6, 5, rfl, by decide, inX6, Or.inl (xv_tbl_mem 560 (by decide +kernel) rfl)⟩
theorem gX3_35 : xv_G RX3 35 6 2 := ⟨RX6, TX6, 5, rfl, by decide, inX6, Or.inr ⟨"PressHall", (xv_tbl_mem 561 (by decide +kernel) rfl)⟩⟩
theorem gX6_21 : xv_G RX6 21 6 3 := ⟨RX6, TX6, 5, rfl, by decide, inX6, Or.inl (xv_tbl_mem 562 (by decide +kernel) rfl)⟩
theorem gX3_40 : xv_G RX3 40 6 3 := ⟨RX6, TX6, 5, rfl, by decide, inX6, Or.inr ⟨"PressHall", (xv_tbl_mem 563 (by decide +kernel) rfl)⟩⟩
theorem gX6_27 : xv_G RX6 27 6 4 := ⟨RX6, TX6, 5, rfl, by decide, inX6, Or.inl (xv_tbl_mem 564 (by decide +kernel) rfl)⟩
theorem gX10_212 : xv_G RX10 212 6 4 := ⟨RX6, TX6, 5, rfl, by decide, inX6, Or.inr ⟨"PressHall", (xv_tbl_mem 565 (by decide +kernel) rfl)⟩⟩
theorem lL_41 : Cond.methodLink RL 41 mX10_lay.1 ∈ xv_tbl := (xv_tbl_mem 577 (by decide +kernel) rfl)
theorem lX10_195 : Cond.methodLink RX10 195 mX10_needStory.1 ∈ xv_tbl := (xv_tbl_mem 581 (by decide +kernel) rfl)
theorem lX10_315 : Cond.methodLink RX10 315 mX10_storyAt.1 ∈ xv_tbl := (xv_tbl_mem 585 (by decide +kernel) rfl)
theorem lX10_199 : Cond.methodLink RX10 199 mX6_isLaid.1 ∈ xv_tbl := (xv_tbl_mem 590 (by decide +kernel) rfl)
theorem lX10_204 : Cond.methodLink RX10 204 mX3_find.1 ∈ xv_tbl := (xv_tbl_mem 595 (by decide +kernel) rfl)
theorem lX3_32 : Cond.methodLink RX3 32 mX8_clear.1 ∈ xv_tbl := (xv_tbl_mem 599 (by decide +kernel) rfl)
theorem lX8_25 : Cond.methodLink RX8 25 mX8_setPart.1 ∈ xv_tbl := (xv_tbl_mem 603 (by decide +kernel) rfl)
theorem lX3_43 : Cond.methodLink RX3 43 mX3_tryOnePage.1 ∈ xv_tbl := (xv_tbl_mem 607 (by decide +kernel) rfl)
theorem lX3_51 : Cond.methodLink RX3 51 mX6_cellsFor.1 ∈ xv_tbl := (xv_tbl_mem 611 (by decide +kernel) rfl)
theorem lX6_32 : Cond.methodLink RX6 32 mX6_linesOfFirst.1 ∈ xv_tbl := (xv_tbl_mem 615 (by decide +kernel) rfl)
theorem lX3_58 : Cond.methodLink RX3 58 mX3_setRun.1 ∈ xv_tbl := (xv_tbl_mem 619 (by decide +kernel) rfl)
theorem lX3_65 : Cond.methodLink RX3 65 mX5_sectionOf.1 ∈ xv_tbl := (xv_tbl_mem 623 (by decide +kernel) rfl)
theorem lX3_71 : Cond.methodLink RX3 71 mX5_freeRun.1 ∈ xv_tbl := (xv_tbl_mem 624 (by decide +kernel) rfl)
theorem lX5_74 : Cond.methodLink RX5 74 mX10_cellInColumns.1 ∈ xv_tbl ∨ (mX10_cellInColumns.2.2.2.2 = [] ∧ ∃ host, Cond.methodLinkNest RX5 74 mX10_cellInColumns.1 host ∈ xv_tbl) := Or.inr ⟨rfl, "PressHall", (xv_tbl_mem 628 (by decide +kernel) rfl)⟩
theorem lX3_75 : Cond.methodLink RX3 75 mX8_setPart.1 ∈ xv_tbl := (xv_tbl_mem 631 (by decide +kernel) rfl)
theorem lX3_62 : Cond.methodLink RX3 62 mX3_keepIfCheaper.1 ∈ xv_tbl := (xv_tbl_mem 632 (by decide +kernel) rfl)
theorem lX3_79 : Cond.methodLink RX3 79 mX8_plates.1 ∈ xv_tbl := (xv_tbl_mem 636 (by decide +kernel) rfl)
theorem lX8_39 : Cond.methodLink RX8 39 mX10_plateOf.1 ∈ xv_tbl ∨ (mX10_plateOf.2.2.2.2 = [] ∧ ∃ host, Cond.methodLinkNest RX8 39 mX10_plateOf.1 host ∈ xv_tbl) := Or.inr ⟨rfl, "PressHall", (xv_tbl_mem 640 (by decide +kernel) rfl)⟩
theorem lX3_83 : Cond.methodLink RX3 83 mJ6_bitCount_0f7a4.1 ∈ xv_tbl ∨ (mJ6_bitCount_0f7a4.2.2.2.2 = [] ∧ ∃ host, Cond.methodLinkNest RX3 83 mJ6_bitCount_0f7a4.1 host ∈ xv_tbl) := Or.inl (xv_tbl_mem 641 (by decide +kernel) rfl)
theorem lX3_91 : Cond.methodLink RX3 91 mX8_copy.1 ∈ xv_tbl := (xv_tbl_mem 647 (by decide +kernel) rfl)
theorem lX8_29 : Cond.methodLink RX8 29 mX8_pageOf.1 ∈ xv_tbl := (xv_tbl_mem 651 (by decide +kernel) rfl)
theorem lX8_33 : Cond.methodLink RX8 33 mX8_start.1 ∈ xv_tbl := (xv_tbl_mem 655 (by decide +kernel) rfl)
theorem lX8_36 : Cond.methodLink RX8 36 mX8_size.1 ∈ xv_tbl := (xv_tbl_mem 659 (by decide +kernel) rfl)
theorem lX3_48 : Cond.methodLink RX3 48 mX3_tryTwoPages.1 ∈ xv_tbl := (xv_tbl_mem 663 (by decide +kernel) rfl)
theorem lX10_208 : Cond.methodLink RX10 208 mX10_putOut.1 ∈ xv_tbl := (xv_tbl_mem 667 (by decide +kernel) rfl)
theorem lX10_435 : Cond.methodLink RX10 435 mX8_copy.1 ∈ xv_tbl := (xv_tbl_mem 671 (by decide +kernel) rfl)
theorem lX10_242 : Cond.methodLink RX10 242 mX8_start.1 ∈ xv_tbl := (xv_tbl_mem 672 (by decide +kernel) rfl)
theorem lX10_236 : Cond.methodLink RX10 236 mX8_size.1 ∈ xv_tbl := (xv_tbl_mem 673 (by decide +kernel) rfl)
theorem lX10_239 : Cond.methodLink RX10 239 mX8_pageOf.1 ∈ xv_tbl := (xv_tbl_mem 674 (by decide +kernel) rfl)
theorem lX10_245 : Cond.methodLink RX10 245 mX10_cellInColumns.1 ∈ xv_tbl ∨ (mX10_cellInColumns.2.2.2.2 = [] ∧ ∃ host, Cond.methodLinkNest RX10 245 mX10_cellInColumns.1 host ∈ xv_tbl) := Or.inl (xv_tbl_mem 675 (by decide +kernel) rfl)
theorem lX10_327 : Cond.methodLink RX10 327 mX5_put.1 ∈ xv_tbl := (xv_tbl_mem 676 (by decide +kernel) rfl)
theorem lL_44 : Cond.methodLink RL 44 mX10_lift.1 ∈ xv_tbl := (xv_tbl_mem 677 (by decide +kernel) rfl)
theorem lX10_223 : Cond.methodLink RX10 223 mX8_clear.1 ∈ xv_tbl := (xv_tbl_mem 682 (by decide +kernel) rfl)
theorem lL_47 : Cond.methodLink RL 47 mX10_change.1 ∈ xv_tbl := (xv_tbl_mem 683 (by decide +kernel) rfl)
theorem lX10_228 : Cond.methodLink RX10 228 mX5_platesOf.1 ∈ xv_tbl := (xv_tbl_mem 688 (by decide +kernel) rfl)
theorem lX10_231 : Cond.methodLink RX10 231 mJ6_bitCount_0f7a4.1 ∈ xv_tbl ∨ (mJ6_bitCount_0f7a4.2.2.2.2 = [] ∧ ∃ host, Cond.methodLinkNest RX10 231 mJ6_bitCount_0f7a4.1 host ∈ xv_tbl) := Or.inl (xv_tbl_mem 692 (by decide +kernel) rfl)
theorem lL_50 : Cond.methodLink RL 50 mX10_part.1 ∈ xv_tbl := (xv_tbl_mem 693 (by decide +kernel) rfl)
theorem lL_53 : Cond.methodLink RL 53 mX10_person.1 ∈ xv_tbl := (xv_tbl_mem 697 (by decide +kernel) rfl)
theorem lX10_248 : Cond.methodLink RX10 248 mX10_needPerson.1 ∈ xv_tbl ∨ (mX10_needPerson.2.2.2.2 = [] ∧ ∃ host, Cond.methodLinkNest RX10 248 mX10_needPerson.1 host ∈ xv_tbl) := Or.inl (xv_tbl_mem 701 (by decide +kernel) rfl)
theorem lX10_251 : Cond.methodLink RX10 251 mX5_isThere.1 ∈ xv_tbl := (xv_tbl_mem 705 (by decide +kernel) rfl)
theorem lX10_254 : Cond.methodLink RX10 254 mX5_letLeave.1 ∈ xv_tbl := (xv_tbl_mem 709 (by decide +kernel) rfl)
theorem lX10_257 : Cond.methodLink RX10 257 mX5_letComeBack.1 ∈ xv_tbl := (xv_tbl_mem 713 (by decide +kernel) rfl)
theorem lL_57 : Cond.methodLink RL 57 mX10_sign.1 ∈ xv_tbl := (xv_tbl_mem 717 (by decide +kernel) rfl)
theorem lX10_260 : Cond.methodLink RX10 260 mX5_hasSigned.1 ∈ xv_tbl := (xv_tbl_mem 721 (by decide +kernel) rfl)
theorem lX10_265 : Cond.methodLink RX10 265 mX5_addSignature.1 ∈ xv_tbl := (xv_tbl_mem 726 (by decide +kernel) rfl)
theorem lX5_77 : Cond.methodLink RX5 77 mJ6_bitCount_0f7a4.1 ∈ xv_tbl ∨ (mJ6_bitCount_0f7a4.2.2.2.2 = [] ∧ ∃ host, Cond.methodLinkNest RX5 77 mJ6_bitCount_0f7a4.1 host ∈ xv_tbl) := Or.inl (xv_tbl_mem 730 (by decide +kernel) rfl)
theorem lL_60 : Cond.methodLink RL 60 mX10_hold.1 ∈ xv_tbl := (xv_tbl_mem 731 (by decide +kernel) rfl)
theorem lX10_270 : Cond.methodLink RX10 270 mX5_turnHold.1 ∈ xv_tbl := (xv_tbl_mem 736 (by decide +kernel) rfl)
theorem lL_64 : Cond.methodLink RL 64 mX10_isReady.1 ∈ xv_tbl := (xv_tbl_mem 740 (by decide +kernel) rfl)
theorem lX10_273 : Cond.methodLink RX10 273 mX5_canGo.1 ∈ xv_tbl := (xv_tbl_mem 744 (by decide +kernel) rfl)
theorem lX5_82 : Cond.methodLink RX5 82 mX5_isBare.1 ∈ xv_tbl := (xv_tbl_mem 748 (by decide +kernel) rfl)
theorem lL_67 : Cond.methodLink RL 67 mX10_close.1 ∈ xv_tbl := (xv_tbl_mem 749 (by decide +kernel) rfl)
theorem lX10_276 : Cond.methodLink RX10 276 mX5_canAllGo.1 ∈ xv_tbl := (xv_tbl_mem 753 (by decide +kernel) rfl)
theorem lX5_85 : Cond.methodLink RX5 85 mX5_canGo.1 ∈ xv_tbl := (xv_tbl_mem 757 (by decide +kernel) rfl)
theorem lX10_290 : Cond.methodLink RX10 290 mX1_keep.1 ∈ xv_tbl := (xv_tbl_mem 759 (by decide +kernel) rfl)
theorem lX1_27 : Cond.methodLink RX1 27 mX5_at.1 ∈ xv_tbl := (xv_tbl_mem 763 (by decide +kernel) rfl)
theorem lL_71 : Cond.methodLink RL 71 mX10_printed.1 ∈ xv_tbl := (xv_tbl_mem 764 (by decide +kernel) rfl)
theorem lX10_294 : Cond.methodLink RX10 294 mX10_needEdition.1 ∈ xv_tbl := (xv_tbl_mem 768 (by decide +kernel) rfl)
theorem lX10_297 : Cond.methodLink RX10 297 mX1_at.1 ∈ xv_tbl := (xv_tbl_mem 773 (by decide +kernel) rfl)
theorem lX1_33 : Cond.methodLink RX1 33 mX1_isKept.1 ∈ xv_tbl := (xv_tbl_mem 777 (by decide +kernel) rfl)
theorem lX1_37 : Cond.methodLink RX1 37 mX10_isPage.1 ∈ xv_tbl ∨ (mX10_isPage.2.2.2.2 = [] ∧ ∃ host, Cond.methodLinkNest RX1 37 mX10_isPage.1 host ∈ xv_tbl) := Or.inr ⟨rfl, "PressHall", (xv_tbl_mem 781 (by decide +kernel) rfl)⟩
theorem lX1_40 : Cond.methodLink RX1 40 mX10_isCell.1 ∈ xv_tbl ∨ (mX10_isCell.2.2.2.2 = [] ∧ ∃ host, Cond.methodLinkNest RX1 40 mX10_isCell.1 host ∈ xv_tbl) := Or.inr ⟨rfl, "PressHall", (xv_tbl_mem 782 (by decide +kernel) rfl)⟩
theorem lL_74 : Cond.methodLink RL 74 mX10_correct.1 ∈ xv_tbl := (xv_tbl_mem 783 (by decide +kernel) rfl)
theorem lX10_299 : Cond.methodLink RX10 299 mX1_has.1 ∈ xv_tbl := (xv_tbl_mem 787 (by decide +kernel) rfl)
theorem lX1_43 : Cond.methodLink RX1 43 mX1_at.1 ∈ xv_tbl := (xv_tbl_mem 791 (by decide +kernel) rfl)
theorem lX10_302 : Cond.methodLink RX10 302 mX1_owes.1 ∈ xv_tbl := (xv_tbl_mem 792 (by decide +kernel) rfl)
theorem lX10_307 : Cond.methodLink RX10 307 mX1_addOwed.1 ∈ xv_tbl := (xv_tbl_mem 797 (by decide +kernel) rfl)
theorem lL_77 : Cond.methodLink RL 77 mX10_placeCorrection.1 ∈ xv_tbl := (xv_tbl_mem 801 (by decide +kernel) rfl)
theorem lX10_312 : Cond.methodLink RX10 312 mX1_longestOwed.1 ∈ xv_tbl := (xv_tbl_mem 806 (by decide +kernel) rfl)
theorem lX10_324 : Cond.methodLink RX10 324 mX5_lowestFree.1 ∈ xv_tbl := (xv_tbl_mem 810 (by decide +kernel) rfl)
theorem lX10_330 : Cond.methodLink RX10 330 mX1_dropLongestOwed.1 ∈ xv_tbl := (xv_tbl_mem 814 (by decide +kernel) rfl)
theorem lL_80 : Cond.methodLink RL 80 mX10_clean.1 ∈ xv_tbl := (xv_tbl_mem 818 (by decide +kernel) rfl)
theorem lL_83 : Cond.methodLink RL 83 mX10_pass.1 ∈ xv_tbl := (xv_tbl_mem 822 (by decide +kernel) rfl)
theorem lL_96 : Cond.methodLink RL 96 mL_cell.1 ∈ xv_tbl ∨ (mL_cell.2.2.2.2 = [] ∧ ∃ host, Cond.methodLinkNest RL 96 mL_cell.1 host ∈ xv_tbl) := Or.inl (xv_tbl_mem 826 (by decide +kernel) rfl)
theorem lL_157 : Cond.methodLink RL 157 mL_areCells.1 ∈ xv_tbl ∨ (mL_areCells.2.2.2.2 = [] ∧ ∃ host, Cond.methodLinkNest RL 157 mL_areCells.1 host ∈ xv_tbl) := Or.inl (xv_tbl_mem 829 (by decide +kernel) rfl)
theorem lL_99 : Cond.methodLink RL 99 mL_puts.1 ∈ xv_tbl ∨ (mL_puts.2.2.2.2 = [] ∧ ∃ host, Cond.methodLinkNest RL 99 mL_puts.1 host ∈ xv_tbl) := Or.inl (xv_tbl_mem 832 (by decide +kernel) rfl)
theorem lL_103 : Cond.methodLink RL 103 mL_count.1 ∈ xv_tbl ∨ (mL_count.2.2.2.2 = [] ∧ ∃ host, Cond.methodLinkNest RL 103 mL_count.1 host ∈ xv_tbl) := Or.inl (xv_tbl_mem 835 (by decide +kernel) rfl)
theorem lL_106 : Cond.methodLink RL 106 mL_inColumns.1 ∈ xv_tbl ∨ (mL_inColumns.2.2.2.2 = [] ∧ ∃ host, Cond.methodLinkNest RL 106 mL_inColumns.1 host ∈ xv_tbl) := Or.inl (xv_tbl_mem 838 (by decide +kernel) rfl)
theorem lL_143 : Cond.methodLink RL 143 mL_isAdvert.1 ∈ xv_tbl ∨ (mL_isAdvert.2.2.2.2 = [] ∧ ∃ host, Cond.methodLinkNest RL 143 mL_isAdvert.1 host ∈ xv_tbl) := Or.inl (xv_tbl_mem 841 (by decide +kernel) rfl)
theorem lL_122 : Cond.methodLink RL 122 mL_placeFor.1 ∈ xv_tbl ∨ (mL_placeFor.2.2.2.2 = [] ∧ ∃ host, Cond.methodLinkNest RL 122 mL_placeFor.1 host ∈ xv_tbl) := Or.inl (xv_tbl_mem 845 (by decide +kernel) rfl)
theorem lL_118 : Cond.methodLink RL 118 mL_isFar.1 ∈ xv_tbl ∨ (mL_isFar.2.2.2.2 = [] ∧ ∃ host, Cond.methodLinkNest RL 118 mL_isFar.1 host ∈ xv_tbl) := Or.inl (xv_tbl_mem 848 (by decide +kernel) rfl)
theorem lL_147 : Cond.methodLink RL 147 mL_isStory.1 ∈ xv_tbl ∨ (mL_isStory.2.2.2.2 = [] ∧ ∃ host, Cond.methodLinkNest RL 147 mL_isStory.1 host ∈ xv_tbl) := Or.inl (xv_tbl_mem 851 (by decide +kernel) rfl)
theorem lL_126 : Cond.methodLink RL 126 mL_lines.1 ∈ xv_tbl ∨ (mL_lines.2.2.2.2 = [] ∧ ∃ host, Cond.methodLinkNest RL 126 mL_lines.1 host ∈ xv_tbl) := Or.inl (xv_tbl_mem 854 (by decide +kernel) rfl)
theorem lL_129 : Cond.methodLink RL 129 mL_fitsIn.1 ∈ xv_tbl ∨ (mL_fitsIn.2.2.2.2 = [] ∧ ∃ host, Cond.methodLinkNest RL 129 mL_fitsIn.1 host ∈ xv_tbl) := Or.inl (xv_tbl_mem 857 (by decide +kernel) rfl)
theorem lL_133 : Cond.methodLink RL 133 mL_laid.1 ∈ xv_tbl ∨ (mL_laid.2.2.2.2 = [] ∧ ∃ host, Cond.methodLinkNest RL 133 mL_laid.1 host ∈ xv_tbl) := Or.inl (xv_tbl_mem 860 (by decide +kernel) rfl)
theorem lL_151 : Cond.methodLink RL 151 mL_isSigned.1 ∈ xv_tbl ∨ (mL_isSigned.2.2.2.2 = [] ∧ ∃ host, Cond.methodLinkNest RL 151 mL_isSigned.1 host ∈ xv_tbl) := Or.inl (xv_tbl_mem 863 (by decide +kernel) rfl)
theorem lL_154 : Cond.methodLink RL 154 mL_isClosed.1 ∈ xv_tbl ∨ (mL_isClosed.2.2.2.2 = [] ∧ ∃ host, Cond.methodLinkNest RL 154 mL_isClosed.1 host ∈ xv_tbl) := Or.inl (xv_tbl_mem 866 (by decide +kernel) rfl)
theorem xv_objw : Cond.instanceMethod Lib.objectInit ∈ xv_tbl ∧ Cond.code Lib.objectInit ⟨#[0xb1]⟩ 1 none ∈ xv_tbl := ⟨(xv_tbl_mem 25 (by decide +kernel) rfl), (xv_tbl_mem 26 (by decide +kernel) rfl)⟩
theorem xv_ao_a : Cond.arrayOver (.array .int) ∈ xv_tbl := (xv_tbl_mem 34 (by decide +kernel) rfl)
theorem xv_ac_int : Cond.arrayClass .int ∈ xv_tbl := (xv_tbl_mem 58 (by decide +kernel) rfl)
theorem xv_ac_boolean : Cond.arrayClass .boolean ∈ xv_tbl := (xv_tbl_mem 59 (by decide +kernel) rfl)
theorem xv_ao_0 : Cond.arrayOver (.object "PressHall$Advert") ∈ xv_tbl := (xv_tbl_mem 61 (by decide +kernel) rfl)
theorem xv_ao_6 : Cond.arrayOver (.object "PressHall$Story") ∈ xv_tbl := (xv_tbl_mem 63 (by decide +kernel) rfl)
theorem xv_ac_byte : Cond.arrayClass .byte ∈ xv_tbl := (xv_tbl_mem 338 (by decide +kernel) rfl)
theorem hX10_93 : xv_H RX10 91 93 95 "java/lang/IllegalStateException" := ⟨by decide +kernel, (xv_tbl_mem 370 (by decide +kernel) rfl), (xv_tbl_mem 15 (by decide +kernel) rfl), ⟨_, List.mem_of_getElem? (i := 2) rfl⟩, xv_atsin (by decide +kernel) (by decide +kernel), List.all_eq_true.mp (by decide +kernel)⟩
theorem hX10_120 : xv_H RX10 91 120 95 "java/lang/IllegalStateException" := ⟨by decide +kernel, (xv_tbl_mem 370 (by decide +kernel) rfl), (xv_tbl_mem 15 (by decide +kernel) rfl), ⟨_, List.mem_of_getElem? (i := 4) rfl⟩, xv_atsin (by decide +kernel) (by decide +kernel), List.all_eq_true.mp (by decide +kernel)⟩
theorem hX10_133 : xv_H RX10 91 133 95 "java/lang/IllegalStateException" := ⟨by decide +kernel, (xv_tbl_mem 370 (by decide +kernel) rfl), (xv_tbl_mem 15 (by decide +kernel) rfl), ⟨_, List.mem_of_getElem? (i := 6) rfl⟩, xv_atsin (by decide +kernel) (by decide +kernel), List.all_eq_true.mp (by decide +kernel)⟩
theorem hX10_167 : xv_H RX10 91 167 95 "java/lang/IllegalStateException" := ⟨by decide +kernel, (xv_tbl_mem 370 (by decide +kernel) rfl), (xv_tbl_mem 15 (by decide +kernel) rfl), ⟨_, List.mem_of_getElem? (i := 7) rfl⟩, xv_atsin (by decide +kernel) (by decide +kernel), List.all_eq_true.mp (by decide +kernel)⟩
theorem hX10_174 : xv_H RX10 172 174 176 "java/lang/IndexOutOfBoundsException" := ⟨by decide +kernel, (xv_tbl_mem 271 (by decide +kernel) rfl), (xv_tbl_mem 13 (by decide +kernel) rfl), ⟨_, List.mem_of_getElem? (i := 8) rfl⟩, xv_atsin (by decide +kernel) (by decide +kernel), List.all_eq_true.mp (by decide +kernel)⟩
theorem hX10_190 : xv_H RX10 91 190 95 "java/lang/IllegalStateException" := ⟨by decide +kernel, (xv_tbl_mem 370 (by decide +kernel) rfl), (xv_tbl_mem 15 (by decide +kernel) rfl), ⟨_, List.mem_of_getElem? (i := 9) rfl⟩, xv_atsin (by decide +kernel) (by decide +kernel), List.all_eq_true.mp (by decide +kernel)⟩
theorem hX10_202 : xv_H RX10 91 202 95 "java/lang/IllegalStateException" := ⟨by decide +kernel, (xv_tbl_mem 370 (by decide +kernel) rfl), (xv_tbl_mem 15 (by decide +kernel) rfl), ⟨_, List.mem_of_getElem? (i := 11) rfl⟩, xv_atsin (by decide +kernel) (by decide +kernel), List.all_eq_true.mp (by decide +kernel)⟩
theorem hX10_221 : xv_H RX10 91 221 95 "java/lang/IllegalStateException" := ⟨by decide +kernel, (xv_tbl_mem 370 (by decide +kernel) rfl), (xv_tbl_mem 15 (by decide +kernel) rfl), ⟨_, List.mem_of_getElem? (i := 12) rfl⟩, xv_atsin (by decide +kernel) (by decide +kernel), List.all_eq_true.mp (by decide +kernel)⟩
theorem hX10_226 : xv_H RX10 91 226 95 "java/lang/IllegalStateException" := ⟨by decide +kernel, (xv_tbl_mem 370 (by decide +kernel) rfl), (xv_tbl_mem 15 (by decide +kernel) rfl), ⟨_, List.mem_of_getElem? (i := 13) rfl⟩, xv_atsin (by decide +kernel) (by decide +kernel), List.all_eq_true.mp (by decide +kernel)⟩
theorem hX10_263 : xv_H RX10 91 263 95 "java/lang/IllegalStateException" := ⟨by decide +kernel, (xv_tbl_mem 370 (by decide +kernel) rfl), (xv_tbl_mem 15 (by decide +kernel) rfl), ⟨_, List.mem_of_getElem? (i := 15) rfl⟩, xv_atsin (by decide +kernel) (by decide +kernel), List.all_eq_true.mp (by decide +kernel)⟩
theorem hX10_268 : xv_H RX10 91 268 95 "java/lang/IllegalStateException" := ⟨by decide +kernel, (xv_tbl_mem 370 (by decide +kernel) rfl), (xv_tbl_mem 15 (by decide +kernel) rfl), ⟨_, List.mem_of_getElem? (i := 16) rfl⟩, xv_atsin (by decide +kernel) (by decide +kernel), List.all_eq_true.mp (by decide +kernel)⟩
theorem hX10_285 : xv_H RX10 91 285 95 "java/lang/IllegalStateException" := ⟨by decide +kernel, (xv_tbl_mem 370 (by decide +kernel) rfl), (xv_tbl_mem 15 (by decide +kernel) rfl), ⟨_, List.mem_of_getElem? (i := 17) rfl⟩, xv_atsin (by decide +kernel) (by decide +kernel), List.all_eq_true.mp (by decide +kernel)⟩
theorem hX10_305 : xv_H RX10 91 305 95 "java/lang/IllegalStateException" := ⟨by decide +kernel, (xv_tbl_mem 370 (by decide +kernel) rfl), (xv_tbl_mem 15 (by decide +kernel) rfl), ⟨_, List.mem_of_getElem? (i := 19) rfl⟩, xv_atsin (by decide +kernel) (by decide +kernel), List.all_eq_true.mp (by decide +kernel)⟩
theorem hX10_310 : xv_H RX10 91 310 95 "java/lang/IllegalStateException" := ⟨by decide +kernel, (xv_tbl_mem 370 (by decide +kernel) rfl), (xv_tbl_mem 15 (by decide +kernel) rfl), ⟨_, List.mem_of_getElem? (i := 20) rfl⟩, xv_atsin (by decide +kernel) (by decide +kernel), List.all_eq_true.mp (by decide +kernel)⟩
theorem hX10_395 : xv_H RX10 172 395 176 "java/lang/IndexOutOfBoundsException" := ⟨by decide +kernel, (xv_tbl_mem 271 (by decide +kernel) rfl), (xv_tbl_mem 13 (by decide +kernel) rfl), ⟨_, List.mem_of_getElem? (i := 0) rfl⟩, xv_atsin (by decide +kernel) (by decide +kernel), List.all_eq_true.mp (by decide +kernel)⟩
theorem hX10_400 : xv_H RX10 172 400 176 "java/lang/IndexOutOfBoundsException" := ⟨by decide +kernel, (xv_tbl_mem 271 (by decide +kernel) rfl), (xv_tbl_mem 13 (by decide +kernel) rfl), ⟨_, List.mem_of_getElem? (i := 3) rfl⟩, xv_atsin (by decide +kernel) (by decide +kernel), List.all_eq_true.mp (by decide +kernel)⟩
theorem hX10_402 : xv_H RX10 172 402 176 "java/lang/IndexOutOfBoundsException" := ⟨by decide +kernel, (xv_tbl_mem 271 (by decide +kernel) rfl), (xv_tbl_mem 13 (by decide +kernel) rfl), ⟨_, List.mem_of_getElem? (i := 14) rfl⟩, xv_atsin (by decide +kernel) (by decide +kernel), List.all_eq_true.mp (by decide +kernel)⟩
theorem hX10_404 : xv_H RX10 381 404 385 "java/lang/IllegalArgumentException" := ⟨by decide +kernel, (xv_tbl_mem 342 (by decide +kernel) rfl), (xv_tbl_mem 14 (by decide +kernel) rfl), ⟨_, List.mem_of_getElem? (i := 1) rfl⟩, xv_atsin (by decide +kernel) (by decide +kernel), List.all_eq_true.mp (by decide +kernel)⟩
theorem hX10_406 : xv_H RX10 172 406 176 "java/lang/IndexOutOfBoundsException" := ⟨by decide +kernel, (xv_tbl_mem 271 (by decide +kernel) rfl), (xv_tbl_mem 13 (by decide +kernel) rfl), ⟨_, List.mem_of_getElem? (i := 18) rfl⟩, xv_atsin (by decide +kernel) (by decide +kernel), List.all_eq_true.mp (by decide +kernel)⟩
theorem hX10_408 : xv_H RX10 172 408 176 "java/lang/IndexOutOfBoundsException" := ⟨by decide +kernel, (xv_tbl_mem 271 (by decide +kernel) rfl), (xv_tbl_mem 13 (by decide +kernel) rfl), ⟨_, List.mem_of_getElem? (i := 5) rfl⟩, xv_atsin (by decide +kernel) (by decide +kernel), List.all_eq_true.mp (by decide +kernel)⟩
theorem hX10_410 : xv_H RX10 172 410 176 "java/lang/IndexOutOfBoundsException" := ⟨by decide +kernel, (xv_tbl_mem 271 (by decide +kernel) rfl), (xv_tbl_mem 13 (by decide +kernel) rfl), ⟨_, List.mem_of_getElem? (i := 10) rfl⟩, xv_atsin (by decide +kernel) (by decide +kernel), List.all_eq_true.mp (by decide +kernel)⟩
