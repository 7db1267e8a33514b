/-! THE TABLES OF THE PROGRAM: methods, calls, fields, constants, each with the place of its word in lw_tbl -/
def z_tbl : List Cond := lw_tbl.filter goodWord
theorem z_ws0 : ∀ w ∈ u_ws RX0 TX0 3, w ∈ z_tbl := fun w h => List.mem_filter.mpr ⟨(show ∀ w ∈ u_ws RX0 TX0 3, w ∈ lw_tbl by decide +kernel) w h, (show ∀ w ∈ u_ws RX0 TX0 3, goodWord w = true by decide +kernel) w h⟩
theorem z_ws1 : ∀ w ∈ u_ws RX1 TX1 2, w ∈ z_tbl := fun w h => List.mem_filter.mpr ⟨(show ∀ w ∈ u_ws RX1 TX1 2, w ∈ lw_tbl by decide +kernel) w h, (show ∀ w ∈ u_ws RX1 TX1 2, goodWord w = true by decide +kernel) w h⟩
theorem z_ws2 : ∀ w ∈ u_ws RX2 TX2 6, w ∈ z_tbl := fun w h => List.mem_filter.mpr ⟨(show ∀ w ∈ u_ws RX2 TX2 6, w ∈ lw_tbl by decide +kernel) w h, (show ∀ w ∈ u_ws RX2 TX2 6, goodWord w = true by decide +kernel) w h⟩
theorem z_ws3 : ∀ w ∈ u_ws RX3 TX3 7, w ∈ z_tbl := fun w h => List.mem_filter.mpr ⟨(show ∀ w ∈ u_ws RX3 TX3 7, w ∈ lw_tbl by decide +kernel) w h, (show ∀ w ∈ u_ws RX3 TX3 7, goodWord w = true by decide +kernel) w h⟩
theorem z_ws4 : ∀ w ∈ u_ws RX4 TX4 4, w ∈ z_tbl := fun w h => List.mem_filter.mpr ⟨(show ∀ w ∈ u_ws RX4 TX4 4, w ∈ lw_tbl by decide +kernel) w h, (show ∀ w ∈ u_ws RX4 TX4 4, goodWord w = true by decide +kernel) w h⟩
theorem z_ws5 : ∀ w ∈ u_ws RX5 TX5 6, w ∈ z_tbl := fun w h => List.mem_filter.mpr ⟨(show ∀ w ∈ u_ws RX5 TX5 6, w ∈ lw_tbl by decide +kernel) w h, (show ∀ w ∈ u_ws RX5 TX5 6, goodWord w = true by decide +kernel) w h⟩
theorem z_ws6 : ∀ w ∈ u_ws RX6 TX6 4, w ∈ z_tbl := fun w h => List.mem_filter.mpr ⟨(show ∀ w ∈ u_ws RX6 TX6 4, w ∈ lw_tbl by decide +kernel) w h, (show ∀ w ∈ u_ws RX6 TX6 4, goodWord w = true by decide +kernel) w h⟩
theorem z_ws7 : ∀ w ∈ u_ws RX7 TX7 10, w ∈ z_tbl := fun w h => List.mem_filter.mpr ⟨(show ∀ w ∈ u_ws RX7 TX7 10, w ∈ lw_tbl by decide +kernel) w h, (show ∀ w ∈ u_ws RX7 TX7 10, goodWord w = true by decide +kernel) w h⟩
theorem z_ws8 : ∀ w ∈ u_ws RX8 TX8 21, w ∈ z_tbl := fun w h => List.mem_filter.mpr ⟨(show ∀ w ∈ u_ws RX8 TX8 21, w ∈ lw_tbl by decide +kernel) w h, (show ∀ w ∈ u_ws RX8 TX8 21, goodWord w = true by decide +kernel) w h⟩
abbrev z_cl : List vw_C := [(RX0, TX0, 3), (RX1, TX1, 2), (RX2, TX2, 6), (RX3, TX3, 7), (RX4, TX4, 4), (RX5, TX5, 6), (RX6, TX6, 4), (RX7, TX7, 10), (RX8, TX8, 21)]
/-- a method: name, code, locals, type of the answer; its class, frames, locals of its room, cells, slots that it makes -/
abbrev z_M : Type := (MethodName × ByteArray × Nat × Option FieldType) × (Nat × Nat × Nat × Nat × Nat)
def z_MT : List z_M := [
  ((yL_law, cL_law, 4, ret), (9, 10, 388, 600000, 7302249)),
  ((yX0_init, cX0_init, 3, none), (0, 2, 42, 41, 200)),
  ((yX0_empty, cX0_empty, 1, none), (0, 0, 0, 0, 0)),
  ((yX0_push, cX0_push, 2, none), (0, 2, 44, 0, 0)),
  ((yX0_pop, cX0_pop, 3, some .boolean), (0, 2, 44, 0, 0)),
  ((yX1_init, cX1_init, 3, none), (1, 2, 42, 9, 40)),
  ((yX1_empty, cX1_empty, 1, none), (1, 0, 0, 0, 0)),
  ((yX1_keepAs, cX1_keepAs, 3, some .boolean), (1, 2, 44, 0, 0)),
  ((yX1_bringBack, cX1_bringBack, 3, some .boolean), (1, 2, 44, 0, 0)),
  ((yX2_init, cX2_init, 1, none), (2, 1, 21, 0, 0)),
  ((yX2_reset, cX2_reset, 1, none), (2, 0, 0, 0, 0)),
  ((yX2_copyFrom, cX2_copyFrom, 2, none), (2, 0, 0, 0, 0)),
  ((yX2_has, cX2_has, 2, some .boolean), (2, 0, 0, 0, 0)),
  ((yX2_maskOf, cX2_maskOf, 1, some .long), (2, 0, 0, 0, 0)),
  ((yX2_isFold, cX2_isFold, 2, some .boolean), (2, 1, 21, 0, 0)),
  ((yX2_isOpen, cX2_isOpen, 2, some .boolean), (2, 1, 21, 0, 0)),
  ((yX2_kindOf, cX2_kindOf, 2, some .int), (2, 2, 42, 0, 0)),
  ((yX2_make, cX2_make, 5, none), (2, 1, 20, 0, 0)),
  ((yX2_beside, cX2_beside, 6, some .int), (2, 1, 21, 0, 0)),
  ((yX3_init, cX3_init, 2, none), (3, 1, 21, 3, 12)),
  ((yX3_reset, cX3_reset, 2, none), (3, 1, 22, 0, 0)),
  ((yX3_copyFrom, cX3_copyFrom, 3, none), (3, 1, 22, 0, 0)),
  ((yX3_motherCell, cX3_motherCell, 2, some .int), (3, 1, 21, 0, 0)),
  ((yX3_regimentCell, cX3_regimentCell, 2, some .int), (3, 1, 21, 0, 0)),
  ((yX3_mindedBy, cX3_mindedBy, 2, some .int), (3, 1, 21, 0, 0)),
  ((yX3_putMother, cX3_putMother, 3, none), (3, 1, 22, 0, 0)),
  ((yX3_mind, cX3_mind, 3, none), (3, 1, 22, 0, 0)),
  ((yX3_knownCells, cX3_knownCells, 1, some .int), (3, 1, 21, 0, 0)),
  ((yX3_knows, cX3_knows, 2, some .int), (3, 1, 20, 0, 0)),
  ((yX3_regimentsAt, cX3_regimentsAt, 4, some .int), (3, 0, 0, 0, 0)),
  ((yX3_mindersOf, cX3_mindersOf, 4, some .int), (3, 2, 42, 0, 0)),
  ((yX3_distanceToMinded, cX3_distanceToMinded, 5, some .int), (3, 2, 42, 0, 0)),
  ((yX3_mayEnter, cX3_mayEnter, 6, some .boolean), (3, 1, 23, 0, 0)),
  ((yX3_settle, cX3_settle, 3, none), (3, 1, 22, 0, 0)),
  ((yX3_enter, cX3_enter, 3, none), (3, 2, 44, 0, 0)),
  ((yX3_advanceBy, cX3_advanceBy, 4, some .int), (3, 4, 99, 0, 0)),
  ((yX3_advance, cX3_advance, 4, some .int), (3, 3, 76, 0, 0)),
  ((yX3_goalOf, cX3_goalOf, 9, some .int), (3, 2, 48, 0, 0)),
  ((yX3_sideAway, cX3_sideAway, 7, some .int), (3, 1, 21, 0, 0)),
  ((yX4_init, cX4_init, 2, none), (4, 2, 42, 6, 28)),
  ((yX4_readAll, cX4_readAll, 2, some .int), (4, 5, 107, 0, 0)),
  ((yX4_mayBegin, cX4_mayBegin, 3, some .boolean), (4, 0, 0, 0, 0)),
  ((yX4_readItem, cX4_readItem, 4, some .boolean), (4, 4, 84, 0, 0)),
  ((yX4_mayStand, cX4_mayStand, 4, some .boolean), (4, 0, 0, 0, 0)),
  ((yX4_take, cX4_take, 6, none), (4, 2, 44, 0, 0)),
  ((yX5_init, cX5_init, 1, none), (5, 1, 21, 1, 120)),
  ((yX5_empty, cX5_empty, 1, none), (5, 0, 0, 0, 0)),
  ((yX5_append, cX5_append, 2, some .boolean), (5, 1, 22, 0, 0)),
  ((yX5_rewind, cX5_rewind, 1, none), (5, 0, 0, 0, 0)),
  ((yX5_letterAt, cX5_letterAt, 2, some .int), (5, 1, 21, 0, 0)),
  ((yX5_readToken, cX5_readToken, 2, none), (5, 3, 63, 0, 0)),
  ((yX5_readDigits, cX5_readDigits, 2, none), (5, 2, 42, 0, 0)),
  ((yX5_isDigit, cX5_isDigit, 1, some .boolean), (5, 0, 0, 0, 0)),
  ((yX5_isSign, cX5_isSign, 1, some .boolean), (5, 0, 0, 0, 0)),
  ((yX6_init, cX6_init, 1, none), (6, 1, 21, 3, 18)),
  ((yX6_empty, cX6_empty, 1, none), (6, 0, 0, 0, 0)),
  ((yX6_add, cX6_add, 4, some .boolean), (6, 1, 22, 0, 0)),
  ((yX6_allows, cX6_allows, 6, some .boolean), (6, 1, 21, 0, 0)),
  ((yX7_init, cX7_init, 1, none), (7, 3, 64, 75, 553)),
  ((yX7_type, cX7_type, 2, some .int), (7, 2, 43, 0, 0)),
  ((yX7_clear, cX7_clear, 2, some .int), (7, 1, 20, 0, 0)),
  ((yX7_land, cX7_land, 2, some .int), (7, 6, 128, 0, 0)),
  ((yX7_cell, cX7_cell, 3, some .int), (7, 3, 63, 0, 0)),
  ((yX7_mother, cX7_mother, 3, some .int), (7, 3, 65, 0, 0)),
  ((yX7_regiment, cX7_regiment, 3, some .int), (7, 2, 42, 0, 0)),
  ((yX7_now, cX7_now, 2, some .int), (7, 2, 41, 0, 0)),
  ((yX7_step, cX7_step, 1, some .int), (7, 4, 99, 0, 0)),
  ((yX7_walks, cX7_walks, 4, some .int), (7, 3, 65, 0, 0)),
  ((yX7_seesOff, cX7_seesOff, 4, some .int), (7, 3, 65, 0, 0)),
  ((yX7_deals, cX7_deals, 3, some .int), (7, 3, 65, 0, 0)),
  ((yX7_leads, cX7_leads, 5, some .int), (7, 3, 66, 0, 0)),
  ((yX7_undo, cX7_undo, 1, some .int), (7, 3, 66, 0, 0)),
  ((yX7_where, cX7_where, 3, some .int), (7, 5, 122, 0, 0)),
  ((yX7_falls, cX7_falls, 2, some .int), (7, 5, 122, 0, 0)),
  ((yX7_comes, cX7_comes, 4, some .int), (7, 4, 99, 0, 0)),
  ((yX7_wave, cX7_wave, 8, some .int), (7, 6, 146, 0, 0)),
  ((yX7_deal, cX7_deal, 7, some .int), (7, 6, 144, 0, 0)),
  ((yX7_odds, cX7_odds, 7, some .int), (7, 2, 48, 0, 0)),
  ((yX7_watches, cX7_watches, 4, some .int), (7, 2, 45, 0, 0)),
  ((yX7_forget, cX7_forget, 2, some .int), (7, 1, 20, 0, 0)),
  ((yX7_faced, cX7_faced, 2, some .int), (7, 6, 145, 0, 0)),
  ((yX7_look, cX7_look, 5, some .int), (7, 6, 145, 0, 0)),
  ((yX7_rate, cX7_rate, 3, some .int), (7, 5, 108, 0, 0)),
  ((yX7_keep, cX7_keep, 2, some .int), (7, 3, 66, 0, 0)),
  ((yX7_back, cX7_back, 2, some .int), (7, 3, 66, 0, 0)),
  ((yX7_count, cX7_count, 2, some .int), (7, 0, 0, 0, 0)),
  ((yX7_trace, cX7_trace, 1, some .long), (7, 0, 0, 0, 0)),
  ((yX7_isMother, cX7_isMother, 2, some .boolean), (7, 0, 0, 0, 0)),
  ((yX7_isRegiment, cX7_isRegiment, 2, some .boolean), (7, 0, 0, 0, 0)),
  ((yX7_isSide, cX7_isSide, 1, some .boolean), (7, 0, 0, 0, 0)),
  ((yX7_toldMother, cX7_toldMother, 1, some .int), (7, 0, 0, 0, 0)),
  ((yX7_bitOf, cX7_bitOf, 2, some .int), (7, 0, 0, 0, 0)),
  ((yX7_cellAt, cX7_cellAt, 2, some .int), (7, 0, 0, 0, 0)),
  ((yX7_xOf, cX7_xOf, 1, some .int), (7, 0, 0, 0, 0)),
  ((yX7_yOf, cX7_yOf, 1, some .int), (7, 0, 0, 0, 0)),
  ((yX7_elementOf, cX7_elementOf, 2, some .int), (7, 0, 0, 0, 0)),
  ((yX7_setElement, cX7_setElement, 3, none), (7, 0, 0, 0, 0)),
  ((yX7_cellIfWaved, cX7_cellIfWaved, 5, some .int), (7, 5, 122, 0, 0)),
  ((yX7_fallsIfDealt, cX7_fallsIfDealt, 3, some .int), (7, 5, 122, 0, 0)),
  ((yX7_waysToSleep, cX7_waysToSleep, 6, some .int), (7, 1, 23, 0, 0)),
  ((yX7_power, cX7_power, 4, some .int), (7, 0, 0, 0, 0)),
  ((yX7_greatestDivisor, cX7_greatestDivisor, 6, some .int), (7, 1, 21, 0, 0)),
  ((yX7_mindable, cX7_mindable, 4, some .int), (7, 5, 122, 0, 0)),
  ((yX7_fitsWatched, cX7_fitsWatched, 4, some .boolean), (7, 4, 99, 0, 0)),
  ((yX7_trackPlace, cX7_trackPlace, 2, some .int), (7, 0, 0, 0, 0)),
  ((yX7_track, cX7_track, 5, none), (7, 4, 99, 0, 0)),
  ((yX7_greatestCrowd, cX7_greatestCrowd, 5, some .int), (7, 2, 46, 0, 0)),
  ((yX7_crowdAt, cX7_crowdAt, 6, some .int), (7, 1, 21, 0, 0)),
  ((yX7_rateFoot, cX7_rateFoot, 3, some .int), (7, 2, 42, 0, 0)),
  ((yX7_rateHussars, cX7_rateHussars, 2, some .int), (7, 3, 66, 0, 0)),
  ((yX7_rateGuards, cX7_rateGuards, 2, some .int), (7, 3, 64, 0, 0)),
  ((yX7_rateLancers, cX7_rateLancers, 2, some .int), (7, 4, 87, 0, 0)),
  ((yX7_rateScouts, cX7_rateScouts, 2, some .int), (7, 4, 85, 0, 0)),
  ((yX7_rateBand, cX7_rateBand, 2, some .int), (7, 3, 64, 0, 0)),
  ((yX8_init, cX8_init, 1, none), (8, 2, 42, 10, 518)),
  ((yX8_in, cX8_in, 3, some .boolean), (8, 0, 0, 0, 0)),
  ((yX8_has, cX8_has, 2, some .boolean), (8, 0, 0, 0, 0)),
  ((yX8_ones, cX8_ones, 3, some .int), (8, 0, 0, 0, 0)),
  ((yX8_empty, cX8_empty, 2, none), (8, 0, 0, 0, 0)),
  ((yX8_begin, cX8_begin, 2, none), (8, 1, 21, 0, 0)),
  ((yX8_type, cX8_type, 2, some .int), (8, 1, 22, 0, 0)),
  ((yX8_clear, cX8_clear, 2, some .int), (8, 0, 0, 0, 0)),
  ((yX8_next, cX8_next, 3, some .boolean), (8, 1, 22, 0, 0)),
  ((yX8_numberIn, cX8_numberIn, 3, some .boolean), (8, 2, 44, 0, 0)),
  ((yX8_ends, cX8_ends, 1, some .boolean), (8, 2, 44, 0, 0)),
  ((yX8_landItem, cX8_landItem, 2, some .boolean), (8, 3, 66, 0, 0)),
  ((yX8_cellRead, cX8_cellRead, 2, some .boolean), (8, 3, 66, 0, 0)),
  ((yX8_cellItem, cX8_cellItem, 1, some .boolean), (8, 4, 87, 0, 0)),
  ((yX8_motherItem, cX8_motherItem, 1, some .boolean), (8, 4, 87, 0, 0)),
  ((yX8_regimentItem, cX8_regimentItem, 1, some .boolean), (8, 4, 87, 0, 0)),
  ((yX8_item, cX8_item, 2, some .boolean), (8, 5, 107, 0, 0)),
  ((yX8_land, cX8_land, 2, some .int), (8, 6, 128, 0, 0)),
  ((yX8_tens, cX8_tens, 1, some .int), (8, 0, 0, 0, 0)),
  ((yX8_isCell, cX8_isCell, 2, some .boolean), (8, 1, 22, 0, 0)),
  ((yX8_eights, cX8_eights, 1, some .int), (8, 0, 0, 0, 0)),
  ((yX8_at, cX8_at, 3, some .int), (8, 1, 22, 0, 0)),
  ((yX8_beside, cX8_beside, 5, some .int), (8, 2, 44, 0, 0)),
  ((yX8_whatIs, cX8_whatIs, 2, some .int), (8, 0, 0, 0, 0)),
  ((yX8_isRegiment, cX8_isRegiment, 2, some .boolean), (8, 1, 22, 0, 0)),
  ((yX8_isMother, cX8_isMother, 2, some .boolean), (8, 1, 22, 0, 0)),
  ((yX8_aside, cX8_aside, 2, none), (8, 0, 0, 0, 0)),
  ((yX8_take, cX8_take, 2, none), (8, 0, 0, 0, 0)),
  ((yX8_know, cX8_know, 2, none), (8, 0, 0, 0, 0)),
  ((yX8_isFree, cX8_isFree, 4, some .boolean), (8, 1, 21, 0, 0)),
  ((yX8_isClear, cX8_isClear, 2, some .boolean), (8, 2, 44, 0, 0)),
  ((yX8_goTo, cX8_goTo, 3, none), (8, 1, 21, 0, 0)),
  ((yX8_size, cX8_size, 1, some .int), (8, 0, 0, 0, 0)),
  ((yX8_goOne, cX8_goOne, 10, some .boolean), (8, 3, 68, 0, 0)),
  ((yX8_goStep, cX8_goStep, 3, some .int), (8, 4, 97, 0, 0)),
  ((yX8_goSteps, cX8_goSteps, 3, none), (8, 5, 119, 0, 0)),
  ((yX8_knownMany, cX8_knownMany, 1, some .int), (8, 1, 22, 0, 0)),
  ((yX8_cell, cX8_cell, 6, some .int), (8, 2, 43, 0, 0)),
  ((yX8_mother, cX8_mother, 5, some .int), (8, 2, 43, 0, 0)),
  ((yX8_regiment, cX8_regiment, 3, some .int), (8, 2, 43, 0, 0)),
  ((yX8_now, cX8_now, 2, some .int), (8, 2, 42, 0, 0)),
  ((yX8_note, cX8_note, 2, none), (8, 0, 0, 0, 0)),
  ((yX8_step, cX8_step, 2, some .int), (8, 5, 119, 0, 0)),
  ((yX8_walks, cX8_walks, 4, some .int), (8, 3, 68, 0, 0)),
  ((yX8_seesOff, cX8_seesOff, 5, some .int), (8, 2, 43, 0, 0)),
  ((yX8_deals, cX8_deals, 3, some .int), (8, 2, 43, 0, 0)),
  ((yX8_leads, cX8_leads, 4, some .int), (8, 3, 68, 0, 0)),
  ((yX8_undo, cX8_undo, 2, some .int), (8, 0, 0, 0, 0)),
  ((yX8_where, cX8_where, 3, some .int), (8, 6, 141, 0, 0)),
  ((yX8_falls, cX8_falls, 2, some .int), (8, 6, 141, 0, 0)),
  ((yX8_comes, cX8_comes, 4, some .int), (8, 5, 119, 0, 0)),
  ((yX8_wave, cX8_wave, 6, some .int), (8, 6, 141, 0, 0)),
  ((yX8_deal, cX8_deal, 7, some .int), (8, 6, 141, 0, 0)),
  ((yX8_odds, cX8_odds, 9, some .int), (8, 1, 22, 0, 0)),
  ((yX8_watches, cX8_watches, 4, some .int), (8, 2, 43, 0, 0)),
  ((yX8_forget, cX8_forget, 2, some .int), (8, 0, 0, 0, 0)),
  ((yX8_facedBy, cX8_facedBy, 7, some .int), (8, 5, 119, 0, 0)),
  ((yX8_faced, cX8_faced, 2, some .int), (8, 6, 145, 0, 0)),
  ((yX8_greatest, cX8_greatest, 8, some .int), (8, 6, 141, 0, 0)),
  ((yX8_look, cX8_look, 7, some .int), (8, 7, 168, 0, 0)),
  ((yX8_foot, cX8_foot, 2, some .int), (8, 0, 0, 0, 0)),
  ((yX8_hussars, cX8_hussars, 4, some .int), (8, 1, 21, 0, 0)),
  ((yX8_guards, cX8_guards, 2, some .int), (8, 1, 22, 0, 0)),
  ((yX8_rate, cX8_rate, 3, some .int), (8, 2, 44, 0, 0)),
  ((yX8_keep, cX8_keep, 3, some .int), (8, 2, 42, 0, 0)),
  ((yX8_back, cX8_back, 3, some .int), (8, 2, 42, 0, 0)),
  ((yX8_count, cX8_count, 2, some .int), (8, 1, 22, 0, 0)),
  ((yX8_trace, cX8_trace, 1, some .long), (8, 0, 0, 0, 0)),
  ((yJ6_bitCount_0f7a4, cJ6_bitCount_0f7a4, 1, some .int), (10, 0, 0, 0, 0)),
  ((yJ13_bitCount_95d88, cJ13_bitCount_95d88, 2, some .int), (11, 0, 0, 0, 0))]
def z_m0 : z_M := ((yL_law, cL_law, 4, ret), (9, 0, 0, 0, 0))
def z_mt (m : Nat) : z_M := z_MT.getD m z_m0
abbrev z_nm (m : Nat) : MethodName := (z_mt m).1.1
abbrev z_co (m : Nat) : ByteArray := (z_mt m).1.2.1
abbrev z_ml (m : Nat) : Nat := (z_mt m).1.2.2.1
abbrev z_rt (m : Nat) : Option FieldType := (z_mt m).1.2.2.2
abbrev z_ci (m : Nat) : Nat := (z_mt m).2.1
abbrev z_fr (m : Nat) : Nat := (z_mt m).2.2.1
abbrev z_lo (m : Nat) : Nat := (z_mt m).2.2.2.1
abbrev z_mc (m : Nat) : Nat := (z_mt m).2.2.2.2.1
abbrev z_ms (m : Nat) : Nat := (z_mt m).2.2.2.2.2
def z_RN : List String := [RX0, RX1, RX2, RX3, RX4, RX5, RX6, RX7, RX8, RL, RJ6, RJ13, RJ9]
def z_rn (c : Nat) : String := z_RN.getD c RL
def z_MP : List (Nat × Nat × Nat × Nat) := [(0, 0, 0, 0), (195, 55, 194, 194), (403, 55, 401, 402), (493, 55, 491, 492), (576, 55, 574, 575), (215, 56, 214, 214), (399, 56, 397, 398), (728, 56, 726, 727), (737, 56, 735, 736), (110, 53, 109, 109), (307, 53, 305, 306), (386, 53, 384, 385), (411, 53, 409, 410), (368, 53, 367, 0), (424, 53, 422, 423), (419, 53, 417, 418), (415, 53, 413, 414), (365, 53, 363, 364), (522, 53, 520, 521), (146, 54, 145, 145), (311, 54, 309, 310), (390, 54, 388, 389), (444, 54, 442, 443), (464, 54, 462, 463), (452, 54, 450, 451), (373, 54, 371, 372), (382, 54, 380, 381), (479, 54, 477, 478), (428, 54, 426, 427), (432, 54, 430, 431), (448, 54, 446, 447), (699, 54, 697, 698), (529, 54, 527, 528), (377, 54, 375, 376), (535, 54, 533, 534), (584, 54, 582, 583), (499, 54, 497, 498), (504, 54, 502, 503), (508, 54, 506, 507), (104, 52, 103, 103), (303, 52, 301, 302), (344, 52, 342, 343), (348, 52, 346, 347), (352, 52, 350, 351), (358, 52, 356, 357), (74, 51, 73, 73), (295, 51, 293, 294), (284, 51, 282, 283), (316, 51, 314, 315), (324, 51, 322, 323), (320, 51, 318, 319), (334, 51, 332, 333), (330, 51, 329, 0), (340, 51, 339, 0), (230, 57, 229, 229), (395, 57, 393, 394), (636, 57, 634, 635), (657, 57, 655, 656), (66, 50, 65, 65), (280, 50, 278, 279), (291, 50, 289, 290), (299, 50, 297, 298), (407, 50, 405, 406), (436, 50, 434, 435), (456, 50, 454, 455), (475, 50, 473, 474), (489, 50, 487, 488), (541, 50, 539, 540), (551, 50, 549, 550), (556, 50, 554, 555), (566, 50, 564, 565), (572, 50, 570, 571), (580, 50, 578, 579), (590, 50, 588, 589), (594, 50, 592, 593), (598, 50, 596, 597), (607, 50, 605, 606), (615, 50, 613, 614), (632, 50, 630, 631), (641, 50, 639, 640), (645, 50, 643, 644), (662, 50, 660, 661), (683, 50, 681, 682), (724, 50, 722, 723), (733, 50, 731, 732), (742, 50, 740, 741), (746, 50, 744, 745), (440, 50, 439, 0), (460, 50, 459, 1), (544, 50, 543, 0), (468, 50, 467, 0), (471, 50, 470, 0), (361, 50, 360, 0), (511, 50, 510, 0), (514, 50, 513, 0), (327, 50, 326, 0), (287, 50, 286, 0), (603, 50, 602, 2), (611, 50, 610, 3), (619, 50, 618, 4), (622, 50, 621, 0), (625, 50, 624, 0), (649, 50, 648, 5), (653, 50, 652, 6), (669, 50, 668, 0), (666, 50, 665, 7), (674, 50, 673, 8), (679, 50, 678, 9), (688, 50, 687, 10), (694, 50, 693, 11), (704, 50, 703, 12), (709, 50, 708, 13), (714, 50, 713, 14), (719, 50, 718, 15), (751, 58, 750, 750), (839, 58, 838, 0), (951, 58, 950, 0), (928, 58, 927, 0), (756, 58, 755, 16), (760, 58, 759, 17), (836, 58, 834, 835), (843, 58, 841, 842), (851, 58, 850, 20), (863, 58, 862, 23), (867, 58, 866, 24), (859, 58, 858, 22), (875, 58, 874, 26), (871, 58, 870, 25), (879, 58, 878, 27), (883, 58, 882, 28), (855, 58, 854, 21), (847, 58, 845, 846), (909, 58, 908, 0), (891, 58, 890, 29), (894, 58, 893, 0), (962, 58, 961, 39), (958, 58, 957, 38), (898, 58, 897, 30), (917, 58, 916, 32), (906, 58, 905, 31), (940, 58, 939, 35), (768, 58, 767, 19), (764, 58, 763, 18), (966, 58, 965, 40), (974, 58, 973, 42), (970, 58, 969, 41), (954, 58, 953, 0), (948, 58, 947, 37), (944, 58, 943, 36), (1002, 58, 1001, 43), (925, 58, 924, 33), (887, 58, 885, 886), (902, 58, 900, 901), (913, 58, 911, 912), (921, 58, 919, 920), (936, 58, 935, 34), (932, 58, 930, 931), (978, 58, 976, 977), (982, 58, 980, 981), (986, 58, 984, 985), (990, 58, 988, 989), (994, 58, 992, 993), (998, 58, 996, 997), (1006, 58, 1004, 1005), (1010, 58, 1008, 1009), (1014, 58, 1012, 1013), (1018, 58, 1016, 1017), (1022, 58, 1020, 1021), (1026, 58, 1024, 1025), (1030, 58, 1028, 1029), (1038, 58, 1037, 44), (1034, 58, 1032, 1033), (1046, 58, 1045, 45), (1042, 58, 1040, 1041), (1055, 58, 1054, 46), (1059, 58, 1058, 47), (1064, 58, 1063, 48), (1050, 58, 1048, 1049), (1072, 58, 1070, 1071), (1076, 58, 1074, 1075), (1080, 58, 1078, 1079), (1084, 58, 1082, 1083), (559, 61, 558, 0), (482, 60, 481, 0)]
def z_stat (m : Nat) : Bool := [13, 52, 53, 89, 90, 91, 92, 93, 94, 95, 96, 100, 101, 104, 115, 116, 117, 132, 134, 146, 182, 183].contains m
def z_ini (m : Nat) : Bool := [1, 5, 9, 19, 39, 45, 54, 58, 114].contains m
/-- calls: class, entry, kind (0 virtual, 1 static, 2 a constructor; 4, 5: 1, 2 of a nest mate; 9: Object.<init>), the method, the place of the word -/
def z_CT : List (Nat × Nat × Nat × Nat × Nat) := [(9, 9, 2, 58, 64), (9, 12, 2, 114, 749), (9, 13, 0, 59, 277), (9, 17, 0, 120, 833), (9, 18, 0, 60, 288), (9, 22, 0, 121, 840), (9, 23, 0, 61, 296), (9, 26, 0, 131, 844), (9, 27, 0, 62, 404), (9, 31, 0, 151, 884), (9, 32, 0, 63, 433), (9, 35, 0, 152, 899), (9, 36, 0, 64, 453), (9, 39, 0, 153, 910), (9, 40, 0, 65, 472), (9, 43, 0, 154, 918), (9, 44, 0, 66, 486), (9, 47, 0, 156, 929), (9, 48, 0, 67, 538), (9, 51, 0, 157, 975), (9, 52, 0, 68, 548), (9, 55, 0, 158, 979), (9, 56, 0, 69, 553), (9, 59, 0, 159, 983), (9, 60, 0, 70, 563), (9, 63, 0, 160, 987), (9, 64, 0, 71, 569), (9, 67, 0, 161, 991), (9, 68, 0, 72, 577), (9, 71, 0, 162, 995), (9, 72, 0, 73, 587), (9, 75, 0, 163, 1003), (9, 76, 0, 74, 591), (9, 79, 0, 164, 1007), (9, 80, 0, 75, 595), (9, 84, 0, 165, 1011), (9, 85, 0, 76, 604), (9, 88, 0, 166, 1015), (9, 89, 0, 77, 612), (9, 92, 0, 167, 1019), (9, 93, 0, 78, 629), (9, 96, 0, 168, 1023), (9, 97, 0, 79, 638), (9, 100, 0, 169, 1027), (9, 101, 0, 80, 642), (9, 104, 0, 171, 1031), (9, 105, 0, 81, 659), (9, 108, 0, 173, 1039), (9, 109, 0, 82, 680), (9, 112, 0, 177, 1047), (9, 113, 0, 83, 721), (9, 116, 0, 178, 1069), (9, 117, 0, 84, 730), (9, 120, 0, 179, 1073), (9, 121, 0, 85, 739), (9, 124, 0, 180, 1077), (9, 125, 0, 86, 743), (9, 129, 0, 181, 1081), (0, 3, 9, 0, 196), (0, 17, 2, 19, 199), (0, 27, 0, 21, 494), (0, 31, 7, 0, 495), (1, 3, 9, 0, 216), (1, 17, 2, 19, 218), (1, 24, 0, 21, 729), (1, 28, 4, 91, 738), (2, 3, 9, 0, 111), (2, 31, 0, 12, 420), (2, 35, 1, 13, 366), (2, 39, 0, 15, 416), (2, 42, 0, 14, 421), (2, 47, 4, 93, 523), (2, 51, 4, 94, 524), (2, 54, 4, 92, 525), (3, 3, 9, 0, 147), (3, 25, 4, 96, 312), (3, 40, 4, 95, 391), (3, 44, 1, 183, 480), (3, 50, 1, 13, 378), (3, 59, 0, 24, 449), (3, 63, 0, 23, 518), (3, 66, 0, 22, 700), (3, 69, 4, 93, 509), (3, 72, 8, 0, 515), (3, 77, 4, 94, 512), (3, 80, 0, 12, 530), (3, 90, 0, 29, 531), (3, 93, 0, 33, 536), (3, 97, 0, 14, 537), (3, 100, 4, 91, 500), (3, 104, 0, 36, 585), (3, 108, 1, 182, 586), (3, 112, 0, 37, 501), (3, 115, 0, 34, 532), (3, 118, 0, 38, 505), (3, 121, 0, 18, 519), (3, 124, 0, 32, 526), (4, 3, 9, 0, 105), (4, 11, 5, 9, 108), (4, 20, 2, 19, 144), (4, 35, 0, 10, 304), (4, 38, 0, 20, 308), (4, 39, 0, 48, 313), (4, 44, 0, 50, 317), (4, 51, 0, 41, 341), (4, 55, 0, 42, 345), (4, 71, 0, 43, 349), (4, 75, 4, 96, 353), (4, 79, 4, 95, 354), (4, 83, 0, 44, 355), (4, 93, 4, 92, 359), (4, 97, 0, 17, 362), (4, 101, 0, 25, 370), (4, 104, 0, 33, 374), (4, 107, 0, 26, 379), (5, 3, 9, 0, 75), (5, 19, 4, 96, 285), (5, 26, 4, 95, 325), (5, 30, 0, 49, 321), (5, 37, 1, 52, 328), (5, 41, 0, 51, 331), (5, 44, 1, 53, 338), (5, 53, 7, 0, 335), (6, 3, 9, 0, 231), (6, 25, 4, 96, 637), (6, 29, 4, 95, 658), (7, 1, 9, 0, 67), (7, 9, 5, 45, 72), (7, 18, 2, 39, 102), (7, 27, 5, 9, 188), (7, 34, 2, 19, 190), (7, 46, 2, 1, 193), (7, 53, 2, 5, 213), (7, 60, 5, 54, 228), (7, 73, 0, 47, 281), (7, 81, 0, 46, 292), (7, 84, 0, 40, 300), (7, 89, 0, 11, 383), (7, 95, 0, 21, 387), (7, 98, 0, 55, 392), (7, 99, 0, 6, 396), (7, 100, 0, 2, 400), (7, 101, 0, 12, 408), (7, 104, 0, 16, 412), (7, 108, 0, 28, 425), (7, 111, 0, 29, 429), (7, 114, 0, 87, 437), (7, 117, 0, 22, 441), (7, 120, 0, 30, 445), (7, 123, 0, 88, 457), (7, 126, 0, 23, 461), (7, 129, 0, 24, 465), (7, 132, 1, 90, 466), (7, 138, 1, 91, 469), (7, 145, 0, 27, 476), (7, 151, 0, 3, 490), (7, 154, 0, 36, 496), (7, 157, 1, 89, 542), (7, 160, 0, 18, 545), (7, 163, 0, 15, 546), (7, 166, 0, 25, 547), (7, 170, 0, 26, 552), (7, 173, 1, 182, 557), (7, 178, 0, 32, 567), (7, 182, 0, 34, 568), (7, 185, 0, 4, 573), (7, 189, 0, 35, 581), (7, 192, 1, 92, 599), (7, 195, 0, 97, 600), (7, 202, 0, 98, 608), (7, 205, 0, 99, 616), (7, 211, 1, 100, 620), (7, 214, 1, 101, 623), (7, 217, 0, 56, 633), (7, 222, 0, 102, 646), (7, 225, 0, 105, 663), (7, 228, 0, 106, 671), (7, 232, 0, 108, 685), (7, 235, 0, 109, 691), (7, 238, 0, 110, 701), (7, 241, 0, 111, 706), (7, 244, 0, 112, 711), (7, 247, 0, 113, 716), (7, 250, 0, 7, 725), (7, 254, 0, 8, 734), (7, 263, 6, 0, 626), (7, 268, 0, 103, 650), (7, 272, 0, 57, 654), (7, 275, 1, 104, 667), (7, 278, 1, 96, 670), (7, 282, 1, 95, 675), (7, 286, 0, 107, 676), (7, 290, 1, 93, 689), (7, 293, 1, 94, 690), (7, 298, 0, 31, 696), (8, 1, 9, 0, 752), (8, 40, 0, 118, 753), (8, 43, 0, 119, 757), (8, 46, 0, 142, 761), (8, 50, 0, 141, 765), (8, 63, 1, 115, 837), (8, 82, 0, 122, 848), (8, 86, 0, 123, 860), (8, 90, 0, 124, 864), (8, 96, 0, 126, 872), (8, 99, 0, 125, 856), (8, 103, 0, 127, 868), (8, 106, 0, 128, 876), (8, 109, 0, 129, 880), (8, 112, 0, 130, 852), (8, 115, 0, 135, 959), (8, 119, 0, 137, 895), (8, 123, 0, 143, 963), (8, 126, 1, 116, 949), (8, 129, 1, 146, 952), (8, 132, 0, 136, 955), (8, 135, 0, 145, 967), (8, 142, 0, 144, 971), (8, 145, 0, 147, 945), (8, 148, 0, 148, 941), (8, 152, 1, 117, 926), (8, 155, 0, 133, 888), (8, 158, 1, 134, 892), (8, 161, 0, 139, 903), (8, 164, 1, 132, 907), (8, 167, 0, 138, 914), (8, 170, 0, 150, 922), (8, 173, 0, 155, 933), (8, 176, 0, 140, 937), (8, 179, 0, 149, 999), (8, 182, 0, 170, 1035), (8, 185, 0, 172, 1043), (8, 195, 0, 174, 1052), (8, 201, 0, 175, 1056), (8, 204, 0, 176, 1061)]
/-- fields: class, entry, the class and the field, the place of the word -/
def z_FT : List (Nat × Nat × Nat × Nat × Nat) := [(5, 9, 5, 0, 76), (5, 15, 5, 1, 77), (7, 77, 5, 1, 78), (5, 23, 5, 2, 79), (4, 59, 5, 3, 80), (5, 34, 5, 3, 81), (4, 47, 5, 4, 82), (5, 47, 5, 4, 83), (4, 68, 5, 5, 84), (5, 50, 5, 5, 85), (2, 9, 2, 0, 112), (4, 87, 2, 0, 113), (7, 257, 2, 0, 114), (2, 15, 2, 1, 115), (4, 90, 2, 1, 116), (7, 260, 2, 1, 117), (2, 18, 2, 2, 118), (3, 87, 2, 2, 119), (2, 22, 2, 3, 120), (3, 84, 2, 3, 121), (2, 25, 2, 4, 122), (4, 62, 2, 4, 123), (7, 208, 2, 4, 124), (2, 28, 2, 5, 125), (4, 65, 2, 5, 126), (3, 56, 2, 5, 127), (7, 199, 2, 5, 128), (3, 21, 3, 0, 148), (3, 9, 3, 1, 149), (3, 15, 3, 2, 150), (3, 18, 3, 3, 151), (3, 29, 3, 4, 152), (7, 135, 3, 4, 153), (3, 33, 3, 5, 154), (7, 142, 3, 5, 155), (3, 36, 3, 6, 156), (4, 31, 4, 0, 172), (4, 12, 4, 1, 173), (7, 88, 4, 1, 174), (4, 23, 4, 2, 175), (7, 92, 4, 2, 176), (4, 27, 4, 3, 177), (0, 11, 0, 0, 200), (0, 24, 0, 1, 201), (0, 20, 0, 2, 202), (7, 148, 0, 2, 203), (1, 11, 1, 0, 219), (1, 20, 1, 1, 220), (6, 9, 6, 0, 232), (6, 15, 6, 1, 233), (6, 18, 6, 2, 234), (6, 21, 6, 3, 235), (7, 221, 6, 3, 236), (7, 10, 7, 0, 246), (7, 21, 7, 1, 247), (7, 28, 7, 2, 248), (7, 37, 7, 3, 249), (7, 41, 7, 4, 250), (7, 47, 7, 5, 251), (7, 54, 7, 6, 252), (7, 61, 7, 7, 253), (7, 65, 7, 8, 254), (7, 69, 7, 9, 255), (8, 67, 8, 0, 769), (8, 7, 8, 1, 770), (8, 13, 8, 2, 771), (8, 16, 8, 3, 772), (8, 19, 8, 4, 773), (8, 22, 8, 5, 774), (8, 25, 8, 6, 775), (8, 28, 8, 7, 776), (8, 53, 8, 8, 777), (8, 31, 8, 9, 778), (8, 57, 8, 10, 779), (8, 34, 8, 11, 780), (8, 60, 8, 12, 781), (8, 189, 8, 13, 782), (8, 70, 8, 14, 783), (8, 73, 8, 15, 784), (8, 79, 8, 16, 785), (8, 76, 8, 17, 786), (8, 93, 8, 18, 787), (8, 139, 8, 19, 788), (8, 37, 8, 20, 789)]
def z_KI : List (Nat × Nat × Int32 × Nat) := [(10, 265, 1431655765, 560), (10, 266, 858993459, 561), (10, 267, 252645135, 562), (7, 231, -1000000, 684), (8, 200, -1000000, 1051)]
def z_KL : List (Nat × Nat × Int64 × Nat) := [(2, 45, -1, 369), (11, 314, 6148914691236517205, 483), (11, 316, 3689348814741910323, 484), (11, 318, 1085102592571150095, 485), (7, 296, 10, 695), (7, 301, 100, 705), (7, 303, 1000, 710), (7, 305, 10000, 715), (7, 307, 100000, 720), (8, 193, 10, 1060), (8, 198, 100, 1065), (8, 207, 1000, 1066), (8, 209, 10000, 1067), (8, 211, 100000, 1068)]
/-- classes made: class, entry, the class made, places of classLink, instantiable, initialized -/
def z_NT : List (Nat × Nat × Nat × Nat × Nat × Nat) := [(9, 7, 7, 62, 63, 50), (7, 7, 5, 70, 71, 51), (7, 16, 4, 100, 101, 52), (4, 9, 2, 106, 107, 53), (4, 18, 3, 142, 143, 54), (7, 25, 2, 187, 107, 53), (7, 32, 3, 189, 143, 54), (7, 44, 0, 191, 192, 55), (0, 9, 3, 197, 143, 54), (7, 51, 1, 211, 212, 56), (1, 9, 3, 217, 143, 54), (7, 58, 6, 226, 227, 57), (9, 10, 8, 747, 748, 58)]
def z_nf (c : Nat) : Nat := [3, 2, 6, 7, 4, 6, 4, 10, 21].getD c 0
def z_wd (i : Nat) (w : Cond) : Bool := decide (lw_tbl[i]? = some w) && goodWord w
theorem z_wd_in {i : Nat} {w : Cond} (h : z_wd i w = true) : w ∈ z_tbl := by
  obtain ⟨h1, h2⟩ := Bool.and_eq_true_iff.mp h
  exact List.mem_filter.mpr ⟨List.mem_of_getElem? (of_decide_eq_true h1), h2⟩
theorem z_good : ∀ w ∈ z_tbl, goodWord w = true := fun _ h => (List.mem_filter.mp h).2
def z_nest : Cond → Bool
  | .methodLinkNest _ _ _ _ => true
  | _ => false
def z_NW : List Cond := lw_tbl.filter z_nest
def z_wn (i : Nat) (w : Cond) : Bool := decide (lw_tbl[i]? = some w) && z_nest w
theorem z_wn_in {i : Nat} {w : Cond} (h : z_wn i w = true) : w ∈ z_NW := by
  obtain ⟨h1, h2⟩ := Bool.and_eq_true_iff.mp h
  exact List.mem_filter.mpr ⟨List.mem_of_getElem? (of_decide_eq_true h1), h2⟩
def z_okM (m : Nat) (q : Nat × Nat × Nat × Nat) : Bool :=
  z_wd q.2.1 (.initialized (z_nm m).cls) &&
  (if z_stat m then z_wd q.2.2.1 (.static (z_nm m)) else z_wd q.2.2.1 (.instanceMethod (z_nm m)) && (z_ini m || z_wd q.2.2.2 (.selects (z_nm m).cls (z_nm m) (z_nm m)))) &&
  (decide ((z_nm m).cls = z_rn (z_ci m)) && decide ((z_nm m).cls ≠ "java/lang/invoke/MethodHandle" ∧ (z_nm m).cls ≠ "java/lang/invoke/VarHandle") && plainName (z_nm m).cls && (!z_ini m || (decide ((z_nm m).name = "<init>") && decide (z_rt m = none))) && (parseMethodDescriptor (z_nm m).desc).isSome)
set_option maxRecDepth 100000 in
theorem z_MP_ok : ((List.range 183).all fun k => z_okM (k + 1) (z_MP.getD (k + 1) (0, 0, 0, 0))) = true := by decide +kernel
def z_okC (e : Nat × Nat × Nat × Nat × Nat) : Bool :=
  if e.2.2.1 = 9 then z_wd e.2.2.2.2 (.methodLink (z_rn e.1) e.2.1 objectInit)
  else if e.2.2.1 = 6 then z_wd e.2.2.2.2 (.methodLink (z_rn e.1) e.2.1 Lib.Math.max.name)
  else if e.2.2.1 = 7 then z_wd e.2.2.2.2 (.methodLink (z_rn e.1) e.2.1 Lib.Math.min.name)
  else if e.2.2.1 = 8 then z_wd e.2.2.2.2 (.methodLink (z_rn e.1) e.2.1 Lib.Math.abs.name)
  else if e.2.2.1 = 0 ∨ e.2.2.1 = 1 ∨ e.2.2.1 = 2 then z_wd e.2.2.2.2 (.methodLink (z_rn e.1) e.2.1 (z_nm e.2.2.2.1)) && decide (0 < e.2.2.2.1 ∧ e.2.2.2.1 < 184)
  else if e.2.2.1 = 4 ∨ e.2.2.1 = 5 then z_wn e.2.2.2.2 (.methodLinkNest (z_rn e.1) e.2.1 (z_nm e.2.2.2.1) RX7) && decide (0 < e.2.2.2.1 ∧ e.2.2.2.1 < 184)
  else false
set_option maxRecDepth 100000 in
theorem z_CT_ok : z_CT.all z_okC = true := by decide +kernel
def z_F (c : Nat) : u_T := (z_cl.getD c (RX0, TX0, 3)).2.1
def z_okF (e : Nat × Nat × Nat × Nat × Nat) : Bool :=
  z_wd e.2.2.2.2 (.fieldLink (z_rn e.1) e.2.1 (z_rn e.2.2.1) (z_F e.2.2.1 e.2.2.2.1).2.1 (z_F e.2.2.1 e.2.2.2.1).2.2.1) && decide (e.2.2.1 < 9 ∧ e.2.2.2.1 < z_nf e.2.2.1)
set_option maxRecDepth 100000 in
theorem z_FT_ok : z_FT.all z_okF = true := by decide +kernel
theorem z_KI_ok : (z_KI.all fun e => z_wd e.2.2.2 (.constant (z_rn e.1) e.2.1 e.2.2.1)) = true := by decide +kernel
theorem z_KL_ok : (z_KL.all fun e => z_wd e.2.2.2 (.constantLong (z_rn e.1) e.2.1 e.2.2.1)) = true := by decide +kernel
def z_okN (e : Nat × Nat × Nat × Nat × Nat × Nat) : Bool :=
  z_wd e.2.2.2.1 (.classLink (z_rn e.1) e.2.1 (z_rn e.2.2.1)) && z_wd e.2.2.2.2.1 (.instantiable (z_rn e.2.2.1) (z_nf e.2.2.1)) && z_wd e.2.2.2.2.2 (.initialized (z_rn e.2.2.1)) && decide (e.2.2.1 < 9)
theorem z_wMath : (z_wd 627 (.static Lib.Math.max.name) && z_wd 336 (.static Lib.Math.min.name) && z_wd 516 (.static Lib.Math.abs.name) && z_wd 59 (.initialized "java/lang/Math") && z_wd 628 (.code Lib.Math.max.name Lib.Math.max.code 2 (some .int)) && z_wd 337 (.code Lib.Math.min.name Lib.Math.min.code 2 (some .int)) && z_wd 517 (.code Lib.Math.abs.name Lib.Math.abs.code 1 (some .int)) && z_wd 68 (.instanceMethod objectInit) && z_wd 69 (.code objectInit ⟨#[0xb1]⟩ 1 none) && z_wd 99 (.arrayClass .int)) = true := by decide +kernel
theorem z_wOver : lw_tbl[198]? = some (.arrayOver (.object RX3)) := by decide +kernel
theorem z_NT_ok : z_NT.all z_okN = true := by decide +kernel
