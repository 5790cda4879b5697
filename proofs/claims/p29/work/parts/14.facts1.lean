abbrev mX1_meets : qY := (yX1_meets, cX1_meets, 6, (some .boolean))
abbrev mX1_occupiesIn : qY := (yX1_occupiesIn, cX1_occupiesIn, 5, (some .boolean))
abbrev mX2_addPad : qY := (yX2_addPad, cX2_addPad, 2, (some .int))
abbrev mX2_addZone : qY := (yX2_addZone, cX2_addZone, 6, (some .int))
abbrev mX2_costOfMove : qY := (yX2_costOfMove, cX2_costOfMove, 2, (some .int))
abbrev mX2_costOfRoute : qY := (yX2_costOfRoute, cX2_costOfRoute, 4, (some .int))
abbrev mX2_directionTo : qY := (yX2_directionTo, cX2_directionTo, 3, (some .int))
abbrev mX2_hasPad : qY := (yX2_hasPad, cX2_hasPad, 2, (some .boolean))
abbrev mX2_init : qY := (yX2_init, cX2_init, 2, none)
abbrev mX2_isShut : qY := (yX2_isShut, cX2_isShut, 5, (some .boolean))
abbrev mX2_isWayFromPadToPad : qY := (yX2_isWayFromPadToPad, cX2_isWayFromPadToPad, 3, (some .boolean))
abbrev mX2_neighbour : qY := (yX2_neighbour, cX2_neighbour, 4, (some .int))
abbrev mX3_init : qY := (yX3_init, cX3_init, 3, none)
abbrev mX3_isTooLoud : qY := (yX3_isTooLoud, cX3_isTooLoud, 6, (some .boolean))
abbrev mX3_meetsItself : qY := (yX3_meetsItself, cX3_meetsItself, 6, (some .boolean))
abbrev mX3_meetsOthers : qY := (yX3_meetsOthers, cX3_meetsOthers, 6, (some .boolean))
abbrev mX3_meetsTower : qY := (yX3_meetsTower, cX3_meetsTower, 4, (some .boolean))
abbrev mX3_meetsZone : qY := (yX3_meetsZone, cX3_meetsZone, 7, (some .boolean))
abbrev mX3_plan : qY := (yX3_plan, cX3_plan, 5, none)
abbrev mX3_planDay : qY := (yX3_planDay, cX3_planDay, 4, none)
abbrev mX3_plannedNoise : qY := (yX3_plannedNoise, cX3_plannedNoise, 3, (some .int))
abbrev mX3_reasonAgainst : qY := (yX3_reasonAgainst, cX3_reasonAgainst, 5, (some .int))
abbrev mX4_at : qY := (yX4_at, cX4_at, 2, (some .int))
abbrev mX4_copyFrom : qY := (yX4_copyFrom, cX4_copyFrom, 2, none)
abbrev mX4_endFrom : qY := (yX4_endFrom, cX4_endFrom, 2, (some .int))
abbrev mX4_first : qY := (yX4_first, cX4_first, 1, (some .int))
abbrev mX4_init : qY := (yX4_init, cX4_init, 1, none)
abbrev mX4_last : qY := (yX4_last, cX4_last, 1, (some .int))
abbrev mX5_fewestMoves : qY := (yX5_fewestMoves, cX5_fewestMoves, 4, (some .int))
abbrev mX5_init : qY := (yX5_init, cX5_init, 2, none)
abbrev mX5_least : qY := (yX5_least, cX5_least, 7, (some .int))
abbrev mX5_leastCharge : qY := (yX5_leastCharge, cX5_leastCharge, 4, (some .int))
abbrev mX5_spread : qY := (yX5_spread, cX5_spread, 6, (some .boolean))
abbrev mX5_spreadAll : qY := (yX5_spreadAll, cX5_spreadAll, 5, (some .boolean))
abbrev mX6_allBreaches : qY := (yX6_allBreaches, cX6_allBreaches, 3, (some .int))
abbrev mX6_chargeIfLying : qY := (yX6_chargeIfLying, cX6_chargeIfLying, 2, none)
abbrev mX6_comeIn : qY := (yX6_comeIn, cX6_comeIn, 3, none)
abbrev mX6_copyFrom : qY := (yX6_copyFrom, cX6_copyFrom, 3, none)
abbrev mX6_flightsIn : qY := (yX6_flightsIn, cX6_flightsIn, 4, (some .int))
abbrev mX6_flyingIn : qY := (yX6_flyingIn, cX6_flyingIn, 4, (some .int))
abbrev mX6_init : qY := (yX6_init, cX6_init, 3, none)
abbrev mX6_isCraft : qY := (yX6_isCraft, cX6_isCraft, 2, (some .boolean))
abbrev mX6_isToMove : qY := (yX6_isToMove, cX6_isToMove, 3, (some .boolean))
abbrev mX6_move : qY := (yX6_move, cX6_move, 6, none)
abbrev mX6_movesInto : qY := (yX6_movesInto, cX6_movesInto, 5, (some .boolean))
abbrev mX6_pairsNear : qY := (yX6_pairsNear, cX6_pairsNear, 4, (some .int))
abbrev mX6_play : qY := (yX6_play, cX6_play, 4, none)
abbrev mX6_startOrMissIfDue : qY := (yX6_startOrMissIfDue, cX6_startOrMissIfDue, 5, none)
abbrev mX7_init : qY := (yX7_init, cX7_init, 1, none)
abbrev mX7_shuts : qY := (yX7_shuts, cX7_shuts, 5, (some .boolean))
abbrev mX8_ask : qY := (yX8_ask, cX8_ask, 5, (some .int))
abbrev mX8_checkArgument : qY := (yX8_checkArgument, cX8_checkArgument, 1, none)
abbrev mX8_checkCell : qY := (yX8_checkCell, cX8_checkCell, 1, none)
abbrev mX8_checkCraft : qY := (yX8_checkCraft, cX8_checkCraft, 2, none)
abbrev mX8_checkFlight : qY := (yX8_checkFlight, cX8_checkFlight, 2, none)
abbrev mX8_checkIndex : qY := (yX8_checkIndex, cX8_checkIndex, 1, none)
abbrev mX8_checkMinutes : qY := (yX8_checkMinutes, cX8_checkMinutes, 1, none)
abbrev mX8_checkStart : qY := (yX8_checkStart, cX8_checkStart, 2, none)
abbrev mX8_checkState : qY := (yX8_checkState, cX8_checkState, 1, none)
abbrev mX8_clear : qY := (yX8_clear, cX8_clear, 2, (some .int))
abbrev mX8_cost : qY := (yX8_cost, cX8_cost, 3, (some .int))
abbrev mX8_craft : qY := (yX8_craft, cX8_craft, 6, (some .int))
abbrev mX8_digest : qY := (yX8_digest, cX8_digest, 5, (some .long))
abbrev mX8_draft : qY := (yX8_draft, cX8_draft, 2, (some .int))
abbrev mX8_fetch : qY := (yX8_fetch, cX8_fetch, 4, (some .int))
abbrev mX8_houses : qY := (yX8_houses, cX8_houses, 4, (some .int))
abbrev mX8_init : qY := (yX8_init, cX8_init, 1, none)
abbrev mX8_isCell : qY := (yX8_isCell, cX8_isCell, 1, (some .boolean))
abbrev mX8_link : qY := (yX8_link, cX8_link, 4, (some .boolean))
abbrev mX8_many : qY := (yX8_many, cX8_many, 2, (some .int))
abbrev mX8_meanCharge : qY := (yX8_meanCharge, cX8_meanCharge, 5, (some .double))
abbrev mX8_mixed : qY := (yX8_mixed, cX8_mixed, 3, (some .long))
abbrev mX8_occupies : qY := (yX8_occupies, cX8_occupies, 5, (some .int))
abbrev mX8_ofCell : qY := (yX8_ofCell, cX8_ofCell, 3, (some .int))
abbrev mX8_ofCraft : qY := (yX8_ofCraft, cX8_ofCraft, 4, (some .int))
abbrev mX8_ofFlight : qY := (yX8_ofFlight, cX8_ofFlight, 4, (some .int))
abbrev mX8_pad : qY := (yX8_pad, cX8_pad, 2, (some .int))
abbrev mX8_pass : qY := (yX8_pass, cX8_pass, 3, (some .int))
abbrev mX8_soonest : qY := (yX8_soonest, cX8_soonest, 3, (some .int))
abbrev mX8_tower : qY := (yX8_tower, cX8_tower, 4, (some .boolean))
abbrev mX8_way : qY := (yX8_way, cX8_way, 3, (some .int))
abbrev mX8_why : qY := (yX8_why, cX8_why, 3, (some .int))
abbrev mX8_wind : qY := (yX8_wind, cX8_wind, 4, (some .int))
abbrev mX8_withdraw : qY := (yX8_withdraw, cX8_withdraw, 3, (some .int))
abbrev mX8_wouldHave : qY := (yX8_wouldHave, cX8_wouldHave, 4, (some .int))
abbrev mX8_wouldNear : qY := (yX8_wouldNear, cX8_wouldNear, 2, (some .int))
abbrev mX8_zone : qY := (yX8_zone, cX8_zone, 5, (some .int))
set_option maxRecDepth 100000 in
theorem mfJ7_fill : qMf mJ7_fill 2 := ⟨qm1 37 rfl (by decide +kernel), qm1 3 (by decide +kernel) (by decide +kernel), (by decide +kernel), (by decide +kernel), (by decide +kernel)⟩
theorem msJ7_fill : Cond.static mJ7_fill.1 ∈ qTBL := qm1 36 (by decide +kernel) (by decide +kernel)
set_option maxRecDepth 100000 in
theorem mfL_below : qMf mL_below 2 := ⟨qm4 65 rfl (by decide +kernel), qm1 0 (by decide +kernel) (by decide +kernel), (by decide +kernel), (by decide +kernel), (by decide +kernel)⟩
theorem msL_below : Cond.static mL_below.1 ∈ qTBL := qm4 64 (by decide +kernel) (by decide +kernel)
set_option maxRecDepth 100000 in
theorem mfL_cell : qMf mL_cell 2 := ⟨qm4 69 rfl (by decide +kernel), qm1 0 (by decide +kernel) (by decide +kernel), (by decide +kernel), (by decide +kernel), (by decide +kernel)⟩
theorem msL_cell : Cond.static mL_cell.1 ∈ qTBL := qm4 68 (by decide +kernel) (by decide +kernel)
set_option maxRecDepth 100000 in
theorem mfL_isAsked : qMf mL_isAsked 5 := ⟨qm4 73 rfl (by decide +kernel), qm1 0 (by decide +kernel) (by decide +kernel), (by decide +kernel), (by decide +kernel), (by decide +kernel)⟩
theorem msL_isAsked : Cond.static mL_isAsked.1 ∈ qTBL := qm4 72 (by decide +kernel) (by decide +kernel)
set_option maxRecDepth 100000 in
theorem mfL_isPassed : qMf mL_isPassed 2 := ⟨qm4 99 rfl (by decide +kernel), qm1 0 (by decide +kernel) (by decide +kernel), (by decide +kernel), (by decide +kernel), (by decide +kernel)⟩
theorem msL_isPassed : Cond.static mL_isPassed.1 ∈ qTBL := qm4 98 (by decide +kernel) (by decide +kernel)
set_option maxRecDepth 100000 in
theorem mfX0_copyFrom : qMf mX0_copyFrom 1 := ⟨qm3 92 rfl (by decide +kernel), qm1 6 (by decide +kernel) (by decide +kernel), (by decide +kernel), (by decide +kernel), (by decide +kernel)⟩
theorem mvX0_copyFrom : qMv mX0_copyFrom := ⟨qm3 91 (by decide +kernel) (by decide +kernel), qm0 17 (by decide +kernel) (by decide +kernel)⟩
set_option maxRecDepth 100000 in
theorem mfX0_goDown : qMf mX0_goDown 0 := ⟨qm3 166 rfl (by decide +kernel), qm1 6 (by decide +kernel) (by decide +kernel), (by decide +kernel), (by decide +kernel), (by decide +kernel)⟩
theorem mvX0_goDown : qMv mX0_goDown := ⟨qm3 165 (by decide +kernel) (by decide +kernel), qm0 31 (by decide +kernel) (by decide +kernel)⟩
set_option maxRecDepth 100000 in
theorem mfX0_init : qMf mX0_init 0 := ⟨qm1 115 rfl (by decide +kernel), qm1 6 (by decide +kernel) (by decide +kernel), (by decide +kernel), (by decide +kernel), (by decide +kernel)⟩
theorem miX0_init : qMi mX0_init := ⟨qm1 114 (by decide +kernel) (by decide +kernel), (by decide +kernel), (by decide +kernel)⟩
set_option maxRecDepth 100000 in
theorem mfX0_landAt : qMf mX0_landAt 1 := ⟨qm3 170 rfl (by decide +kernel), qm1 6 (by decide +kernel) (by decide +kernel), (by decide +kernel), (by decide +kernel), (by decide +kernel)⟩
theorem mvX0_landAt : qMv mX0_landAt := ⟨qm3 169 (by decide +kernel) (by decide +kernel), qm0 32 (by decide +kernel) (by decide +kernel)⟩
set_option maxRecDepth 100000 in
theorem mfX0_nextCellHome : qMf mX0_nextCellHome 0 := ⟨qm3 143 rfl (by decide +kernel), qm1 6 (by decide +kernel) (by decide +kernel), (by decide +kernel), (by decide +kernel), (by decide +kernel)⟩
theorem mvX0_nextCellHome : qMv mX0_nextCellHome := ⟨qm3 142 (by decide +kernel) (by decide +kernel), qm0 28 (by decide +kernel) (by decide +kernel)⟩
set_option maxRecDepth 100000 in
theorem mfX1_copyFrom : qMf mX1_copyFrom 1 := ⟨qm3 96 rfl (by decide +kernel), qm1 7 (by decide +kernel) (by decide +kernel), (by decide +kernel), (by decide +kernel), (by decide +kernel)⟩
theorem mvX1_copyFrom : qMv mX1_copyFrom := ⟨qm3 95 (by decide +kernel) (by decide +kernel), qm0 18 (by decide +kernel) (by decide +kernel)⟩
set_option maxRecDepth 100000 in
theorem mfX1_init : qMf mX1_init 0 := ⟨qm1 184 rfl (by decide +kernel), qm1 7 (by decide +kernel) (by decide +kernel), (by decide +kernel), (by decide +kernel), (by decide +kernel)⟩
theorem miX1_init : qMi mX1_init := ⟨qm1 183 (by decide +kernel) (by decide +kernel), (by decide +kernel), (by decide +kernel)⟩
set_option maxRecDepth 100000 in
theorem mfX1_isAhead : qMf mX1_isAhead 0 := ⟨qm3 31 rfl (by decide +kernel), qm1 7 (by decide +kernel) (by decide +kernel), (by decide +kernel), (by decide +kernel), (by decide +kernel)⟩
theorem mvX1_isAhead : qMv mX1_isAhead := ⟨qm3 30 (by decide +kernel) (by decide +kernel), qm0 9 (by decide +kernel) (by decide +kernel)⟩
set_option maxRecDepth 100000 in
theorem mfX1_isCloseInTime : qMf mX1_isCloseInTime 2 := ⟨qm4 44 rfl (by decide +kernel), qm1 7 (by decide +kernel) (by decide +kernel), (by decide +kernel), (by decide +kernel), (by decide +kernel)⟩
theorem mvX1_isCloseInTime : qMv mX1_isCloseInTime := ⟨qm4 43 (by decide +kernel) (by decide +kernel), qm0 48 (by decide +kernel) (by decide +kernel)⟩
set_option maxRecDepth 100000 in
theorem mfX1_isPlannedOn : qMf mX1_isPlannedOn 1 := ⟨qm3 27 rfl (by decide +kernel), qm1 7 (by decide +kernel) (by decide +kernel), (by decide +kernel), (by decide +kernel), (by decide +kernel)⟩
theorem mvX1_isPlannedOn : qMv mX1_isPlannedOn := ⟨qm3 26 (by decide +kernel) (by decide +kernel), qm0 8 (by decide +kernel) (by decide +kernel)⟩
set_option maxRecDepth 100000 in
theorem mfX1_meets : qMf mX1_meets 2 := ⟨qm4 49 rfl (by decide +kernel), qm1 7 (by decide +kernel) (by decide +kernel), (by decide +kernel), (by decide +kernel), (by decide +kernel)⟩
theorem mvX1_meets : qMv mX1_meets := ⟨qm4 48 (by decide +kernel) (by decide +kernel), qm0 49 (by decide +kernel) (by decide +kernel)⟩
set_option maxRecDepth 100000 in
theorem mfX1_occupiesIn : qMf mX1_occupiesIn 2 := ⟨qm3 201 rfl (by decide +kernel), qm1 7 (by decide +kernel) (by decide +kernel), (by decide +kernel), (by decide +kernel), (by decide +kernel)⟩
theorem mvX1_occupiesIn : qMv mX1_occupiesIn := ⟨qm3 200 (by decide +kernel) (by decide +kernel), qm0 35 (by decide +kernel) (by decide +kernel)⟩
set_option maxRecDepth 100000 in
theorem mfX2_addPad : qMf mX2_addPad 1 := ⟨qm2 210 rfl (by decide +kernel), qm1 2 (by decide +kernel) (by decide +kernel), (by decide +kernel), (by decide +kernel), (by decide +kernel)⟩
theorem mvX2_addPad : qMv mX2_addPad := ⟨qm2 209 (by decide +kernel) (by decide +kernel), qm0 1 (by decide +kernel) (by decide +kernel)⟩
set_option maxRecDepth 100000 in
theorem mfX2_addZone : qMf mX2_addZone 4 := ⟨qm2 218 rfl (by decide +kernel), qm1 2 (by decide +kernel) (by decide +kernel), (by decide +kernel), (by decide +kernel), (by decide +kernel)⟩
theorem mvX2_addZone : qMv mX2_addZone := ⟨qm2 217 (by decide +kernel) (by decide +kernel), qm0 2 (by decide +kernel) (by decide +kernel)⟩
set_option maxRecDepth 100000 in
theorem mfX2_costOfMove : qMf mX2_costOfMove 1 := ⟨qm3 159 rfl (by decide +kernel), qm1 2 (by decide +kernel) (by decide +kernel), (by decide +kernel), (by decide +kernel), (by decide +kernel)⟩
theorem mvX2_costOfMove : qMv mX2_costOfMove := ⟨qm3 158 (by decide +kernel) (by decide +kernel), qm0 30 (by decide +kernel) (by decide +kernel)⟩
set_option maxRecDepth 100000 in
theorem mfX2_costOfRoute : qMf mX2_costOfRoute 1 := ⟨qm4 57 rfl (by decide +kernel), qm1 2 (by decide +kernel) (by decide +kernel), (by decide +kernel), (by decide +kernel), (by decide +kernel)⟩
theorem mvX2_costOfRoute : qMv mX2_costOfRoute := ⟨qm4 56 (by decide +kernel) (by decide +kernel), qm0 51 (by decide +kernel) (by decide +kernel)⟩
set_option maxRecDepth 100000 in
theorem mfX2_directionTo : qMf mX2_directionTo 2 := ⟨qm3 151 rfl (by decide +kernel), qm1 2 (by decide +kernel) (by decide +kernel), (by decide +kernel), (by decide +kernel), (by decide +kernel)⟩
theorem msX2_directionTo : Cond.static mX2_directionTo.1 ∈ qTBL := qm3 150 (by decide +kernel) (by decide +kernel)
set_option maxRecDepth 100000 in
theorem mfX2_hasPad : qMf mX2_hasPad 1 := ⟨qm4 12 rfl (by decide +kernel), qm1 2 (by decide +kernel) (by decide +kernel), (by decide +kernel), (by decide +kernel), (by decide +kernel)⟩
theorem mvX2_hasPad : qMv mX2_hasPad := ⟨qm4 11 (by decide +kernel) (by decide +kernel), qm0 42 (by decide +kernel) (by decide +kernel)⟩
set_option maxRecDepth 100000 in
theorem mfX2_init : qMf mX2_init 0 := ⟨qm1 31 rfl (by decide +kernel), qm1 2 (by decide +kernel) (by decide +kernel), (by decide +kernel), (by decide +kernel), (by decide +kernel)⟩
theorem miX2_init : qMi mX2_init := ⟨qm1 30 (by decide +kernel) (by decide +kernel), (by decide +kernel), (by decide +kernel)⟩
set_option maxRecDepth 100000 in
theorem mfX2_isShut : qMf mX2_isShut 3 := ⟨qm3 127 rfl (by decide +kernel), qm1 2 (by decide +kernel) (by decide +kernel), (by decide +kernel), (by decide +kernel), (by decide +kernel)⟩
theorem mvX2_isShut : qMv mX2_isShut := ⟨qm3 126 (by decide +kernel) (by decide +kernel), qm0 24 (by decide +kernel) (by decide +kernel)⟩
set_option maxRecDepth 100000 in
theorem mfX2_isWayFromPadToPad : qMf mX2_isWayFromPadToPad 1 := ⟨qm4 7 rfl (by decide +kernel), qm1 2 (by decide +kernel) (by decide +kernel), (by decide +kernel), (by decide +kernel), (by decide +kernel)⟩
theorem mvX2_isWayFromPadToPad : qMv mX2_isWayFromPadToPad := ⟨qm4 6 (by decide +kernel) (by decide +kernel), qm0 41 (by decide +kernel) (by decide +kernel)⟩
set_option maxRecDepth 100000 in
theorem mfX2_neighbour : qMf mX2_neighbour 2 := ⟨qm3 155 rfl (by decide +kernel), qm1 2 (by decide +kernel) (by decide +kernel), (by decide +kernel), (by decide +kernel), (by decide +kernel)⟩
theorem msX2_neighbour : Cond.static mX2_neighbour.1 ∈ qTBL := qm3 154 (by decide +kernel) (by decide +kernel)
set_option maxRecDepth 100000 in
theorem mfX3_init : qMf mX3_init 2 := ⟨qm2 33 rfl (by decide +kernel), qm1 9 (by decide +kernel) (by decide +kernel), (by decide +kernel), (by decide +kernel), (by decide +kernel)⟩
theorem miX3_init : qMi mX3_init := ⟨qm2 32 (by decide +kernel) (by decide +kernel), (by decide +kernel), (by decide +kernel)⟩
set_option maxRecDepth 100000 in
theorem mfX3_isTooLoud : qMf mX3_isTooLoud 3 := ⟨qm4 62 rfl (by decide +kernel), qm1 9 (by decide +kernel) (by decide +kernel), (by decide +kernel), (by decide +kernel), (by decide +kernel)⟩
theorem mvX3_isTooLoud : qMv mX3_isTooLoud := ⟨qm4 61 (by decide +kernel) (by decide +kernel), qm0 52 (by decide +kernel) (by decide +kernel)⟩
set_option maxRecDepth 100000 in
theorem mfX3_meetsItself : qMf mX3_meetsItself 3 := ⟨qm4 53 rfl (by decide +kernel), qm1 9 (by decide +kernel) (by decide +kernel), (by decide +kernel), (by decide +kernel), (by decide +kernel)⟩
theorem mvX3_meetsItself : qMv mX3_meetsItself := ⟨qm4 52 (by decide +kernel) (by decide +kernel), qm0 50 (by decide +kernel) (by decide +kernel)⟩
set_option maxRecDepth 100000 in
theorem mfX3_meetsOthers : qMf mX3_meetsOthers 3 := ⟨qm4 39 rfl (by decide +kernel), qm1 9 (by decide +kernel) (by decide +kernel), (by decide +kernel), (by decide +kernel), (by decide +kernel)⟩
theorem mvX3_meetsOthers : qMv mX3_meetsOthers := ⟨qm4 38 (by decide +kernel) (by decide +kernel), qm0 47 (by decide +kernel) (by decide +kernel)⟩
set_option maxRecDepth 100000 in
theorem mfX3_meetsTower : qMf mX3_meetsTower 1 := ⟨qm4 30 rfl (by decide +kernel), qm1 9 (by decide +kernel) (by decide +kernel), (by decide +kernel), (by decide +kernel), (by decide +kernel)⟩
theorem mvX3_meetsTower : qMv mX3_meetsTower := ⟨qm4 29 (by decide +kernel) (by decide +kernel), qm0 45 (by decide +kernel) (by decide +kernel)⟩
set_option maxRecDepth 100000 in
theorem mfX3_meetsZone : qMf mX3_meetsZone 3 := ⟨qm4 34 rfl (by decide +kernel), qm1 9 (by decide +kernel) (by decide +kernel), (by decide +kernel), (by decide +kernel), (by decide +kernel)⟩
theorem mvX3_meetsZone : qMv mX3_meetsZone := ⟨qm4 33 (by decide +kernel) (by decide +kernel), qm0 46 (by decide +kernel) (by decide +kernel)⟩
set_option maxRecDepth 100000 in
theorem mfX3_plan : qMf mX3_plan 2 := ⟨qm3 36 rfl (by decide +kernel), qm1 9 (by decide +kernel) (by decide +kernel), (by decide +kernel), (by decide +kernel), (by decide +kernel)⟩
theorem mvX3_plan : qMv mX3_plan := ⟨qm3 35 (by decide +kernel) (by decide +kernel), qm0 10 (by decide +kernel) (by decide +kernel)⟩
set_option maxRecDepth 100000 in
theorem mfX3_planDay : qMf mX3_planDay 1 := ⟨qm3 22 rfl (by decide +kernel), qm1 9 (by decide +kernel) (by decide +kernel), (by decide +kernel), (by decide +kernel), (by decide +kernel)⟩
theorem mvX3_planDay : qMv mX3_planDay := ⟨qm3 21 (by decide +kernel) (by decide +kernel), qm0 7 (by decide +kernel) (by decide +kernel)⟩
set_option maxRecDepth 100000 in
theorem mfX3_plannedNoise : qMf mX3_plannedNoise 2 := ⟨qm3 18 rfl (by decide +kernel), qm1 9 (by decide +kernel) (by decide +kernel), (by decide +kernel), (by decide +kernel), (by decide +kernel)⟩
theorem mvX3_plannedNoise : qMv mX3_plannedNoise := ⟨qm3 17 (by decide +kernel) (by decide +kernel), qm0 6 (by decide +kernel) (by decide +kernel)⟩
set_option maxRecDepth 100000 in
theorem mfX3_reasonAgainst : qMf mX3_reasonAgainst 3 := ⟨qm4 26 rfl (by decide +kernel), qm1 9 (by decide +kernel) (by decide +kernel), (by decide +kernel), (by decide +kernel), (by decide +kernel)⟩
theorem mvX3_reasonAgainst : qMv mX3_reasonAgainst := ⟨qm4 25 (by decide +kernel) (by decide +kernel), qm0 44 (by decide +kernel) (by decide +kernel)⟩
set_option maxRecDepth 100000 in
theorem mfX4_at : qMf mX4_at 1 := ⟨qm3 40 rfl (by decide +kernel), qm1 8 (by decide +kernel) (by decide +kernel), (by decide +kernel), (by decide +kernel), (by decide +kernel)⟩
theorem mvX4_at : qMv mX4_at := ⟨qm3 39 (by decide +kernel) (by decide +kernel), qm0 11 (by decide +kernel) (by decide +kernel)⟩
set_option maxRecDepth 100000 in
theorem mfX4_copyFrom : qMf mX4_copyFrom 1 := ⟨qm3 100 rfl (by decide +kernel), qm1 8 (by decide +kernel) (by decide +kernel), (by decide +kernel), (by decide +kernel), (by decide +kernel)⟩
theorem mvX4_copyFrom : qMv mX4_copyFrom := ⟨qm3 99 (by decide +kernel) (by decide +kernel), qm0 19 (by decide +kernel) (by decide +kernel)⟩
set_option maxRecDepth 100000 in
theorem mfX4_endFrom : qMf mX4_endFrom 1 := ⟨qm3 59 rfl (by decide +kernel), qm1 8 (by decide +kernel) (by decide +kernel), (by decide +kernel), (by decide +kernel), (by decide +kernel)⟩
theorem mvX4_endFrom : qMv mX4_endFrom := ⟨qm3 58 (by decide +kernel) (by decide +kernel), qm0 13 (by decide +kernel) (by decide +kernel)⟩
set_option maxRecDepth 100000 in
theorem mfX4_first : qMf mX4_first 0 := ⟨qm3 118 rfl (by decide +kernel), qm1 8 (by decide +kernel) (by decide +kernel), (by decide +kernel), (by decide +kernel), (by decide +kernel)⟩
theorem mvX4_first : qMv mX4_first := ⟨qm3 117 (by decide +kernel) (by decide +kernel), qm0 22 (by decide +kernel) (by decide +kernel)⟩
set_option maxRecDepth 100000 in
theorem mfX4_init : qMf mX4_init 0 := ⟨qm1 190 rfl (by decide +kernel), qm1 8 (by decide +kernel) (by decide +kernel), (by decide +kernel), (by decide +kernel), (by decide +kernel)⟩
