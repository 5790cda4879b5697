theorem miX4_init : qMi mX4_init := ⟨qm1 189 (by decide +kernel) (by decide +kernel), (by decide +kernel), (by decide +kernel)⟩
set_option maxRecDepth 100000 in
theorem mfX4_last : qMf mX4_last 0 := ⟨qm4 16 rfl (by decide +kernel), qm1 8 (by decide +kernel) (by decide +kernel), (by decide +kernel), (by decide +kernel), (by decide +kernel)⟩
theorem mvX4_last : qMv mX4_last := ⟨qm4 15 (by decide +kernel) (by decide +kernel), qm0 43 (by decide +kernel) (by decide +kernel)⟩
set_option maxRecDepth 100000 in
theorem mfX5_fewestMoves : qMf mX5_fewestMoves 3 := ⟨qm3 211 rfl (by decide +kernel), qm1 10 (by decide +kernel) (by decide +kernel), (by decide +kernel), (by decide +kernel), (by decide +kernel)⟩
theorem mvX5_fewestMoves : qMv mX5_fewestMoves := ⟨qm3 210 (by decide +kernel) (by decide +kernel), qm0 36 (by decide +kernel) (by decide +kernel)⟩
set_option maxRecDepth 100000 in
theorem mfX5_init : qMf mX5_init 1 := ⟨qm2 49 rfl (by decide +kernel), qm1 10 (by decide +kernel) (by decide +kernel), (by decide +kernel), (by decide +kernel), (by decide +kernel)⟩
theorem miX5_init : qMi mX5_init := ⟨qm2 48 (by decide +kernel) (by decide +kernel), (by decide +kernel), (by decide +kernel)⟩
set_option maxRecDepth 100000 in
theorem mfX5_least : qMf mX5_least 4 := ⟨qm3 215 rfl (by decide +kernel), qm1 10 (by decide +kernel) (by decide +kernel), (by decide +kernel), (by decide +kernel), (by decide +kernel)⟩
theorem mvX5_least : qMv mX5_least := ⟨qm3 214 (by decide +kernel) (by decide +kernel), qm0 37 (by decide +kernel) (by decide +kernel)⟩
set_option maxRecDepth 100000 in
theorem mfX5_leastCharge : qMf mX5_leastCharge 3 := ⟨qm3 237 rfl (by decide +kernel), qm1 10 (by decide +kernel) (by decide +kernel), (by decide +kernel), (by decide +kernel), (by decide +kernel)⟩
theorem mvX5_leastCharge : qMv mX5_leastCharge := ⟨qm3 236 (by decide +kernel) (by decide +kernel), qm0 40 (by decide +kernel) (by decide +kernel)⟩
set_option maxRecDepth 100000 in
theorem mfX5_spread : qMf mX5_spread 3 := ⟨qm3 227 rfl (by decide +kernel), qm1 10 (by decide +kernel) (by decide +kernel), (by decide +kernel), (by decide +kernel), (by decide +kernel)⟩
theorem mvX5_spread : qMv mX5_spread := ⟨qm3 226 (by decide +kernel) (by decide +kernel), qm0 39 (by decide +kernel) (by decide +kernel)⟩
set_option maxRecDepth 100000 in
theorem mfX5_spreadAll : qMf mX5_spreadAll 1 := ⟨qm3 223 rfl (by decide +kernel), qm1 10 (by decide +kernel) (by decide +kernel), (by decide +kernel), (by decide +kernel), (by decide +kernel)⟩
theorem mvX5_spreadAll : qMv mX5_spreadAll := ⟨qm3 222 (by decide +kernel) (by decide +kernel), qm0 38 (by decide +kernel) (by decide +kernel)⟩
set_option maxRecDepth 100000 in
theorem mfX6_allBreaches : qMf mX6_allBreaches 0 := ⟨qm3 72 rfl (by decide +kernel), qm1 5 (by decide +kernel) (by decide +kernel), (by decide +kernel), (by decide +kernel), (by decide +kernel)⟩
theorem mvX6_allBreaches : qMv mX6_allBreaches := ⟨qm3 71 (by decide +kernel) (by decide +kernel), qm0 15 (by decide +kernel) (by decide +kernel)⟩
set_option maxRecDepth 100000 in
theorem mfX6_chargeIfLying : qMf mX6_chargeIfLying 1 := ⟨qm3 178 rfl (by decide +kernel), qm1 5 (by decide +kernel) (by decide +kernel), (by decide +kernel), (by decide +kernel), (by decide +kernel)⟩
theorem mvX6_chargeIfLying : qMv mX6_chargeIfLying := ⟨qm3 177 (by decide +kernel) (by decide +kernel), qm0 34 (by decide +kernel) (by decide +kernel)⟩
set_option maxRecDepth 100000 in
theorem mfX6_comeIn : qMf mX6_comeIn 1 := ⟨qm3 122 rfl (by decide +kernel), qm1 5 (by decide +kernel) (by decide +kernel), (by decide +kernel), (by decide +kernel), (by decide +kernel)⟩
theorem mvX6_comeIn : qMv mX6_comeIn := ⟨qm3 121 (by decide +kernel) (by decide +kernel), qm0 23 (by decide +kernel) (by decide +kernel)⟩
set_option maxRecDepth 100000 in
theorem mfX6_copyFrom : qMf mX6_copyFrom 1 := ⟨qm3 88 rfl (by decide +kernel), qm1 5 (by decide +kernel) (by decide +kernel), (by decide +kernel), (by decide +kernel), (by decide +kernel)⟩
theorem mvX6_copyFrom : qMv mX6_copyFrom := ⟨qm3 87 (by decide +kernel) (by decide +kernel), qm0 16 (by decide +kernel) (by decide +kernel)⟩
set_option maxRecDepth 100000 in
theorem mfX6_flightsIn : qMf mX6_flightsIn 1 := ⟨qm3 68 rfl (by decide +kernel), qm1 5 (by decide +kernel) (by decide +kernel), (by decide +kernel), (by decide +kernel), (by decide +kernel)⟩
theorem mvX6_flightsIn : qMv mX6_flightsIn := ⟨qm3 67 (by decide +kernel) (by decide +kernel), qm0 14 (by decide +kernel) (by decide +kernel)⟩
set_option maxRecDepth 100000 in
theorem mfX6_flyingIn : qMf mX6_flyingIn 1 := ⟨qm3 45 rfl (by decide +kernel), qm1 5 (by decide +kernel) (by decide +kernel), (by decide +kernel), (by decide +kernel), (by decide +kernel)⟩
theorem mvX6_flyingIn : qMv mX6_flyingIn := ⟨qm3 44 (by decide +kernel) (by decide +kernel), qm0 12 (by decide +kernel) (by decide +kernel)⟩
set_option maxRecDepth 100000 in
theorem mfX6_init : qMf mX6_init 1 := ⟨qm1 106 rfl (by decide +kernel), qm1 5 (by decide +kernel) (by decide +kernel), (by decide +kernel), (by decide +kernel), (by decide +kernel)⟩
theorem miX6_init : qMi mX6_init := ⟨qm1 105 (by decide +kernel) (by decide +kernel), (by decide +kernel), (by decide +kernel)⟩
set_option maxRecDepth 100000 in
theorem mfX6_isCraft : qMf mX6_isCraft 1 := ⟨qm2 238 rfl (by decide +kernel), qm1 5 (by decide +kernel) (by decide +kernel), (by decide +kernel), (by decide +kernel), (by decide +kernel)⟩
theorem mvX6_isCraft : qMv mX6_isCraft := ⟨qm2 237 (by decide +kernel) (by decide +kernel), qm0 4 (by decide +kernel) (by decide +kernel)⟩
set_option maxRecDepth 100000 in
theorem mfX6_isToMove : qMf mX6_isToMove 1 := ⟨qm3 135 rfl (by decide +kernel), qm1 5 (by decide +kernel) (by decide +kernel), (by decide +kernel), (by decide +kernel), (by decide +kernel)⟩
theorem mvX6_isToMove : qMv mX6_isToMove := ⟨qm3 134 (by decide +kernel) (by decide +kernel), qm0 26 (by decide +kernel) (by decide +kernel)⟩
set_option maxRecDepth 100000 in
theorem mfX6_move : qMf mX6_move 1 := ⟨qm3 139 rfl (by decide +kernel), qm1 5 (by decide +kernel) (by decide +kernel), (by decide +kernel), (by decide +kernel), (by decide +kernel)⟩
theorem mvX6_move : qMv mX6_move := ⟨qm3 138 (by decide +kernel) (by decide +kernel), qm0 27 (by decide +kernel) (by decide +kernel)⟩
set_option maxRecDepth 100000 in
theorem mfX6_movesInto : qMf mX6_movesInto 3 := ⟨qm3 148 rfl (by decide +kernel), qm1 5 (by decide +kernel) (by decide +kernel), (by decide +kernel), (by decide +kernel), (by decide +kernel)⟩
theorem mvX6_movesInto : qMv mX6_movesInto := ⟨qm3 147 (by decide +kernel) (by decide +kernel), qm0 29 (by decide +kernel) (by decide +kernel)⟩
set_option maxRecDepth 100000 in
theorem mfX6_pairsNear : qMf mX6_pairsNear 0 := ⟨qm3 174 rfl (by decide +kernel), qm1 5 (by decide +kernel) (by decide +kernel), (by decide +kernel), (by decide +kernel), (by decide +kernel)⟩
theorem mvX6_pairsNear : qMv mX6_pairsNear := ⟨qm3 173 (by decide +kernel) (by decide +kernel), qm0 33 (by decide +kernel) (by decide +kernel)⟩
set_option maxRecDepth 100000 in
theorem mfX6_play : qMf mX6_play 1 := ⟨qm3 108 rfl (by decide +kernel), qm1 5 (by decide +kernel) (by decide +kernel), (by decide +kernel), (by decide +kernel), (by decide +kernel)⟩
theorem mvX6_play : qMv mX6_play := ⟨qm3 107 (by decide +kernel) (by decide +kernel), qm0 20 (by decide +kernel) (by decide +kernel)⟩
set_option maxRecDepth 100000 in
theorem mfX6_startOrMissIfDue : qMf mX6_startOrMissIfDue 1 := ⟨qm3 113 rfl (by decide +kernel), qm1 5 (by decide +kernel) (by decide +kernel), (by decide +kernel), (by decide +kernel), (by decide +kernel)⟩
theorem mvX6_startOrMissIfDue : qMv mX6_startOrMissIfDue := ⟨qm3 112 (by decide +kernel) (by decide +kernel), qm0 21 (by decide +kernel) (by decide +kernel)⟩
set_option maxRecDepth 100000 in
theorem mfX7_init : qMf mX7_init 0 := ⟨qm1 41 rfl (by decide +kernel), qm1 4 (by decide +kernel) (by decide +kernel), (by decide +kernel), (by decide +kernel), (by decide +kernel)⟩
theorem miX7_init : qMi mX7_init := ⟨qm1 40 (by decide +kernel) (by decide +kernel), (by decide +kernel), (by decide +kernel)⟩
set_option maxRecDepth 100000 in
theorem mfX7_shuts : qMf mX7_shuts 3 := ⟨qm3 131 rfl (by decide +kernel), qm1 4 (by decide +kernel) (by decide +kernel), (by decide +kernel), (by decide +kernel), (by decide +kernel)⟩
theorem mvX7_shuts : qMv mX7_shuts := ⟨qm3 130 (by decide +kernel) (by decide +kernel), qm0 25 (by decide +kernel) (by decide +kernel)⟩
set_option maxRecDepth 100000 in
theorem mfX8_ask : qMf mX8_ask 2 := ⟨qm4 94 rfl (by decide +kernel), qm1 1 (by decide +kernel) (by decide +kernel), (by decide +kernel), (by decide +kernel), (by decide +kernel)⟩
theorem mvX8_ask : qMv mX8_ask := ⟨qm4 92 (by decide +kernel) (by decide +kernel), qm4 93 (by decide +kernel) (by decide +kernel)⟩
set_option maxRecDepth 100000 in
theorem mfX8_checkArgument : qMf mX8_checkArgument 1 := ⟨qm2 163 rfl (by decide +kernel), qm1 1 (by decide +kernel) (by decide +kernel), (by decide +kernel), (by decide +kernel), (by decide +kernel)⟩
theorem msX8_checkArgument : Cond.static mX8_checkArgument.1 ∈ qTBL := qm2 162 (by decide +kernel) (by decide +kernel)
set_option maxRecDepth 100000 in
theorem mfX8_checkCell : qMf mX8_checkCell 1 := ⟨qm2 86 rfl (by decide +kernel), qm1 1 (by decide +kernel) (by decide +kernel), (by decide +kernel), (by decide +kernel), (by decide +kernel)⟩
theorem msX8_checkCell : Cond.static mX8_checkCell.1 ∈ qTBL := qm2 85 (by decide +kernel) (by decide +kernel)
set_option maxRecDepth 100000 in
theorem mfX8_checkCraft : qMf mX8_checkCraft 1 := ⟨qm2 234 rfl (by decide +kernel), qm1 1 (by decide +kernel) (by decide +kernel), (by decide +kernel), (by decide +kernel), (by decide +kernel)⟩
theorem mvX8_checkCraft : qMv mX8_checkCraft := ⟨qm2 233 (by decide +kernel) (by decide +kernel), qm0 3 (by decide +kernel) (by decide +kernel)⟩
set_option maxRecDepth 100000 in
theorem mfX8_checkFlight : qMf mX8_checkFlight 1 := ⟨qm3 10 rfl (by decide +kernel), qm1 1 (by decide +kernel) (by decide +kernel), (by decide +kernel), (by decide +kernel), (by decide +kernel)⟩
theorem mvX8_checkFlight : qMv mX8_checkFlight := ⟨qm3 9 (by decide +kernel) (by decide +kernel), qm0 5 (by decide +kernel) (by decide +kernel)⟩
set_option maxRecDepth 100000 in
theorem mfX8_checkIndex : qMf mX8_checkIndex 1 := ⟨qm2 92 rfl (by decide +kernel), qm1 1 (by decide +kernel) (by decide +kernel), (by decide +kernel), (by decide +kernel), (by decide +kernel)⟩
theorem msX8_checkIndex : Cond.static mX8_checkIndex.1 ∈ qTBL := qm2 91 (by decide +kernel) (by decide +kernel)
set_option maxRecDepth 100000 in
theorem mfX8_checkMinutes : qMf mX8_checkMinutes 1 := ⟨qm3 84 rfl (by decide +kernel), qm1 1 (by decide +kernel) (by decide +kernel), (by decide +kernel), (by decide +kernel), (by decide +kernel)⟩
theorem msX8_checkMinutes : Cond.static mX8_checkMinutes.1 ∈ qTBL := qm3 83 (by decide +kernel) (by decide +kernel)
set_option maxRecDepth 100000 in
theorem mfX8_checkStart : qMf mX8_checkStart 1 := ⟨qm4 89 rfl (by decide +kernel), qm1 1 (by decide +kernel) (by decide +kernel), (by decide +kernel), (by decide +kernel), (by decide +kernel)⟩
theorem mvX8_checkStart : qMv mX8_checkStart := ⟨qm4 88 (by decide +kernel) (by decide +kernel), qm0 53 (by decide +kernel) (by decide +kernel)⟩
set_option maxRecDepth 100000 in
theorem mfX8_checkState : qMf mX8_checkState 1 := ⟨qm2 186 rfl (by decide +kernel), qm1 1 (by decide +kernel) (by decide +kernel), (by decide +kernel), (by decide +kernel), (by decide +kernel)⟩
theorem msX8_checkState : Cond.static mX8_checkState.1 ∈ qTBL := qm2 185 (by decide +kernel) (by decide +kernel)
set_option maxRecDepth 100000 in
theorem mfX8_clear : qMf mX8_clear 0 := ⟨qm4 77 rfl (by decide +kernel), qm1 1 (by decide +kernel) (by decide +kernel), (by decide +kernel), (by decide +kernel), (by decide +kernel)⟩
theorem mvX8_clear : qMv mX8_clear := ⟨qm4 75 (by decide +kernel) (by decide +kernel), qm4 76 (by decide +kernel) (by decide +kernel)⟩
set_option maxRecDepth 100000 in
theorem mfX8_cost : qMf mX8_cost 2 := ⟨qm3 233 rfl (by decide +kernel), qm1 1 (by decide +kernel) (by decide +kernel), (by decide +kernel), (by decide +kernel), (by decide +kernel)⟩
theorem mvX8_cost : qMv mX8_cost := ⟨qm3 231 (by decide +kernel) (by decide +kernel), qm3 232 (by decide +kernel) (by decide +kernel)⟩
set_option maxRecDepth 100000 in
theorem mfX8_craft : qMf mX8_craft 4 := ⟨qm2 226 rfl (by decide +kernel), qm1 1 (by decide +kernel) (by decide +kernel), (by decide +kernel), (by decide +kernel), (by decide +kernel)⟩
theorem mvX8_craft : qMv mX8_craft := ⟨qm2 224 (by decide +kernel) (by decide +kernel), qm2 225 (by decide +kernel) (by decide +kernel)⟩
set_option maxRecDepth 100000 in
theorem mfX8_digest : qMf mX8_digest 0 := ⟨qm3 185 rfl (by decide +kernel), qm1 1 (by decide +kernel) (by decide +kernel), (by decide +kernel), (by decide +kernel), (by decide +kernel)⟩
theorem mvX8_digest : qMv mX8_digest := ⟨qm3 183 (by decide +kernel) (by decide +kernel), qm3 184 (by decide +kernel) (by decide +kernel)⟩
set_option maxRecDepth 100000 in
theorem mfX8_draft : qMf mX8_draft 1 := ⟨qm4 81 rfl (by decide +kernel), qm1 1 (by decide +kernel) (by decide +kernel), (by decide +kernel), (by decide +kernel), (by decide +kernel)⟩
theorem mvX8_draft : qMv mX8_draft := ⟨qm4 79 (by decide +kernel) (by decide +kernel), qm4 80 (by decide +kernel) (by decide +kernel)⟩
set_option maxRecDepth 100000 in
theorem mfX8_fetch : qMf mX8_fetch 1 := ⟨qm3 2 rfl (by decide +kernel), qm1 1 (by decide +kernel) (by decide +kernel), (by decide +kernel), (by decide +kernel), (by decide +kernel)⟩
theorem mvX8_fetch : qMv mX8_fetch := ⟨qm3 0 (by decide +kernel) (by decide +kernel), qm3 1 (by decide +kernel) (by decide +kernel)⟩
set_option maxRecDepth 100000 in
theorem mfX8_houses : qMf mX8_houses 2 := ⟨qm2 83 rfl (by decide +kernel), qm1 1 (by decide +kernel) (by decide +kernel), (by decide +kernel), (by decide +kernel), (by decide +kernel)⟩
theorem mvX8_houses : qMv mX8_houses := ⟨qm2 81 (by decide +kernel) (by decide +kernel), qm2 82 (by decide +kernel) (by decide +kernel)⟩
set_option maxRecDepth 100000 in
theorem mfX8_init : qMf mX8_init 0 := ⟨qm1 23 rfl (by decide +kernel), qm1 1 (by decide +kernel) (by decide +kernel), (by decide +kernel), (by decide +kernel), (by decide +kernel)⟩
theorem miX8_init : qMi mX8_init := ⟨qm1 22 (by decide +kernel) (by decide +kernel), (by decide +kernel), (by decide +kernel)⟩
set_option maxRecDepth 100000 in
theorem mfX8_isCell : qMf mX8_isCell 1 := ⟨qm2 89 rfl (by decide +kernel), qm1 1 (by decide +kernel) (by decide +kernel), (by decide +kernel), (by decide +kernel), (by decide +kernel)⟩
theorem msX8_isCell : Cond.static mX8_isCell.1 ∈ qTBL := qm2 88 (by decide +kernel) (by decide +kernel)
set_option maxRecDepth 100000 in
theorem mfX8_link : qMf mX8_link 2 := ⟨qm2 230 rfl (by decide +kernel), qm1 1 (by decide +kernel) (by decide +kernel), (by decide +kernel), (by decide +kernel), (by decide +kernel)⟩
theorem mvX8_link : qMv mX8_link := ⟨qm2 228 (by decide +kernel) (by decide +kernel), qm2 229 (by decide +kernel) (by decide +kernel)⟩
set_option maxRecDepth 100000 in
theorem mfX8_many : qMf mX8_many 1 := ⟨qm3 64 rfl (by decide +kernel), qm1 1 (by decide +kernel) (by decide +kernel), (by decide +kernel), (by decide +kernel), (by decide +kernel)⟩
theorem mvX8_many : qMv mX8_many := ⟨qm3 62 (by decide +kernel) (by decide +kernel), qm3 63 (by decide +kernel) (by decide +kernel)⟩
set_option maxRecDepth 100000 in
theorem mfX8_meanCharge : qMf mX8_meanCharge 0 := ⟨qm3 77 rfl (by decide +kernel), qm1 1 (by decide +kernel) (by decide +kernel), (by decide +kernel), (by decide +kernel), (by decide +kernel)⟩
theorem mvX8_meanCharge : qMv mX8_meanCharge := ⟨qm3 75 (by decide +kernel) (by decide +kernel), qm3 76 (by decide +kernel) (by decide +kernel)⟩
set_option maxRecDepth 100000 in
theorem mfX8_mixed : qMf mX8_mixed 2 := ⟨qm3 190 rfl (by decide +kernel), qm1 1 (by decide +kernel) (by decide +kernel), (by decide +kernel), (by decide +kernel), (by decide +kernel)⟩
theorem msX8_mixed : Cond.static mX8_mixed.1 ∈ qTBL := qm3 189 (by decide +kernel) (by decide +kernel)
set_option maxRecDepth 100000 in
theorem mfX8_occupies : qMf mX8_occupies 2 := ⟨qm3 196 rfl (by decide +kernel), qm1 1 (by decide +kernel) (by decide +kernel), (by decide +kernel), (by decide +kernel), (by decide +kernel)⟩
theorem mvX8_occupies : qMv mX8_occupies := ⟨qm3 194 (by decide +kernel) (by decide +kernel), qm3 195 (by decide +kernel) (by decide +kernel)⟩
set_option maxRecDepth 100000 in
theorem mfX8_ofCell : qMf mX8_ofCell 2 := ⟨qm3 14 rfl (by decide +kernel), qm1 1 (by decide +kernel) (by decide +kernel), (by decide +kernel), (by decide +kernel), (by decide +kernel)⟩
theorem mvX8_ofCell : qMv mX8_ofCell := ⟨qm3 12 (by decide +kernel) (by decide +kernel), qm3 13 (by decide +kernel) (by decide +kernel)⟩
set_option maxRecDepth 100000 in
theorem mfX8_ofCraft : qMf mX8_ofCraft 2 := ⟨qm3 50 rfl (by decide +kernel), qm1 1 (by decide +kernel) (by decide +kernel), (by decide +kernel), (by decide +kernel), (by decide +kernel)⟩
theorem mvX8_ofCraft : qMv mX8_ofCraft := ⟨qm3 48 (by decide +kernel) (by decide +kernel), qm3 49 (by decide +kernel) (by decide +kernel)⟩
set_option maxRecDepth 100000 in
theorem mfX8_ofFlight : qMf mX8_ofFlight 2 := ⟨qm3 55 rfl (by decide +kernel), qm1 1 (by decide +kernel) (by decide +kernel), (by decide +kernel), (by decide +kernel), (by decide +kernel)⟩
theorem mvX8_ofFlight : qMv mX8_ofFlight := ⟨qm3 53 (by decide +kernel) (by decide +kernel), qm3 54 (by decide +kernel) (by decide +kernel)⟩
set_option maxRecDepth 100000 in
theorem mfX8_pad : qMf mX8_pad 1 := ⟨qm2 206 rfl (by decide +kernel), qm1 1 (by decide +kernel) (by decide +kernel), (by decide +kernel), (by decide +kernel), (by decide +kernel)⟩
theorem mvX8_pad : qMv mX8_pad := ⟨qm2 204 (by decide +kernel) (by decide +kernel), qm2 205 (by decide +kernel) (by decide +kernel)⟩
set_option maxRecDepth 100000 in
theorem mfX8_pass : qMf mX8_pass 1 := ⟨qm4 106 rfl (by decide +kernel), qm1 1 (by decide +kernel) (by decide +kernel), (by decide +kernel), (by decide +kernel), (by decide +kernel)⟩
theorem mvX8_pass : qMv mX8_pass := ⟨qm4 104 (by decide +kernel) (by decide +kernel), qm4 105 (by decide +kernel) (by decide +kernel)⟩
set_option maxRecDepth 100000 in
theorem mfX8_soonest : qMf mX8_soonest 1 := ⟨qm4 22 rfl (by decide +kernel), qm1 1 (by decide +kernel) (by decide +kernel), (by decide +kernel), (by decide +kernel), (by decide +kernel)⟩
theorem mvX8_soonest : qMv mX8_soonest := ⟨qm4 20 (by decide +kernel) (by decide +kernel), qm4 21 (by decide +kernel) (by decide +kernel)⟩
set_option maxRecDepth 100000 in
theorem mfX8_tower : qMf mX8_tower 2 := ⟨qm2 183 rfl (by decide +kernel), qm1 1 (by decide +kernel) (by decide +kernel), (by decide +kernel), (by decide +kernel), (by decide +kernel)⟩
theorem mvX8_tower : qMv mX8_tower := ⟨qm2 181 (by decide +kernel) (by decide +kernel), qm2 182 (by decide +kernel) (by decide +kernel)⟩
set_option maxRecDepth 100000 in
theorem mfX8_way : qMf mX8_way 2 := ⟨qm3 207 rfl (by decide +kernel), qm1 1 (by decide +kernel) (by decide +kernel), (by decide +kernel), (by decide +kernel), (by decide +kernel)⟩
theorem mvX8_way : qMv mX8_way := ⟨qm3 205 (by decide +kernel) (by decide +kernel), qm3 206 (by decide +kernel) (by decide +kernel)⟩
set_option maxRecDepth 100000 in
theorem mfX8_why : qMf mX8_why 2 := ⟨qm4 85 rfl (by decide +kernel), qm1 1 (by decide +kernel) (by decide +kernel), (by decide +kernel), (by decide +kernel), (by decide +kernel)⟩
theorem mvX8_why : qMv mX8_why := ⟨qm4 83 (by decide +kernel) (by decide +kernel), qm4 84 (by decide +kernel) (by decide +kernel)⟩
set_option maxRecDepth 100000 in
theorem mfX8_wind : qMf mX8_wind 2 := ⟨qm2 222 rfl (by decide +kernel), qm1 1 (by decide +kernel) (by decide +kernel), (by decide +kernel), (by decide +kernel), (by decide +kernel)⟩
theorem mvX8_wind : qMv mX8_wind := ⟨qm2 220 (by decide +kernel) (by decide +kernel), qm2 221 (by decide +kernel) (by decide +kernel)⟩
set_option maxRecDepth 100000 in
theorem mfX8_withdraw : qMf mX8_withdraw 1 := ⟨qm3 6 rfl (by decide +kernel), qm1 1 (by decide +kernel) (by decide +kernel), (by decide +kernel), (by decide +kernel), (by decide +kernel)⟩
theorem mvX8_withdraw : qMv mX8_withdraw := ⟨qm3 4 (by decide +kernel) (by decide +kernel), qm3 5 (by decide +kernel) (by decide +kernel)⟩
set_option maxRecDepth 100000 in
theorem mfX8_wouldHave : qMf mX8_wouldHave 2 := ⟨qm4 1 rfl (by decide +kernel), qm1 1 (by decide +kernel) (by decide +kernel), (by decide +kernel), (by decide +kernel), (by decide +kernel)⟩
theorem mvX8_wouldHave : qMv mX8_wouldHave := ⟨qm3 239 (by decide +kernel) (by decide +kernel), qm4 0 (by decide +kernel) (by decide +kernel)⟩
set_option maxRecDepth 100000 in
theorem mfX8_wouldNear : qMf mX8_wouldNear 1 := ⟨qm3 81 rfl (by decide +kernel), qm1 1 (by decide +kernel) (by decide +kernel), (by decide +kernel), (by decide +kernel), (by decide +kernel)⟩
theorem mvX8_wouldNear : qMv mX8_wouldNear := ⟨qm3 79 (by decide +kernel) (by decide +kernel), qm3 80 (by decide +kernel) (by decide +kernel)⟩
set_option maxRecDepth 100000 in
theorem mfX8_zone : qMf mX8_zone 4 := ⟨qm2 214 rfl (by decide +kernel), qm1 1 (by decide +kernel) (by decide +kernel), (by decide +kernel), (by decide +kernel), (by decide +kernel)⟩
theorem mvX8_zone : qMv mX8_zone := ⟨qm2 212 (by decide +kernel) (by decide +kernel), qm2 213 (by decide +kernel) (by decide +kernel)⟩
theorem mkX8_130 : qLM RX8 130 mX8_checkCraft := Or.inl (qm2 231 (by decide +kernel) (by decide +kernel))
theorem mkX8_146 : qLM RX8 146 mX8_checkStart := Or.inl (qm4 86 (by decide +kernel) (by decide +kernel))
theorem mkX8_149 : qLM RX8 149 mX2_isWayFromPadToPad := Or.inr ⟨"LowAir", qm4 4 (by decide +kernel) (by decide +kernel)⟩
theorem mkX8_156 : qLM RX8 156 mX3_reasonAgainst := Or.inr ⟨"LowAir", qm4 23 (by decide +kernel) (by decide +kernel)⟩
theorem mkX8_176 : qLM RX8 176 mX4_copyFrom := Or.inr ⟨"LowAir", qm4 95 (by decide +kernel) (by decide +kernel)⟩
theorem mkX8_18 : qLM RX8 18 mX6_init := Or.inr ⟨"LowAir", qm1 104 (by decide +kernel) (by decide +kernel)⟩
theorem mkX8_180 : qLM RX8 180 mX8_checkFlight := Or.inl (qm3 7 (by decide +kernel) (by decide +kernel))
theorem mkX8_183 : qLM RX8 183 mX8_checkMinutes := Or.inl (qm3 82 (by decide +kernel) (by decide +kernel))
theorem mkX8_189 : qLM RX8 189 mX6_flightsIn := Or.inr ⟨"LowAir", qm3 65 (by decide +kernel) (by decide +kernel)⟩
theorem mkX8_192 : qLM RX8 192 mX6_play := Or.inr ⟨"LowAir", qm3 105 (by decide +kernel) (by decide +kernel)⟩
theorem mkX8_198 : qLM RX8 198 mX3_plannedNoise := Or.inr ⟨"LowAir", qm3 15 (by decide +kernel) (by decide +kernel)⟩
theorem mkX8_202 : qLM RX8 202 mX6_flyingIn := Or.inr ⟨"LowAir", qm3 42 (by decide +kernel) (by decide +kernel)⟩
theorem mkX8_220 : qLM RX8 220 mX4_endFrom := Or.inr ⟨"LowAir", qm3 56 (by decide +kernel) (by decide +kernel)⟩
theorem mkX8_225 : qLM RX8 225 mX1_isAhead := Or.inr ⟨"LowAir", qm3 197 (by decide +kernel) (by decide +kernel)⟩
theorem mkX8_229 : qLM RX8 229 mX1_occupiesIn := Or.inr ⟨"LowAir", qm3 198 (by decide +kernel) (by decide +kernel)⟩
theorem mkX8_236 : qLM RX8 236 mX6_allBreaches := Or.inr ⟨"LowAir", qm3 69 (by decide +kernel) (by decide +kernel)⟩
theorem mkX8_245 : qLM RX8 245 mX5_fewestMoves := Or.inr ⟨"LowAir", qm3 208 (by decide +kernel) (by decide +kernel)⟩
theorem mkX8_249 : qLM RX8 249 mX5_leastCharge := Or.inr ⟨"LowAir", qm3 234 (by decide +kernel) (by decide +kernel)⟩
theorem mkX8_252 : qLM RX8 252 mX6_copyFrom := Or.inr ⟨"LowAir", qm3 85 (by decide +kernel) (by decide +kernel)⟩
theorem mkX8_257 : qLM RX8 257 mX8_many := Or.inl (qm3 187 (by decide +kernel) (by decide +kernel))
theorem mkX8_260 : qLM RX8 260 mX8_mixed := Or.inl (qm3 188 (by decide +kernel) (by decide +kernel))
theorem mkX8_264 : qLM RX8 264 mX8_ofCell := Or.inl (qm3 192 (by decide +kernel) (by decide +kernel))
theorem mkX8_267 : qLM RX8 267 mX8_occupies := Or.inl (qm3 193 (by decide +kernel) (by decide +kernel))
theorem mkX8_270 : qLM RX8 270 mX8_ofCraft := Or.inl (qm3 203 (by decide +kernel) (by decide +kernel))
theorem mkX8_273 : qLM RX8 273 mX8_way := Or.inl (qm3 204 (by decide +kernel) (by decide +kernel))
theorem mkX8_276 : qLM RX8 276 mX8_cost := Or.inl (qm3 230 (by decide +kernel) (by decide +kernel))
theorem mkX8_279 : qLM RX8 279 mX8_wouldHave := Or.inl (qm3 238 (by decide +kernel) (by decide +kernel))
theorem mkX8_282 : qLM RX8 282 mX8_ofFlight := Or.inl (qm4 2 (by decide +kernel) (by decide +kernel))
theorem mkX8_285 : qLM RX8 285 mX8_wouldNear := Or.inl (qm4 3 (by decide +kernel) (by decide +kernel))
theorem mkX8_288 : qLM RX8 288 mX8_soonest := Or.inl (qm4 19 (by decide +kernel) (by decide +kernel))
theorem mkX8_30 : qLM RX8 30 mX4_init := Or.inr ⟨"LowAir", qm2 28 (by decide +kernel) (by decide +kernel)⟩
theorem mkX8_305 : qLM RX8 305 mX8_isCell := Or.inl (qm2 87 (by decide +kernel) (by decide +kernel))
theorem mkX8_309 : qLM RX8 309 mX6_isCraft := Or.inr ⟨"LowAir", qm2 235 (by decide +kernel) (by decide +kernel)⟩
theorem mkX8_37 : qLM RX8 37 mX3_init := Or.inr ⟨"LowAir", qm2 31 (by decide +kernel) (by decide +kernel)⟩
theorem mkX8_46 : qLM RX8 46 mX5_init := Or.inr ⟨"LowAir", qm2 47 (by decide +kernel) (by decide +kernel)⟩
theorem mkX8_51 : qLM RX8 51 mX8_checkCell := Or.inl (qm2 84 (by decide +kernel) (by decide +kernel))
theorem mkX8_55 : qLM RX8 55 mX8_checkArgument := Or.inl (qm2 161 (by decide +kernel) (by decide +kernel))
theorem mkX8_66 : qLM RX8 66 mX8_checkState := Or.inl (qm2 184 (by decide +kernel) (by decide +kernel))
theorem mkX8_77 : qLM RX8 77 mX2_addPad := Or.inr ⟨"LowAir", qm2 207 (by decide +kernel) (by decide +kernel)⟩
theorem mkX8_84 : qLM RX8 84 mX2_addZone := Or.inr ⟨"LowAir", qm2 215 (by decide +kernel) (by decide +kernel)⟩
theorem mkX8_9 : qLM RX8 9 mX2_init := Or.inr ⟨"LowAir", qm1 29 (by decide +kernel) (by decide +kernel)⟩
theorem mkX8_94 : qLM RX8 94 mX8_checkIndex := Or.inl (qm2 90 (by decide +kernel) (by decide +kernel))
theorem mkX1_11 : qLM RX1 11 mX4_init := Or.inr ⟨"LowAir", qm1 188 (by decide +kernel) (by decide +kernel)⟩
theorem mkX1_28 : qLM RX1 28 mX4_copyFrom := Or.inr ⟨"LowAir", qm3 97 (by decide +kernel) (by decide +kernel)⟩
theorem mkX1_32 : qLM RX1 32 mX1_isAhead := Or.inl (qm3 28 (by decide +kernel) (by decide +kernel))
theorem mkX1_39 : qLM RX1 39 mX4_at := Or.inr ⟨"LowAir", qm3 202 (by decide +kernel) (by decide +kernel)⟩
theorem mkX1_43 : qLM RX1 43 mX4_endFrom := Or.inr ⟨"LowAir", qm4 45 (by decide +kernel) (by decide +kernel)⟩
theorem mkX2_102 : qLM RX2 102 mX2_costOfMove := Or.inl (qm4 58 (by decide +kernel) (by decide +kernel))
theorem mkX2_31 : qLM RX2 31 mJ7_fill := Or.inl (qm1 35 (by decide +kernel) (by decide +kernel))
