set_option maxRecDepth 20000 in
theorem az_mb94 : az_mP (yX11_init, cX11_init, 3, none) := ⟨az_cIn (k := 1) (j := 31) rfl, 1001, by decide +kernel⟩
set_option maxRecDepth 20000 in
theorem az_mb95 : az_mP (yX11_days, cX11_days, 2, (some .int)) := ⟨az_cIn (k := 2) (j := 81) rfl, 1001, by decide +kernel⟩
set_option maxRecDepth 20000 in
theorem az_mb96 : az_mP (yX11_sun, cX11_sun, 5, (some .boolean)) := ⟨az_cIn (k := 2) (j := 85) rfl, 1001, by decide +kernel⟩
set_option maxRecDepth 20000 in
theorem az_mb97 : az_mP (yX11_cloud, cX11_cloud, 3, (some .int)) := ⟨az_cIn (k := 2) (j := 99) rfl, 1001, by decide +kernel⟩
set_option maxRecDepth 20000 in
theorem az_mb98 : az_mP (yX11_person, cX11_person, 1, (some .int)) := ⟨az_cIn (k := 2) (j := 114) rfl, 1001, by decide +kernel⟩
set_option maxRecDepth 20000 in
theorem az_mb99 : az_mP (yX11_died, cX11_died, 4, (some .boolean)) := ⟨az_cIn (k := 2) (j := 194) rfl, 1001, by decide +kernel⟩
set_option maxRecDepth 20000 in
theorem az_mb100 : az_mP (yX11_wall, cX11_wall, 4, (some .int)) := ⟨az_cIn (k := 2) (j := 216) rfl, 1001, by decide +kernel⟩
set_option maxRecDepth 20000 in
theorem az_mb101 : az_mP (yX11_tree, cX11_tree, 6, (some .int)) := ⟨az_cIn (k := 3) (j := 73) rfl, 1001, by decide +kernel⟩
set_option maxRecDepth 20000 in
theorem az_mb102 : az_mP (yX11_pole, cX11_pole, 7, (some .int)) := ⟨az_cIn (k := 3) (j := 77) rfl, 1001, by decide +kernel⟩
set_option maxRecDepth 20000 in
theorem az_mb103 : az_mP (yX11_raise, cX11_raise, 5, (some .int)) := ⟨az_cIn (k := 3) (j := 81) rfl, 1001, by decide +kernel⟩
set_option maxRecDepth 20000 in
theorem az_mb104 : az_mP (yX11_fell, cX11_fell, 4, (some .boolean)) := ⟨az_cIn (k := 3) (j := 89) rfl, 1001, by decide +kernel⟩
set_option maxRecDepth 20000 in
theorem az_mb105 : az_mP (yX11_height, cX11_height, 4, (some .int)) := ⟨az_cIn (k := 3) (j := 93) rfl, 1001, by decide +kernel⟩
set_option maxRecDepth 20000 in
theorem az_mb106 : az_mP (yX11_measure, cX11_measure, 7, (some .int)) := ⟨az_cIn (k := 3) (j := 111) rfl, 1001, by decide +kernel⟩
set_option maxRecDepth 20000 in
theorem az_mb107 : az_mP (yX11_thing, cX11_thing, 4, (some .int)) := ⟨az_cIn (k := 3) (j := 151) rfl, 1001, by decide +kernel⟩
set_option maxRecDepth 20000 in
theorem az_mb108 : az_mP (yX11_entry, cX11_entry, 4, (some .int)) := ⟨az_cIn (k := 3) (j := 155) rfl, 1001, by decide +kernel⟩
set_option maxRecDepth 20000 in
theorem az_mb109 : az_mP (yX11_grant, cX11_grant, 10, (some .int)) := ⟨az_cIn (k := 3) (j := 163) rfl, 1001, by decide +kernel⟩
set_option maxRecDepth 20000 in
theorem az_mb110 : az_mP (yX11_holder, cX11_holder, 5, (some .int)) := ⟨az_cIn (k := 3) (j := 224) rfl, 1001, by decide +kernel⟩
set_option maxRecDepth 20000 in
theorem az_mb111 : az_mP (yX11_shaded, cX11_shaded, 5, (some .int)) := ⟨az_cIn (k := 4) (j := 5) rfl, 1001, by decide +kernel⟩
set_option maxRecDepth 20000 in
theorem az_mb112 : az_mP (yX11_parts, cX11_parts, 6, (some .int)) := ⟨az_cIn (k := 4) (j := 41) rfl, 1001, by decide +kernel⟩
set_option maxRecDepth 20000 in
theorem az_mb113 : az_mP (yX11_shadow, cX11_shadow, 5, (some .int)) := ⟨az_cIn (k := 4) (j := 60) rfl, 1001, by decide +kernel⟩
set_option maxRecDepth 20000 in
theorem az_mb114 : az_mP (yX11_account, cX11_account, 8, (some .long)) := ⟨az_cIn (k := 4) (j := 68) rfl, 1001, by decide +kernel⟩
set_option maxRecDepth 20000 in
theorem az_mb115 : az_mP (yX11_bill, cX11_bill, 10, (some .long)) := ⟨az_cIn (k := 4) (j := 82) rfl, 1001, by decide +kernel⟩
set_option maxRecDepth 20000 in
theorem az_mb116 : az_mP (yX11_feed, cX11_feed, 6, (some .int)) := ⟨az_cIn (k := 4) (j := 95) rfl, 1001, by decide +kernel⟩
set_option maxRecDepth 20000 in
theorem az_mb117 : az_mP (yX11_end, cX11_end, 2, (some .int)) := ⟨az_cIn (k := 4) (j := 103) rfl, 1001, by decide +kernel⟩
set_option maxRecDepth 20000 in
theorem az_mb118 : az_mP (yX11_tariff, cX11_tariff, 3, (some .int)) := ⟨az_cIn (k := 4) (j := 107) rfl, 1001, by decide +kernel⟩
set_option maxRecDepth 20000 in
theorem az_mb119 : az_mP (yX11_fault, cX11_fault, 2, (some .int)) := ⟨az_cIn (k := 5) (j := 65) rfl, 1001, by decide +kernel⟩
set_option maxRecDepth 20000 in
theorem az_mb120 : az_mP (yX11_gives, cX11_gives, 7, (some .int)) := ⟨az_cIn (k := 5) (j := 69) rfl, 1001, by decide +kernel⟩
set_option maxRecDepth 20000 in
theorem az_mb121 : az_mP (yX11_stall, cX11_stall, 4, (some .int)) := ⟨az_cIn (k := 5) (j := 101) rfl, 1001, by decide +kernel⟩
set_option maxRecDepth 20000 in
theorem az_mb122 : az_mP (yX11_place, cX11_place, 4, (some .boolean)) := ⟨az_cIn (k := 5) (j := 123) rfl, 1001, by decide +kernel⟩
set_option maxRecDepth 20000 in
theorem az_mb123 : az_mP (yX11_placeOf, cX11_placeOf, 3, (some .int)) := ⟨az_cIn (k := 5) (j := 143) rfl, 1001, by decide +kernel⟩
set_option maxRecDepth 20000 in
theorem az_mb124 : az_mP (yX11_fees, cX11_fees, 10, (some .long)) := ⟨az_cIn (k := 5) (j := 147) rfl, 1001, by decide +kernel⟩
set_option maxRecDepth 20000 in
theorem az_mb125 : az_mP (yX11_walk, cX11_walk, 7, (some .int)) := ⟨az_cIn (k := 5) (j := 164) rfl, 1001, by decide +kernel⟩
set_option maxRecDepth 20000 in
theorem az_mb126 : az_mP (yX11_walked, cX11_walked, 2, (some .long)) := ⟨az_cIn (k := 5) (j := 227) rfl, 1001, by decide +kernel⟩
set_option maxRecDepth 20000 in
theorem az_mb127 : az_mP (yX11_best, cX11_best, 3, (some .int)) := ⟨az_cIn (k := 5) (j := 239) rfl, 1001, by decide +kernel⟩
set_option maxRecDepth 20000 in
theorem az_mb128 : az_mP (yX11_serves, cX11_serves, 4, (some .int)) := ⟨az_cIn (k := 6) (j := 20) rfl, 1001, by decide +kernel⟩
set_option maxRecDepth 20000 in
theorem az_mb129 : az_mP (yX11_about, cX11_about, 2, (some .int)) := ⟨az_cIn (k := 6) (j := 24) rfl, 1001, by decide +kernel⟩
set_option maxRecDepth 20000 in
theorem az_mb130 : az_mP (yX11_isDay, cX11_isDay, 1, (some .boolean)) := ⟨az_cIn (k := 2) (j := 102) rfl, 1001, by decide +kernel⟩
set_option maxRecDepth 20000 in
theorem az_mb131 : az_mP (yX11_isSpan, cX11_isSpan, 2, (some .boolean)) := ⟨az_cIn (k := 3) (j := 169) rfl, 1001, by decide +kernel⟩
set_option maxRecDepth 20000 in
theorem az_mb132 : az_mP (yX11_isHour, cX11_isHour, 1, (some .boolean)) := ⟨az_cIn (k := 2) (j := 88) rfl, 1001, by decide +kernel⟩
set_option maxRecDepth 20000 in
theorem az_mb133 : az_mP (yX11_isHeight, cX11_isHeight, 1, (some .boolean)) := ⟨az_cIn (k := 2) (j := 227) rfl, 1001, by decide +kernel⟩
set_option maxRecDepth 20000 in
theorem az_mb134 : az_mP (yX11_isWithin, cX11_isWithin, 2, (some .boolean)) := ⟨az_cIn (k := 2) (j := 91) rfl, 1001, by decide +kernel⟩
set_option maxRecDepth 20000 in
theorem az_mb135 : az_mP (yX11_isPairOfTwelve, cX11_isPairOfTwelve, 1, (some .boolean)) := ⟨az_cIn (k := 3) (j := 166) rfl, 1001, by decide +kernel⟩
set_option maxRecDepth 20000 in
theorem az_mb136 : az_mP (yX11_monthOf, cX11_monthOf, 1, (some .int)) := ⟨az_cIn (k := 3) (j := 122) rfl, 1001, by decide +kernel⟩
set_option maxRecDepth 20000 in
theorem az_mb137 : az_mP (yX11_cellsAside, cX11_cellsAside, 2, (some .int)) := ⟨az_cIn (k := 3) (j := 137) rfl, 1001, by decide +kernel⟩
set_option maxRecDepth 20000 in
theorem az_mb138 : az_mP (yX11_isPerson, cX11_isPerson, 2, (some .boolean)) := ⟨az_cIn (k := 2) (j := 198) rfl, 1001, by decide +kernel⟩
set_option maxRecDepth 20000 in
theorem az_mb139 : az_mP (yX11_isThing, cX11_isThing, 2, (some .boolean)) := ⟨az_cIn (k := 3) (j := 85) rfl, 1001, by decide +kernel⟩
set_option maxRecDepth 20000 in
theorem az_mb140 : az_mP (yX11_isStall, cX11_isStall, 2, (some .boolean)) := ⟨az_cIn (k := 5) (j := 127) rfl, 1001, by decide +kernel⟩
