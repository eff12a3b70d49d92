set_option maxRecDepth 20000 in
theorem az_mb0 : az_mP (yX0_init, cX0_init, 7, none) := ⟨az_cIn (k := 3) (j := 174) rfl, 1021, by decide +kernel⟩
set_option maxRecDepth 20000 in
theorem az_mb1 : az_mP (yX0_limit, cX0_limit, 5, none) := ⟨az_cIn (k := 3) (j := 220) rfl, 1021, by decide +kernel⟩
set_option maxRecDepth 20000 in
theorem az_mb2 : az_mP (yX0_covers, cX0_covers, 4, (some .boolean)) := ⟨az_cIn (k := 3) (j := 232) rfl, 1021, by decide +kernel⟩
set_option maxRecDepth 20000 in
theorem az_mb3 : az_mP (yX0_holdsOn, cX0_holdsOn, 3, (some .boolean)) := ⟨az_cIn (k := 3) (j := 237) rfl, 1021, by decide +kernel⟩
set_option maxRecDepth 20000 in
theorem az_mb4 : az_mP (yX1_init, cX1_init, 3, none) := ⟨az_cIn (k := 1) (j := 146) rfl, 1009, by decide +kernel⟩
set_option maxRecDepth 20000 in
theorem az_mb5 : az_mP (yX1_has, cX1_has, 2, (some .boolean)) := ⟨az_cIn (k := 2) (j := 224) rfl, 1009, by decide +kernel⟩
set_option maxRecDepth 20000 in
theorem az_mb6 : az_mP (yX1_columnOf, cX1_columnOf, 2, (some .int)) := ⟨az_cIn (k := 3) (j := 130) rfl, 1009, by decide +kernel⟩
set_option maxRecDepth 20000 in
theorem az_mb7 : az_mP (yX1_rowOf, cX1_rowOf, 2, (some .int)) := ⟨az_cIn (k := 3) (j := 134) rfl, 1009, by decide +kernel⟩
set_option maxRecDepth 20000 in
theorem az_mb8 : az_mP (yX1_cellAt, cX1_cellAt, 3, (some .int)) := ⟨az_cIn (k := 5) (j := 206) rfl, 1009, by decide +kernel⟩
set_option maxRecDepth 20000 in
theorem az_mb9 : az_mP (yX1_stepsBetween, cX1_stepsBetween, 3, (some .int)) := ⟨az_cIn (k := 5) (j := 181) rfl, 1009, by decide +kernel⟩
set_option maxRecDepth 20000 in
theorem az_mb10 : az_mP (yX2_init, cX2_init, 3, none) := ⟨az_cIn (k := 2) (j := 0) rfl, 1012, by decide +kernel⟩
set_option maxRecDepth 20000 in
theorem az_mb11 : az_mP (yX2_parseInto, cX2_parseInto, 3, (some .boolean)) := ⟨az_cIn (k := 4) (j := 111) rfl, 1012, by decide +kernel⟩
set_option maxRecDepth 20000 in
theorem az_mb12 : az_mP (yX2_fail, cX2_fail, 2, none) := ⟨az_cIn (k := 4) (j := 239) rfl, 1012, by decide +kernel⟩
set_option maxRecDepth 20000 in
theorem az_mb13 : az_mP (yX2_advance, cX2_advance, 1, none) := ⟨az_cIn (k := 5) (j := 3) rfl, 1012, by decide +kernel⟩
set_option maxRecDepth 20000 in
theorem az_mb14 : az_mP (yX2_pass, cX2_pass, 2, none) := ⟨az_cIn (k := 5) (j := 27) rfl, 1012, by decide +kernel⟩
set_option maxRecDepth 20000 in
theorem az_mb15 : az_mP (yX2_open, cX2_open, 3, (some .boolean)) := ⟨az_cIn (k := 5) (j := 19) rfl, 1012, by decide +kernel⟩
set_option maxRecDepth 20000 in
theorem az_mb16 : az_mP (yX2_rule, cX2_rule, 1, none) := ⟨az_cIn (k := 4) (j := 235) rfl, 1012, by decide +kernel⟩
set_option maxRecDepth 20000 in
theorem az_mb17 : az_mP (yX2_either, cX2_either, 3, none) := ⟨az_cIn (k := 5) (j := 7) rfl, 1012, by decide +kernel⟩
set_option maxRecDepth 20000 in
theorem az_mb18 : az_mP (yX2_both, cX2_both, 3, none) := ⟨az_cIn (k := 5) (j := 11) rfl, 1012, by decide +kernel⟩
set_option maxRecDepth 20000 in
theorem az_mb19 : az_mP (yX2_ask, cX2_ask, 3, none) := ⟨az_cIn (k := 5) (j := 15) rfl, 1012, by decide +kernel⟩
set_option maxRecDepth 20000 in
theorem az_mb20 : az_mP (yX2_sum, cX2_sum, 4, none) := ⟨az_cIn (k := 5) (j := 31) rfl, 1012, by decide +kernel⟩
set_option maxRecDepth 20000 in
theorem az_mb21 : az_mP (yX2_product, cX2_product, 4, none) := ⟨az_cIn (k := 5) (j := 35) rfl, 1012, by decide +kernel⟩
set_option maxRecDepth 20000 in
theorem az_mb22 : az_mP (yX2_one, cX2_one, 3, none) := ⟨az_cIn (k := 5) (j := 39) rfl, 1012, by decide +kernel⟩
set_option maxRecDepth 20000 in
theorem az_mb23 : az_mP (yX2_value, cX2_value, 2, none) := ⟨az_cIn (k := 5) (j := 43) rfl, 1012, by decide +kernel⟩
set_option maxRecDepth 20000 in
theorem az_mb24 : az_mP (yX3_init, cX3_init, 1, none) := ⟨az_cIn (k := 2) (j := 123) rfl, 1014, by decide +kernel⟩
set_option maxRecDepth 20000 in
theorem az_mb25 : az_mP (yX3_wasDead, cX3_wasDead, 3, (some .boolean)) := ⟨az_cIn (k := 4) (j := 1) rfl, 1014, by decide +kernel⟩
set_option maxRecDepth 20000 in
theorem az_mb26 : az_mP (yX4_init, cX4_init, 2, none) := ⟨az_cIn (k := 1) (j := 205) rfl, 1011, by decide +kernel⟩
set_option maxRecDepth 20000 in
theorem az_mb27 : az_mP (yX4_startFromBehind, cX4_startFromBehind, 2, none) := ⟨az_cIn (k := 5) (j := 168) rfl, 1011, by decide +kernel⟩
set_option maxRecDepth 20000 in
theorem az_mb28 : az_mP (yX4_goBackAnHour, cX4_goBackAnHour, 3, none) := ⟨az_cIn (k := 5) (j := 173) rfl, 1011, by decide +kernel⟩
set_option maxRecDepth 20000 in
theorem az_mb29 : az_mP (yX4_leadsOn, cX4_leadsOn, 2, (some .boolean)) := ⟨az_cIn (k := 5) (j := 210) rfl, 1011, by decide +kernel⟩
set_option maxRecDepth 20000 in
theorem az_mb30 : az_mP (yX4_bestNext, cX4_bestNext, 7, (some .int)) := ⟨az_cIn (k := 5) (j := 196) rfl, 1011, by decide +kernel⟩
set_option maxRecDepth 20000 in
theorem az_mb31 : az_mP (yX4_isBetter, cX4_isBetter, 3, (some .boolean)) := ⟨az_cIn (k := 5) (j := 214) rfl, 1011, by decide +kernel⟩
set_option maxRecDepth 20000 in
theorem az_mb32 : az_mP (yX4_lead, cX4_lead, 8, none) := ⟨az_cIn (k := 5) (j := 219) rfl, 1011, by decide +kernel⟩
set_option maxRecDepth 20000 in
theorem az_mb33 : az_mP (yX4_follow, cX4_follow, 7, (some .int)) := ⟨az_cIn (k := 5) (j := 223) rfl, 1011, by decide +kernel⟩
set_option maxRecDepth 20000 in
theorem az_mb34 : az_mP (yX4_charges, cX4_charges, 1, (some .long)) := ⟨az_cIn (k := 5) (j := 231) rfl, 1011, by decide +kernel⟩
set_option maxRecDepth 20000 in
theorem az_mb35 : az_mP (yX4_cellOfPath, cX4_cellOfPath, 2, (some .int)) := ⟨az_cIn (k := 5) (j := 235) rfl, 1011, by decide +kernel⟩
set_option maxRecDepth 20000 in
theorem az_mb36 : az_mP (yX5_init, cX5_init, 4, none) := ⟨az_cIn (k := 1) (j := 175) rfl, 1010, by decide +kernel⟩
set_option maxRecDepth 20000 in
theorem az_mb37 : az_mP (yX5_lookAt, cX5_lookAt, 5, none) := ⟨az_cIn (k := 4) (j := 9) rfl, 1010, by decide +kernel⟩
set_option maxRecDepth 20000 in
theorem az_mb38 : az_mP (yX5_turnTo, cX5_turnTo, 6, none) := ⟨az_cIn (k := 4) (j := 17) rfl, 1010, by decide +kernel⟩
set_option maxRecDepth 20000 in
theorem az_mb39 : az_mP (yX5_castShadow, cX5_castShadow, 12, none) := ⟨az_cIn (k := 4) (j := 27) rfl, 1010, by decide +kernel⟩
set_option maxRecDepth 20000 in
theorem az_mb40 : az_mP (yX5_heightOf, cX5_heightOf, 2, (some .int)) := ⟨az_cIn (k := 4) (j := 31) rfl, 1010, by decide +kernel⟩
set_option maxRecDepth 20000 in
theorem az_mb41 : az_mP (yX5_isOpen, cX5_isOpen, 2, (some .boolean)) := ⟨az_cIn (k := 5) (j := 192) rfl, 1010, by decide +kernel⟩
set_option maxRecDepth 20000 in
theorem az_mb42 : az_mP (yX5_shadersOf, cX5_shadersOf, 4, (some .int)) := ⟨az_cIn (k := 4) (j := 37) rfl, 1010, by decide +kernel⟩
set_option maxRecDepth 20000 in
theorem az_mb43 : az_mP (yX5_partsOf, cX5_partsOf, 5, (some .int)) := ⟨az_cIn (k := 4) (j := 49) rfl, 1010, by decide +kernel⟩
set_option maxRecDepth 20000 in
theorem az_mb44 : az_mP (yX5_partsOfAll, cX5_partsOfAll, 5, (some .long)) := ⟨az_cIn (k := 4) (j := 77) rfl, 1010, by decide +kernel⟩
set_option maxRecDepth 20000 in
theorem az_mb45 : az_mP (yX5_cellsShadedBy, cX5_cellsShadedBy, 4, (some .int)) := ⟨az_cIn (k := 4) (j := 64) rfl, 1010, by decide +kernel⟩
set_option maxRecDepth 20000 in
theorem az_mb46 : az_mP (yX6_init, cX6_init, 3, none) := ⟨az_cIn (k := 1) (j := 39) rfl, 1002, by decide +kernel⟩
