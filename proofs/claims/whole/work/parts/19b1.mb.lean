set_option maxRecDepth 20000 in
theorem az_mb47 : az_mP (yX6_setSun, cX6_setSun, 6, none) := ⟨az_cIn (k := 2) (j := 95) rfl, 1002, by decide +kernel⟩
set_option maxRecDepth 20000 in
theorem az_mb48 : az_mP (yX6_sunX, cX6_sunX, 4, (some .int)) := ⟨az_cIn (k := 3) (j := 119) rfl, 1002, by decide +kernel⟩
set_option maxRecDepth 20000 in
theorem az_mb49 : az_mP (yX6_sunY, cX6_sunY, 4, (some .int)) := ⟨az_cIn (k := 3) (j := 126) rfl, 1002, by decide +kernel⟩
set_option maxRecDepth 20000 in
theorem az_mb50 : az_mP (yX6_isClouded, cX6_isClouded, 4, (some .boolean)) := ⟨az_cIn (k := 2) (j := 106) rfl, 1002, by decide +kernel⟩
set_option maxRecDepth 20000 in
theorem az_mb51 : az_mP (yX6_addCloud, cX6_addCloud, 3, (some .int)) := ⟨az_cIn (k := 2) (j := 110) rfl, 1002, by decide +kernel⟩
set_option maxRecDepth 20000 in
theorem az_mb52 : az_mP (yX7_init, cX7_init, 3, none) := ⟨az_cIn (k := 5) (j := 105) rfl, 1026, by decide +kernel⟩
set_option maxRecDepth 20000 in
theorem az_mb53 : az_mP (yX7_isOn, cX7_isOn, 2, (some .boolean)) := ⟨az_cIn (k := 5) (j := 151) rfl, 1026, by decide +kernel⟩
set_option maxRecDepth 20000 in
theorem az_mb54 : az_mP (yX7_put, cX7_put, 3, none) := ⟨az_cIn (k := 5) (j := 139) rfl, 1026, by decide +kernel⟩
set_option maxRecDepth 20000 in
theorem az_mb55 : az_mP (yX7_cellIn, cX7_cellIn, 2, (some .int)) := ⟨az_cIn (k := 5) (j := 135) rfl, 1026, by decide +kernel⟩
set_option maxRecDepth 20000 in
theorem az_mb56 : az_mP (yX7_hasCell, cX7_hasCell, 3, (some .boolean)) := ⟨az_cIn (k := 2) (j := 232) rfl, 1026, by decide +kernel⟩
set_option maxRecDepth 20000 in
theorem az_mb57 : az_mP (yX8_init, cX8_init, 1, none) := ⟨az_cIn (k := 1) (j := 89) rfl, 1007, by decide +kernel⟩
set_option maxRecDepth 20000 in
theorem az_mb58 : az_mP (yX8_addFour, cX8_addFour, 3, none) := ⟨az_cIn (k := 4) (j := 99) rfl, 1007, by decide +kernel⟩
set_option maxRecDepth 20000 in
theorem az_mb59 : az_mP (yX8_cutIntoTokens, cX8_cutIntoTokens, 5, none) := ⟨az_cIn (k := 4) (j := 119) rfl, 1007, by decide +kernel⟩
set_option maxRecDepth 20000 in
theorem az_mb60 : az_mP (yX8_kindOf, cX8_kindOf, 2, (some .int)) := ⟨az_cIn (k := 4) (j := 231) rfl, 1007, by decide +kernel⟩
set_option maxRecDepth 20000 in
theorem az_mb61 : az_mP (yX8_startOf, cX8_startOf, 2, (some .int)) := ⟨az_cIn (k := 5) (j := 60) rfl, 1007, by decide +kernel⟩
set_option maxRecDepth 20000 in
theorem az_mb62 : az_mP (yX8_valueOf, cX8_valueOf, 2, (some .int)) := ⟨az_cIn (k := 5) (j := 47) rfl, 1007, by decide +kernel⟩
set_option maxRecDepth 20000 in
theorem az_mb63 : az_mP (yX8_byteAt, cX8_byteAt, 2, (some .int)) := ⟨az_cIn (k := 4) (j := 123) rfl, 1007, by decide +kernel⟩
set_option maxRecDepth 20000 in
theorem az_mb64 : az_mP (yX8_addToken, cX8_addToken, 4, none) := ⟨az_cIn (k := 4) (j := 211) rfl, 1007, by decide +kernel⟩
set_option maxRecDepth 20000 in
theorem az_mb65 : az_mP (yX8_isLetter, cX8_isLetter, 1, (some .boolean)) := ⟨az_cIn (k := 4) (j := 126) rfl, 1007, by decide +kernel⟩
set_option maxRecDepth 20000 in
theorem az_mb66 : az_mP (yX8_isDigit, cX8_isDigit, 1, (some .boolean)) := ⟨az_cIn (k := 4) (j := 214) rfl, 1007, by decide +kernel⟩
set_option maxRecDepth 20000 in
theorem az_mb67 : az_mP (yX8_endOfLetters, cX8_endOfLetters, 3, (some .int)) := ⟨az_cIn (k := 4) (j := 130) rfl, 1007, by decide +kernel⟩
set_option maxRecDepth 20000 in
theorem az_mb68 : az_mP (yX8_endOfDigits, cX8_endOfDigits, 3, (some .int)) := ⟨az_cIn (k := 4) (j := 218) rfl, 1007, by decide +kernel⟩
set_option maxRecDepth 20000 in
theorem az_mb69 : az_mP (yX8_numberOf, cX8_numberOf, 5, (some .int)) := ⟨az_cIn (k := 4) (j := 222) rfl, 1007, by decide +kernel⟩
set_option maxRecDepth 20000 in
theorem az_mb70 : az_mP (yX8_addWord, cX8_addWord, 4, none) := ⟨az_cIn (k := 4) (j := 134) rfl, 1007, by decide +kernel⟩
set_option maxRecDepth 20000 in
theorem az_mb71 : az_mP (yX8_nameOf, cX8_nameOf, 3, (some .int)) := ⟨az_cIn (k := 4) (j := 138) rfl, 1007, by decide +kernel⟩
set_option maxRecDepth 20000 in
theorem az_mb72 : az_mP (yX8_kindOfWord, cX8_kindOfWord, 3, (some .int)) := ⟨az_cIn (k := 4) (j := 200) rfl, 1007, by decide +kernel⟩
set_option maxRecDepth 20000 in
theorem az_mb73 : az_mP (yX8_isWord, cX8_isWord, 5, (some .boolean)) := ⟨az_cIn (k := 4) (j := 143) rfl, 1007, by decide +kernel⟩
set_option maxRecDepth 20000 in
theorem az_mb74 : az_mP (yX8_kindOfSign, cX8_kindOfSign, 1, (some .int)) := ⟨az_cIn (k := 4) (j := 227) rfl, 1007, by decide +kernel⟩
set_option maxRecDepth 20000 in
theorem az_mb75 : az_mP (yX9_init, cX9_init, 1, none) := ⟨az_cIn (k := 1) (j := 115) rfl, 1008, by decide +kernel⟩
set_option maxRecDepth 20000 in
theorem az_mb76 : az_mP (yX9_clear, cX9_clear, 1, none) := ⟨az_cIn (k := 4) (j := 115) rfl, 1008, by decide +kernel⟩
set_option maxRecDepth 20000 in
theorem az_mb77 : az_mP (yX9_add, cX9_add, 3, none) := ⟨az_cIn (k := 5) (j := 23) rfl, 1008, by decide +kernel⟩
set_option maxRecDepth 20000 in
theorem az_mb78 : az_mP (yX9_endAsk, cX9_endAsk, 1, none) := ⟨az_cIn (k := 5) (j := 52) rfl, 1008, by decide +kernel⟩
set_option maxRecDepth 20000 in
theorem az_mb79 : az_mP (yX9_endRule, cX9_endRule, 1, none) := ⟨az_cIn (k := 5) (j := 56) rfl, 1008, by decide +kernel⟩
set_option maxRecDepth 20000 in
theorem az_mb80 : az_mP (yX9_answer, cX9_answer, 5, (some .int)) := ⟨az_cIn (k := 5) (j := 75) rfl, 1008, by decide +kernel⟩
set_option maxRecDepth 20000 in
theorem az_mb81 : az_mP (yX9_run, cX9_run, 7, (some .long)) := ⟨az_cIn (k := 5) (j := 79) rfl, 1008, by decide +kernel⟩
set_option maxRecDepth 20000 in
theorem az_mb82 : az_mP (yX9_valueOf, cX9_valueOf, 2, (some .long)) := ⟨az_cIn (k := 5) (j := 83) rfl, 1008, by decide +kernel⟩
set_option maxRecDepth 20000 in
theorem az_mb83 : az_mP (yX9_join, cX9_join, 5, (some .long)) := ⟨az_cIn (k := 5) (j := 86) rfl, 1008, by decide +kernel⟩
set_option maxRecDepth 20000 in
theorem az_mb84 : az_mP (yX9_bounded, cX9_bounded, 2, (some .long)) := ⟨az_cIn (k := 5) (j := 89) rfl, 1008, by decide +kernel⟩
set_option maxRecDepth 20000 in
theorem az_mb85 : az_mP (yX10_init, cX10_init, 5, none) := ⟨az_cIn (k := 3) (j := 5) rfl, 1020, by decide +kernel⟩
set_option maxRecDepth 20000 in
theorem az_mb86 : az_mP (yX10_tell, cX10_tell, 4, none) := ⟨az_cIn (k := 3) (j := 69) rfl, 1020, by decide +kernel⟩
set_option maxRecDepth 20000 in
theorem az_mb87 : az_mP (yX10_forgetLast, cX10_forgetLast, 1, none) := ⟨az_cIn (k := 4) (j := 91) rfl, 1020, by decide +kernel⟩
set_option maxRecDepth 20000 in
theorem az_mb88 : az_mP (yX10_entryValue, cX10_entryValue, 3, (some .int)) := ⟨az_cIn (k := 3) (j := 159) rfl, 1020, by decide +kernel⟩
set_option maxRecDepth 20000 in
theorem az_mb89 : az_mP (yX10_hasFallen, cX10_hasFallen, 1, (some .boolean)) := ⟨az_cIn (k := 3) (j := 1) rfl, 1020, by decide +kernel⟩
set_option maxRecDepth 20000 in
theorem az_mb90 : az_mP (yX10_heightOn, cX10_heightOn, 5, (some .int)) := ⟨az_cIn (k := 3) (j := 97) rfl, 1020, by decide +kernel⟩
set_option maxRecDepth 20000 in
theorem az_mb91 : az_mP (yX10_entryFor, cX10_entryFor, 6, (some .int)) := ⟨az_cIn (k := 3) (j := 102) rfl, 1020, by decide +kernel⟩
set_option maxRecDepth 20000 in
theorem az_mb92 : az_mP (yX10_grownBetween, cX10_grownBetween, 3, (some .int)) := ⟨az_cIn (k := 3) (j := 106) rfl, 1020, by decide +kernel⟩
set_option maxRecDepth 20000 in
theorem az_mb93 : az_mP (yX10_mend, cX10_mend, 5, none) := ⟨az_cIn (k := 3) (j := 145) rfl, 1020, by decide +kernel⟩
