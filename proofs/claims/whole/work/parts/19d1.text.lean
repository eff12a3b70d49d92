set_option maxRecDepth 20000 in
theorem az_t47 : ∀ q ∈ k_X6_setSun, az_iok az_ms (az_o 6) yX6_setSun.name cX6_setSun q := az_tc_ok az_pool_ok az_mok_all.1 6 false (fun h => by cases h) (by decide +kernel)
set_option maxRecDepth 20000 in
theorem az_t48 : ∀ q ∈ k_X6_sunX, az_iok az_ms (az_o 6) yX6_sunX.name cX6_sunX q := az_tc_ok az_pool_ok az_mok_all.1 6 false (fun h => by cases h) (by decide +kernel)
set_option maxRecDepth 20000 in
theorem az_t49 : ∀ q ∈ k_X6_sunY, az_iok az_ms (az_o 6) yX6_sunY.name cX6_sunY q := az_tc_ok az_pool_ok az_mok_all.1 6 false (fun h => by cases h) (by decide +kernel)
set_option maxRecDepth 20000 in
theorem az_t50 : ∀ q ∈ k_X6_isClouded, az_iok az_ms (az_o 6) yX6_isClouded.name cX6_isClouded q := az_tc_ok az_pool_ok az_mok_all.1 6 false (fun h => by cases h) (by decide +kernel)
set_option maxRecDepth 20000 in
theorem az_t51 : ∀ q ∈ k_X6_addCloud, az_iok az_ms (az_o 6) yX6_addCloud.name cX6_addCloud q := az_tc_ok az_pool_ok az_mok_all.1 6 false (fun h => by cases h) (by decide +kernel)
set_option maxRecDepth 20000 in
theorem az_t52 : ∀ q ∈ k_X7_init, az_iok az_ms (az_o 7) yX7_init.name cX7_init q := az_tc_ok az_pool_ok az_mok_all.1 7 true (fun _ => rfl) (by decide +kernel)
set_option maxRecDepth 20000 in
theorem az_t53 : ∀ q ∈ k_X7_isOn, az_iok az_ms (az_o 7) yX7_isOn.name cX7_isOn q := az_tc_ok az_pool_ok az_mok_all.1 7 false (fun h => by cases h) (by decide +kernel)
set_option maxRecDepth 20000 in
theorem az_t54 : ∀ q ∈ k_X7_put, az_iok az_ms (az_o 7) yX7_put.name cX7_put q := az_tc_ok az_pool_ok az_mok_all.1 7 false (fun h => by cases h) (by decide +kernel)
set_option maxRecDepth 20000 in
theorem az_t55 : ∀ q ∈ k_X7_cellIn, az_iok az_ms (az_o 7) yX7_cellIn.name cX7_cellIn q := az_tc_ok az_pool_ok az_mok_all.1 7 false (fun h => by cases h) (by decide +kernel)
set_option maxRecDepth 20000 in
theorem az_t56 : ∀ q ∈ k_X7_hasCell, az_iok az_ms (az_o 7) yX7_hasCell.name cX7_hasCell q := az_tc_ok az_pool_ok az_mok_all.1 7 false (fun h => by cases h) (by decide +kernel)
set_option maxRecDepth 20000 in
theorem az_t57 : ∀ q ∈ k_X8_init, az_iok az_ms (az_o 8) yX8_init.name cX8_init q := az_tc_ok az_pool_ok az_mok_all.1 8 true (fun _ => rfl) (by decide +kernel)
set_option maxRecDepth 20000 in
theorem az_t58 : ∀ q ∈ k_X8_addFour, az_iok az_ms (az_o 8) yX8_addFour.name cX8_addFour q := az_tc_ok az_pool_ok az_mok_all.1 8 false (fun h => by cases h) (by decide +kernel)
set_option maxRecDepth 20000 in
theorem az_t59 : ∀ q ∈ k_X8_cutIntoTokens, az_iok az_ms (az_o 8) yX8_cutIntoTokens.name cX8_cutIntoTokens q := az_tc_ok az_pool_ok az_mok_all.1 8 false (fun h => by cases h) (by decide +kernel)
set_option maxRecDepth 20000 in
theorem az_t60 : ∀ q ∈ k_X8_kindOf, az_iok az_ms (az_o 8) yX8_kindOf.name cX8_kindOf q := az_tc_ok az_pool_ok az_mok_all.1 8 false (fun h => by cases h) (by decide +kernel)
set_option maxRecDepth 20000 in
theorem az_t61 : ∀ q ∈ k_X8_startOf, az_iok az_ms (az_o 8) yX8_startOf.name cX8_startOf q := az_tc_ok az_pool_ok az_mok_all.1 8 false (fun h => by cases h) (by decide +kernel)
set_option maxRecDepth 20000 in
theorem az_t62 : ∀ q ∈ k_X8_valueOf, az_iok az_ms (az_o 8) yX8_valueOf.name cX8_valueOf q := az_tc_ok az_pool_ok az_mok_all.1 8 false (fun h => by cases h) (by decide +kernel)
set_option maxRecDepth 20000 in
theorem az_t63 : ∀ q ∈ k_X8_byteAt, az_iok az_ms (az_o 8) yX8_byteAt.name cX8_byteAt q := az_tc_ok az_pool_ok az_mok_all.1 8 false (fun h => by cases h) (by decide +kernel)
set_option maxRecDepth 20000 in
theorem az_t64 : ∀ q ∈ k_X8_addToken, az_iok az_ms (az_o 8) yX8_addToken.name cX8_addToken q := az_tc_ok az_pool_ok az_mok_all.1 8 false (fun h => by cases h) (by decide +kernel)
set_option maxRecDepth 20000 in
theorem az_t65 : ∀ q ∈ k_X8_isLetter, az_iok az_ms (az_o 8) yX8_isLetter.name cX8_isLetter q := az_tc_ok az_pool_ok az_mok_all.1 8 false (fun h => by cases h) (by decide +kernel)
set_option maxRecDepth 20000 in
theorem az_t66 : ∀ q ∈ k_X8_isDigit, az_iok az_ms (az_o 8) yX8_isDigit.name cX8_isDigit q := az_tc_ok az_pool_ok az_mok_all.1 8 false (fun h => by cases h) (by decide +kernel)
set_option maxRecDepth 20000 in
theorem az_t67 : ∀ q ∈ k_X8_endOfLetters, az_iok az_ms (az_o 8) yX8_endOfLetters.name cX8_endOfLetters q := az_tc_ok az_pool_ok az_mok_all.1 8 false (fun h => by cases h) (by decide +kernel)
set_option maxRecDepth 20000 in
theorem az_t68 : ∀ q ∈ k_X8_endOfDigits, az_iok az_ms (az_o 8) yX8_endOfDigits.name cX8_endOfDigits q := az_tc_ok az_pool_ok az_mok_all.1 8 false (fun h => by cases h) (by decide +kernel)
set_option maxRecDepth 20000 in
theorem az_t69 : ∀ q ∈ k_X8_numberOf, az_iok az_ms (az_o 8) yX8_numberOf.name cX8_numberOf q := az_tc_ok az_pool_ok az_mok_all.1 8 false (fun h => by cases h) (by decide +kernel)
set_option maxRecDepth 20000 in
theorem az_t70 : ∀ q ∈ k_X8_addWord, az_iok az_ms (az_o 8) yX8_addWord.name cX8_addWord q := az_tc_ok az_pool_ok az_mok_all.1 8 false (fun h => by cases h) (by decide +kernel)
set_option maxRecDepth 20000 in
theorem az_t71 : ∀ q ∈ k_X8_nameOf, az_iok az_ms (az_o 8) yX8_nameOf.name cX8_nameOf q := az_tc_ok az_pool_ok az_mok_all.1 8 false (fun h => by cases h) (by decide +kernel)
set_option maxRecDepth 20000 in
theorem az_t72 : ∀ q ∈ k_X8_kindOfWord, az_iok az_ms (az_o 8) yX8_kindOfWord.name cX8_kindOfWord q := az_tc_ok az_pool_ok az_mok_all.1 8 false (fun h => by cases h) (by decide +kernel)
set_option maxRecDepth 20000 in
theorem az_t73 : ∀ q ∈ k_X8_isWord, az_iok az_ms (az_o 8) yX8_isWord.name cX8_isWord q := az_tc_ok az_pool_ok az_mok_all.1 8 false (fun h => by cases h) (by decide +kernel)
set_option maxRecDepth 20000 in
theorem az_t74 : ∀ q ∈ k_X8_kindOfSign, az_iok az_ms (az_o 8) yX8_kindOfSign.name cX8_kindOfSign q := az_tc_ok az_pool_ok az_mok_all.1 8 false (fun h => by cases h) (by decide +kernel)
set_option maxRecDepth 20000 in
theorem az_t75 : ∀ q ∈ k_X9_init, az_iok az_ms (az_o 9) yX9_init.name cX9_init q := az_tc_ok az_pool_ok az_mok_all.1 9 true (fun _ => rfl) (by decide +kernel)
set_option maxRecDepth 20000 in
theorem az_t76 : ∀ q ∈ k_X9_clear, az_iok az_ms (az_o 9) yX9_clear.name cX9_clear q := az_tc_ok az_pool_ok az_mok_all.1 9 false (fun h => by cases h) (by decide +kernel)
set_option maxRecDepth 20000 in
theorem az_t77 : ∀ q ∈ k_X9_add, az_iok az_ms (az_o 9) yX9_add.name cX9_add q := az_tc_ok az_pool_ok az_mok_all.1 9 false (fun h => by cases h) (by decide +kernel)
set_option maxRecDepth 20000 in
theorem az_t78 : ∀ q ∈ k_X9_endAsk, az_iok az_ms (az_o 9) yX9_endAsk.name cX9_endAsk q := az_tc_ok az_pool_ok az_mok_all.1 9 false (fun h => by cases h) (by decide +kernel)
set_option maxRecDepth 20000 in
theorem az_t79 : ∀ q ∈ k_X9_endRule, az_iok az_ms (az_o 9) yX9_endRule.name cX9_endRule q := az_tc_ok az_pool_ok az_mok_all.1 9 false (fun h => by cases h) (by decide +kernel)
set_option maxRecDepth 20000 in
theorem az_t80 : ∀ q ∈ k_X9_answer, az_iok az_ms (az_o 9) yX9_answer.name cX9_answer q := az_tc_ok az_pool_ok az_mok_all.1 9 false (fun h => by cases h) (by decide +kernel)
set_option maxRecDepth 20000 in
theorem az_t81 : ∀ q ∈ k_X9_run, az_iok az_ms (az_o 9) yX9_run.name cX9_run q := az_tc_ok az_pool_ok az_mok_all.1 9 false (fun h => by cases h) (by decide +kernel)
set_option maxRecDepth 20000 in
theorem az_t82 : ∀ q ∈ k_X9_valueOf, az_iok az_ms (az_o 9) yX9_valueOf.name cX9_valueOf q := az_tc_ok az_pool_ok az_mok_all.1 9 false (fun h => by cases h) (by decide +kernel)
set_option maxRecDepth 20000 in
theorem az_t83 : ∀ q ∈ k_X9_join, az_iok az_ms (az_o 9) yX9_join.name cX9_join q := az_tc_ok az_pool_ok az_mok_all.1 9 false (fun h => by cases h) (by decide +kernel)
set_option maxRecDepth 20000 in
theorem az_t84 : ∀ q ∈ k_X9_bounded, az_iok az_ms (az_o 9) yX9_bounded.name cX9_bounded q := az_tc_ok az_pool_ok az_mok_all.1 9 false (fun h => by cases h) (by decide +kernel)
set_option maxRecDepth 20000 in
theorem az_t85 : ∀ q ∈ k_X10_init, az_iok az_ms (az_o 10) yX10_init.name cX10_init q := az_tc_ok az_pool_ok az_mok_all.1 10 true (fun _ => rfl) (by decide +kernel)
set_option maxRecDepth 20000 in
theorem az_t86 : ∀ q ∈ k_X10_tell, az_iok az_ms (az_o 10) yX10_tell.name cX10_tell q := az_tc_ok az_pool_ok az_mok_all.1 10 false (fun h => by cases h) (by decide +kernel)
set_option maxRecDepth 20000 in
theorem az_t87 : ∀ q ∈ k_X10_forgetLast, az_iok az_ms (az_o 10) yX10_forgetLast.name cX10_forgetLast q := az_tc_ok az_pool_ok az_mok_all.1 10 false (fun h => by cases h) (by decide +kernel)
set_option maxRecDepth 20000 in
theorem az_t88 : ∀ q ∈ k_X10_entryValue, az_iok az_ms (az_o 10) yX10_entryValue.name cX10_entryValue q := az_tc_ok az_pool_ok az_mok_all.1 10 false (fun h => by cases h) (by decide +kernel)
set_option maxRecDepth 20000 in
theorem az_t89 : ∀ q ∈ k_X10_hasFallen, az_iok az_ms (az_o 10) yX10_hasFallen.name cX10_hasFallen q := az_tc_ok az_pool_ok az_mok_all.1 10 false (fun h => by cases h) (by decide +kernel)
set_option maxRecDepth 20000 in
theorem az_t90 : ∀ q ∈ k_X10_heightOn, az_iok az_ms (az_o 10) yX10_heightOn.name cX10_heightOn q := az_tc_ok az_pool_ok az_mok_all.1 10 false (fun h => by cases h) (by decide +kernel)
set_option maxRecDepth 20000 in
theorem az_t91 : ∀ q ∈ k_X10_entryFor, az_iok az_ms (az_o 10) yX10_entryFor.name cX10_entryFor q := az_tc_ok az_pool_ok az_mok_all.1 10 false (fun h => by cases h) (by decide +kernel)
set_option maxRecDepth 20000 in
theorem az_t92 : ∀ q ∈ k_X10_grownBetween, az_iok az_ms (az_o 10) yX10_grownBetween.name cX10_grownBetween q := az_tc_ok az_pool_ok az_mok_all.1 10 false (fun h => by cases h) (by decide +kernel)
set_option maxRecDepth 20000 in
theorem az_t93 : ∀ q ∈ k_X10_mend, az_iok az_ms (az_o 10) yX10_mend.name cX10_mend q := az_tc_ok az_pool_ok az_mok_all.1 10 false (fun h => by cases h) (by decide +kernel)
