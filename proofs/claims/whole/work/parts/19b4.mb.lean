set_option maxRecDepth 20000 in
theorem az_mb188 : az_mP (yX12_isAsked, cX12_isAsked, 4, (some .boolean)) := ⟨az_cIn (k := 7) (j := 174) rfl, 1013, by decide +kernel⟩
set_option maxRecDepth 20000 in
theorem az_mb189 : az_mP (yX12_shaded, cX12_shaded, 5, (some .int)) := ⟨az_cIn (k := 7) (j := 170) rfl, 1013, by decide +kernel⟩
set_option maxRecDepth 20000 in
theorem az_mb190 : az_mP (yX12_shadow, cX12_shadow, 7, (some .int)) := ⟨az_cIn (k := 7) (j := 196) rfl, 1013, by decide +kernel⟩
set_option maxRecDepth 20000 in
theorem az_mb191 : az_mP (yX12_grant, cX12_grant, 10, (some .int)) := ⟨az_cIn (k := 7) (j := 200) rfl, 1013, by decide +kernel⟩
set_option maxRecDepth 20000 in
theorem az_mb192 : az_mP (yX12_holdsOn, cX12_holdsOn, 8, (some .boolean)) := ⟨az_cIn (k := 7) (j := 214) rfl, 1013, by decide +kernel⟩
set_option maxRecDepth 20000 in
theorem az_mb193 : az_mP (yX12_holderOf, cX12_holderOf, 7, (some .int)) := ⟨az_cIn (k := 7) (j := 210) rfl, 1013, by decide +kernel⟩
set_option maxRecDepth 20000 in
theorem az_mb194 : az_mP (yX12_holder, cX12_holder, 5, (some .int)) := ⟨az_cIn (k := 7) (j := 206) rfl, 1013, by decide +kernel⟩
set_option maxRecDepth 20000 in
theorem az_mb195 : az_mP (yX12_holds, cX12_holds, 5, none) := ⟨az_cIn (k := 7) (j := 222) rfl, 1013, by decide +kernel⟩
set_option maxRecDepth 20000 in
theorem az_mb196 : az_mP (yX12_partsIn, cX12_partsIn, 5, (some .int)) := ⟨az_cIn (k := 7) (j := 226) rfl, 1013, by decide +kernel⟩
set_option maxRecDepth 20000 in
theorem az_mb197 : az_mP (yX12_parts, cX12_parts, 6, (some .int)) := ⟨az_cIn (k := 7) (j := 218) rfl, 1013, by decide +kernel⟩
set_option maxRecDepth 20000 in
theorem az_mb198 : az_mP (yX12_partsOn, cX12_partsOn, 8, (some .long)) := ⟨az_cIn (k := 7) (j := 235) rfl, 1013, by decide +kernel⟩
set_option maxRecDepth 20000 in
theorem az_mb199 : az_mP (yX12_account, cX12_account, 8, (some .long)) := ⟨az_cIn (k := 7) (j := 230) rfl, 1013, by decide +kernel⟩
set_option maxRecDepth 20000 in
theorem az_mb200 : az_mP (yX12_bill, cX12_bill, 8, (some .long)) := ⟨az_cIn (k := 7) (j := 239) rfl, 1013, by decide +kernel⟩
set_option maxRecDepth 20000 in
theorem az_mb201 : az_mP (yX12_measure, cX12_measure, 9, (some .int)) := ⟨az_cIn (k := 8) (j := 5) rfl, 1013, by decide +kernel⟩
set_option maxRecDepth 20000 in
theorem az_mb202 : az_mP (yX12_far, cX12_far, 2, (some .int)) := ⟨az_cIn (k := 8) (j := 8) rfl, 1013, by decide +kernel⟩
set_option maxRecDepth 20000 in
theorem az_mb203 : az_mP (yX12_thing, cX12_thing, 3, (some .int)) := ⟨az_cIn (k := 8) (j := 12) rfl, 1013, by decide +kernel⟩
set_option maxRecDepth 20000 in
theorem az_mb204 : az_mP (yX12_entry, cX12_entry, 5, (some .int)) := ⟨az_cIn (k := 8) (j := 16) rfl, 1013, by decide +kernel⟩
set_option maxRecDepth 20000 in
theorem az_mb205 : az_mP (yX12_put, cX12_put, 2, none) := ⟨az_cIn (k := 8) (j := 24) rfl, 1013, by decide +kernel⟩
set_option maxRecDepth 20000 in
theorem az_mb206 : az_mP (yX12_feed, cX12_feed, 6, (some .int)) := ⟨az_cIn (k := 8) (j := 20) rfl, 1013, by decide +kernel⟩
set_option maxRecDepth 20000 in
theorem az_mb207 : az_mP (yX12_end, cX12_end, 2, (some .int)) := ⟨az_cIn (k := 8) (j := 28) rfl, 1013, by decide +kernel⟩
set_option maxRecDepth 20000 in
theorem az_mb208 : az_mP (yX12_isLetter, cX12_isLetter, 1, (some .boolean)) := ⟨az_cIn (k := 8) (j := 39) rfl, 1013, by decide +kernel⟩
set_option maxRecDepth 20000 in
theorem az_mb209 : az_mP (yX12_wordOf, cX12_wordOf, 2, (some .int)) := ⟨az_cIn (k := 8) (j := 47) rfl, 1013, by decide +kernel⟩
set_option maxRecDepth 20000 in
theorem az_mb210 : az_mP (yX12_next, cX12_next, 5, none) := ⟨az_cIn (k := 8) (j := 36) rfl, 1013, by decide +kernel⟩
set_option maxRecDepth 20000 in
theorem az_mb211 : az_mP (yX12_isSignByte, cX12_isSignByte, 1, (some .boolean)) := ⟨az_cIn (k := 8) (j := 68) rfl, 1013, by decide +kernel⟩
set_option maxRecDepth 20000 in
theorem az_mb212 : az_mP (yX12_isSign, cX12_isSign, 2, (some .boolean)) := ⟨az_cIn (k := 8) (j := 94) rfl, 1013, by decide +kernel⟩
set_option maxRecDepth 20000 in
theorem az_mb213 : az_mP (yX12_isWord, cX12_isWord, 2, (some .boolean)) := ⟨az_cIn (k := 8) (j := 78) rfl, 1013, by decide +kernel⟩
set_option maxRecDepth 20000 in
theorem az_mb214 : az_mP (yX12_errs, cX12_errs, 2, none) := ⟨az_cIn (k := 8) (j := 86) rfl, 1013, by decide +kernel⟩
set_option maxRecDepth 20000 in
theorem az_mb215 : az_mP (yX12_emits, cX12_emits, 3, none) := ⟨az_cIn (k := 8) (j := 103) rfl, 1013, by decide +kernel⟩
set_option maxRecDepth 20000 in
theorem az_mb216 : az_mP (yX12_opensFrame, cX12_opensFrame, 2, none) := ⟨az_cIn (k := 8) (j := 90) rfl, 1013, by decide +kernel⟩
set_option maxRecDepth 20000 in
theorem az_mb217 : az_mP (yX12_top, cX12_top, 1, (some .int)) := ⟨az_cIn (k := 8) (j := 111) rfl, 1013, by decide +kernel⟩
set_option maxRecDepth 20000 in
theorem az_mb218 : az_mP (yX12_opensSign, cX12_opensSign, 2, (some .boolean)) := ⟨az_cIn (k := 8) (j := 82) rfl, 1013, by decide +kernel⟩
set_option maxRecDepth 20000 in
theorem az_mb219 : az_mP (yX12_rank, cX12_rank, 1, (some .int)) := ⟨az_cIn (k := 8) (j := 122) rfl, 1013, by decide +kernel⟩
set_option maxRecDepth 20000 in
theorem az_mb220 : az_mP (yX12_works, cX12_works, 2, none) := ⟨az_cIn (k := 8) (j := 126) rfl, 1013, by decide +kernel⟩
set_option maxRecDepth 20000 in
theorem az_mb221 : az_mP (yX12_waitsFor, cX12_waitsFor, 2, none) := ⟨az_cIn (k := 8) (j := 119) rfl, 1013, by decide +kernel⟩
set_option maxRecDepth 20000 in
theorem az_mb222 : az_mP (yX12_asks, cX12_asks, 1, none) := ⟨az_cIn (k := 8) (j := 74) rfl, 1013, by decide +kernel⟩
set_option maxRecDepth 20000 in
theorem az_mb223 : az_mP (yX12_begins, cX12_begins, 2, none) := ⟨az_cIn (k := 8) (j := 98) rfl, 1013, by decide +kernel⟩
set_option maxRecDepth 20000 in
theorem az_mb224 : az_mP (yX12_oneIsOver, cX12_oneIsOver, 1, none) := ⟨az_cIn (k := 8) (j := 107) rfl, 1013, by decide +kernel⟩
set_option maxRecDepth 20000 in
theorem az_mb225 : az_mP (yX12_askIsOver, cX12_askIsOver, 1, none) := ⟨az_cIn (k := 8) (j := 133) rfl, 1013, by decide +kernel⟩
set_option maxRecDepth 20000 in
theorem az_mb226 : az_mP (yX12_isAsking, cX12_isAsking, 1, (some .boolean)) := ⟨az_cIn (k := 8) (j := 129) rfl, 1013, by decide +kernel⟩
set_option maxRecDepth 20000 in
theorem az_mb227 : az_mP (yX12_goesOn, cX12_goesOn, 3, none) := ⟨az_cIn (k := 8) (j := 115) rfl, 1013, by decide +kernel⟩
set_option maxRecDepth 20000 in
theorem az_mb228 : az_mP (yX12_asksOn, cX12_asksOn, 2, none) := ⟨az_cIn (k := 8) (j := 137) rfl, 1013, by decide +kernel⟩
set_option maxRecDepth 20000 in
theorem az_mb229 : az_mP (yX12_rule, cX12_rule, 2, none) := ⟨az_cIn (k := 8) (j := 141) rfl, 1013, by decide +kernel⟩
set_option maxRecDepth 20000 in
theorem az_mb230 : az_mP (yX12_tariff, cX12_tariff, 2, (some .int)) := ⟨az_cIn (k := 8) (j := 32) rfl, 1013, by decide +kernel⟩
set_option maxRecDepth 20000 in
theorem az_mb231 : az_mP (yX12_fault, cX12_fault, 2, (some .int)) := ⟨az_cIn (k := 8) (j := 145) rfl, 1013, by decide +kernel⟩
set_option maxRecDepth 20000 in
theorem az_mb232 : az_mP (yX12_bound, cX12_bound, 2, (some .long)) := ⟨az_cIn (k := 8) (j := 162) rfl, 1013, by decide +kernel⟩
set_option maxRecDepth 20000 in
theorem az_mb233 : az_mP (yX12_worked, cX12_worked, 5, (some .long)) := ⟨az_cIn (k := 8) (j := 159) rfl, 1013, by decide +kernel⟩
set_option maxRecDepth 20000 in
theorem az_mb234 : az_mP (yX12_given, cX12_given, 5, (some .long)) := ⟨az_cIn (k := 8) (j := 156) rfl, 1013, by decide +kernel⟩
