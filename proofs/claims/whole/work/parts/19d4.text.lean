set_option maxRecDepth 20000 in
theorem az_t188 : ∀ q ∈ k_X12_isAsked, az_iok az_ms (az_o 12) yX12_isAsked.name cX12_isAsked q := az_tc_ok az_pool_ok az_mok_all.1 12 false (fun h => by cases h) (by decide +kernel)
set_option maxRecDepth 20000 in
theorem az_t189 : ∀ q ∈ k_X12_shaded, az_iok az_ms (az_o 12) yX12_shaded.name cX12_shaded q := az_tc_ok az_pool_ok az_mok_all.1 12 false (fun h => by cases h) (by decide +kernel)
set_option maxRecDepth 20000 in
theorem az_t190 : ∀ q ∈ k_X12_shadow, az_iok az_ms (az_o 12) yX12_shadow.name cX12_shadow q := az_tc_ok az_pool_ok az_mok_all.1 12 false (fun h => by cases h) (by decide +kernel)
set_option maxRecDepth 20000 in
theorem az_t191 : ∀ q ∈ k_X12_grant, az_iok az_ms (az_o 12) yX12_grant.name cX12_grant q := az_tc_ok az_pool_ok az_mok_all.1 12 false (fun h => by cases h) (by decide +kernel)
set_option maxRecDepth 20000 in
theorem az_t192 : ∀ q ∈ k_X12_holdsOn, az_iok az_ms (az_o 12) yX12_holdsOn.name cX12_holdsOn q := az_tc_ok az_pool_ok az_mok_all.1 12 false (fun h => by cases h) (by decide +kernel)
set_option maxRecDepth 20000 in
theorem az_t193 : ∀ q ∈ k_X12_holderOf, az_iok az_ms (az_o 12) yX12_holderOf.name cX12_holderOf q := az_tc_ok az_pool_ok az_mok_all.1 12 false (fun h => by cases h) (by decide +kernel)
set_option maxRecDepth 20000 in
theorem az_t194 : ∀ q ∈ k_X12_holder, az_iok az_ms (az_o 12) yX12_holder.name cX12_holder q := az_tc_ok az_pool_ok az_mok_all.1 12 false (fun h => by cases h) (by decide +kernel)
set_option maxRecDepth 20000 in
theorem az_t195 : ∀ q ∈ k_X12_holds, az_iok az_ms (az_o 12) yX12_holds.name cX12_holds q := az_tc_ok az_pool_ok az_mok_all.1 12 false (fun h => by cases h) (by decide +kernel)
set_option maxRecDepth 20000 in
theorem az_t196 : ∀ q ∈ k_X12_partsIn, az_iok az_ms (az_o 12) yX12_partsIn.name cX12_partsIn q := az_tc_ok az_pool_ok az_mok_all.1 12 false (fun h => by cases h) (by decide +kernel)
set_option maxRecDepth 20000 in
theorem az_t197 : ∀ q ∈ k_X12_parts, az_iok az_ms (az_o 12) yX12_parts.name cX12_parts q := az_tc_ok az_pool_ok az_mok_all.1 12 false (fun h => by cases h) (by decide +kernel)
set_option maxRecDepth 20000 in
theorem az_t198 : ∀ q ∈ k_X12_partsOn, az_iok az_ms (az_o 12) yX12_partsOn.name cX12_partsOn q := az_tc_ok az_pool_ok az_mok_all.1 12 false (fun h => by cases h) (by decide +kernel)
set_option maxRecDepth 20000 in
theorem az_t199 : ∀ q ∈ k_X12_account, az_iok az_ms (az_o 12) yX12_account.name cX12_account q := az_tc_ok az_pool_ok az_mok_all.1 12 false (fun h => by cases h) (by decide +kernel)
set_option maxRecDepth 20000 in
theorem az_t200 : ∀ q ∈ k_X12_bill, az_iok az_ms (az_o 12) yX12_bill.name cX12_bill q := az_tc_ok az_pool_ok az_mok_all.1 12 false (fun h => by cases h) (by decide +kernel)
set_option maxRecDepth 20000 in
theorem az_t201 : ∀ q ∈ k_X12_measure, az_iok az_ms (az_o 12) yX12_measure.name cX12_measure q := az_tc_ok az_pool_ok az_mok_all.1 12 false (fun h => by cases h) (by decide +kernel)
set_option maxRecDepth 20000 in
theorem az_t202 : ∀ q ∈ k_X12_far, az_iok az_ms (az_o 12) yX12_far.name cX12_far q := az_tc_ok az_pool_ok az_mok_all.1 12 false (fun h => by cases h) (by decide +kernel)
set_option maxRecDepth 20000 in
theorem az_t203 : ∀ q ∈ k_X12_thing, az_iok az_ms (az_o 12) yX12_thing.name cX12_thing q := az_tc_ok az_pool_ok az_mok_all.1 12 false (fun h => by cases h) (by decide +kernel)
set_option maxRecDepth 20000 in
theorem az_t204 : ∀ q ∈ k_X12_entry, az_iok az_ms (az_o 12) yX12_entry.name cX12_entry q := az_tc_ok az_pool_ok az_mok_all.1 12 false (fun h => by cases h) (by decide +kernel)
set_option maxRecDepth 20000 in
theorem az_t205 : ∀ q ∈ k_X12_put, az_iok az_ms (az_o 12) yX12_put.name cX12_put q := az_tc_ok az_pool_ok az_mok_all.1 12 false (fun h => by cases h) (by decide +kernel)
set_option maxRecDepth 20000 in
theorem az_t206 : ∀ q ∈ k_X12_feed, az_iok az_ms (az_o 12) yX12_feed.name cX12_feed q := az_tc_ok az_pool_ok az_mok_all.1 12 false (fun h => by cases h) (by decide +kernel)
set_option maxRecDepth 20000 in
theorem az_t207 : ∀ q ∈ k_X12_end, az_iok az_ms (az_o 12) yX12_end.name cX12_end q := az_tc_ok az_pool_ok az_mok_all.1 12 false (fun h => by cases h) (by decide +kernel)
set_option maxRecDepth 20000 in
theorem az_t208 : ∀ q ∈ k_X12_isLetter, az_iok az_ms (az_o 12) yX12_isLetter.name cX12_isLetter q := az_tc_ok az_pool_ok az_mok_all.1 12 false (fun h => by cases h) (by decide +kernel)
set_option maxRecDepth 20000 in
theorem az_t209 : ∀ q ∈ k_X12_wordOf, az_iok az_ms (az_o 12) yX12_wordOf.name cX12_wordOf q := az_tc_ok az_pool_ok az_mok_all.1 12 false (fun h => by cases h) (by decide +kernel)
set_option maxRecDepth 20000 in
theorem az_t210 : ∀ q ∈ k_X12_next, az_iok az_ms (az_o 12) yX12_next.name cX12_next q := az_tc_ok az_pool_ok az_mok_all.1 12 false (fun h => by cases h) (by decide +kernel)
set_option maxRecDepth 20000 in
theorem az_t211 : ∀ q ∈ k_X12_isSignByte, az_iok az_ms (az_o 12) yX12_isSignByte.name cX12_isSignByte q := az_tc_ok az_pool_ok az_mok_all.1 12 false (fun h => by cases h) (by decide +kernel)
set_option maxRecDepth 20000 in
theorem az_t212 : ∀ q ∈ k_X12_isSign, az_iok az_ms (az_o 12) yX12_isSign.name cX12_isSign q := az_tc_ok az_pool_ok az_mok_all.1 12 false (fun h => by cases h) (by decide +kernel)
set_option maxRecDepth 20000 in
theorem az_t213 : ∀ q ∈ k_X12_isWord, az_iok az_ms (az_o 12) yX12_isWord.name cX12_isWord q := az_tc_ok az_pool_ok az_mok_all.1 12 false (fun h => by cases h) (by decide +kernel)
set_option maxRecDepth 20000 in
theorem az_t214 : ∀ q ∈ k_X12_errs, az_iok az_ms (az_o 12) yX12_errs.name cX12_errs q := az_tc_ok az_pool_ok az_mok_all.1 12 false (fun h => by cases h) (by decide +kernel)
set_option maxRecDepth 20000 in
theorem az_t215 : ∀ q ∈ k_X12_emits, az_iok az_ms (az_o 12) yX12_emits.name cX12_emits q := az_tc_ok az_pool_ok az_mok_all.1 12 false (fun h => by cases h) (by decide +kernel)
set_option maxRecDepth 20000 in
theorem az_t216 : ∀ q ∈ k_X12_opensFrame, az_iok az_ms (az_o 12) yX12_opensFrame.name cX12_opensFrame q := az_tc_ok az_pool_ok az_mok_all.1 12 false (fun h => by cases h) (by decide +kernel)
set_option maxRecDepth 20000 in
theorem az_t217 : ∀ q ∈ k_X12_top, az_iok az_ms (az_o 12) yX12_top.name cX12_top q := az_tc_ok az_pool_ok az_mok_all.1 12 false (fun h => by cases h) (by decide +kernel)
set_option maxRecDepth 20000 in
theorem az_t218 : ∀ q ∈ k_X12_opensSign, az_iok az_ms (az_o 12) yX12_opensSign.name cX12_opensSign q := az_tc_ok az_pool_ok az_mok_all.1 12 false (fun h => by cases h) (by decide +kernel)
set_option maxRecDepth 20000 in
theorem az_t219 : ∀ q ∈ k_X12_rank, az_iok az_ms (az_o 12) yX12_rank.name cX12_rank q := az_tc_ok az_pool_ok az_mok_all.1 12 false (fun h => by cases h) (by decide +kernel)
set_option maxRecDepth 20000 in
theorem az_t220 : ∀ q ∈ k_X12_works, az_iok az_ms (az_o 12) yX12_works.name cX12_works q := az_tc_ok az_pool_ok az_mok_all.1 12 false (fun h => by cases h) (by decide +kernel)
set_option maxRecDepth 20000 in
theorem az_t221 : ∀ q ∈ k_X12_waitsFor, az_iok az_ms (az_o 12) yX12_waitsFor.name cX12_waitsFor q := az_tc_ok az_pool_ok az_mok_all.1 12 false (fun h => by cases h) (by decide +kernel)
set_option maxRecDepth 20000 in
theorem az_t222 : ∀ q ∈ k_X12_asks, az_iok az_ms (az_o 12) yX12_asks.name cX12_asks q := az_tc_ok az_pool_ok az_mok_all.1 12 false (fun h => by cases h) (by decide +kernel)
set_option maxRecDepth 20000 in
theorem az_t223 : ∀ q ∈ k_X12_begins, az_iok az_ms (az_o 12) yX12_begins.name cX12_begins q := az_tc_ok az_pool_ok az_mok_all.1 12 false (fun h => by cases h) (by decide +kernel)
set_option maxRecDepth 20000 in
theorem az_t224 : ∀ q ∈ k_X12_oneIsOver, az_iok az_ms (az_o 12) yX12_oneIsOver.name cX12_oneIsOver q := az_tc_ok az_pool_ok az_mok_all.1 12 false (fun h => by cases h) (by decide +kernel)
set_option maxRecDepth 20000 in
theorem az_t225 : ∀ q ∈ k_X12_askIsOver, az_iok az_ms (az_o 12) yX12_askIsOver.name cX12_askIsOver q := az_tc_ok az_pool_ok az_mok_all.1 12 false (fun h => by cases h) (by decide +kernel)
set_option maxRecDepth 20000 in
theorem az_t226 : ∀ q ∈ k_X12_isAsking, az_iok az_ms (az_o 12) yX12_isAsking.name cX12_isAsking q := az_tc_ok az_pool_ok az_mok_all.1 12 false (fun h => by cases h) (by decide +kernel)
set_option maxRecDepth 20000 in
theorem az_t227 : ∀ q ∈ k_X12_goesOn, az_iok az_ms (az_o 12) yX12_goesOn.name cX12_goesOn q := az_tc_ok az_pool_ok az_mok_all.1 12 false (fun h => by cases h) (by decide +kernel)
set_option maxRecDepth 20000 in
theorem az_t228 : ∀ q ∈ k_X12_asksOn, az_iok az_ms (az_o 12) yX12_asksOn.name cX12_asksOn q := az_tc_ok az_pool_ok az_mok_all.1 12 false (fun h => by cases h) (by decide +kernel)
set_option maxRecDepth 20000 in
theorem az_t229 : ∀ q ∈ k_X12_rule, az_iok az_ms (az_o 12) yX12_rule.name cX12_rule q := az_tc_ok az_pool_ok az_mok_all.1 12 false (fun h => by cases h) (by decide +kernel)
set_option maxRecDepth 20000 in
theorem az_t230 : ∀ q ∈ k_X12_tariff, az_iok az_ms (az_o 12) yX12_tariff.name cX12_tariff q := az_tc_ok az_pool_ok az_mok_all.1 12 false (fun h => by cases h) (by decide +kernel)
set_option maxRecDepth 20000 in
theorem az_t231 : ∀ q ∈ k_X12_fault, az_iok az_ms (az_o 12) yX12_fault.name cX12_fault q := az_tc_ok az_pool_ok az_mok_all.1 12 false (fun h => by cases h) (by decide +kernel)
set_option maxRecDepth 20000 in
theorem az_t232 : ∀ q ∈ k_X12_bound, az_iok az_ms (az_o 12) yX12_bound.name cX12_bound q := az_tc_ok az_pool_ok az_mok_all.1 12 false (fun h => by cases h) (by decide +kernel)
set_option maxRecDepth 20000 in
theorem az_t233 : ∀ q ∈ k_X12_worked, az_iok az_ms (az_o 12) yX12_worked.name cX12_worked q := az_tc_ok az_pool_ok az_mok_all.1 12 false (fun h => by cases h) (by decide +kernel)
set_option maxRecDepth 20000 in
theorem az_t234 : ∀ q ∈ k_X12_given, az_iok az_ms (az_o 12) yX12_given.name cX12_given q := az_tc_ok az_pool_ok az_mok_all.1 12 false (fun h => by cases h) (by decide +kernel)
