set_option maxRecDepth 20000 in
theorem az_t94 : ∀ q ∈ k_X11_init, az_iok az_ms (az_o 11) yX11_init.name cX11_init q := az_tc_ok az_pool_ok az_mok_all.1 11 true (fun _ => rfl) (by decide +kernel)
set_option maxRecDepth 20000 in
theorem az_t95 : ∀ q ∈ k_X11_days, az_iok az_ms (az_o 11) yX11_days.name cX11_days q := az_tc_ok az_pool_ok az_mok_all.1 11 false (fun h => by cases h) (by decide +kernel)
set_option maxRecDepth 20000 in
theorem az_t96 : ∀ q ∈ k_X11_sun, az_iok az_ms (az_o 11) yX11_sun.name cX11_sun q := az_tc_ok az_pool_ok az_mok_all.1 11 false (fun h => by cases h) (by decide +kernel)
set_option maxRecDepth 20000 in
theorem az_t97 : ∀ q ∈ k_X11_cloud, az_iok az_ms (az_o 11) yX11_cloud.name cX11_cloud q := az_tc_ok az_pool_ok az_mok_all.1 11 false (fun h => by cases h) (by decide +kernel)
set_option maxRecDepth 20000 in
theorem az_t98 : ∀ q ∈ k_X11_person, az_iok az_ms (az_o 11) yX11_person.name cX11_person q := az_tc_ok az_pool_ok az_mok_all.1 11 false (fun h => by cases h) (by decide +kernel)
set_option maxRecDepth 20000 in
theorem az_t99 : ∀ q ∈ k_X11_died, az_iok az_ms (az_o 11) yX11_died.name cX11_died q := az_tc_ok az_pool_ok az_mok_all.1 11 false (fun h => by cases h) (by decide +kernel)
set_option maxRecDepth 20000 in
theorem az_t100 : ∀ q ∈ k_X11_wall, az_iok az_ms (az_o 11) yX11_wall.name cX11_wall q := az_tc_ok az_pool_ok az_mok_all.1 11 false (fun h => by cases h) (by decide +kernel)
set_option maxRecDepth 20000 in
theorem az_t101 : ∀ q ∈ k_X11_tree, az_iok az_ms (az_o 11) yX11_tree.name cX11_tree q := az_tc_ok az_pool_ok az_mok_all.1 11 false (fun h => by cases h) (by decide +kernel)
set_option maxRecDepth 20000 in
theorem az_t102 : ∀ q ∈ k_X11_pole, az_iok az_ms (az_o 11) yX11_pole.name cX11_pole q := az_tc_ok az_pool_ok az_mok_all.1 11 false (fun h => by cases h) (by decide +kernel)
set_option maxRecDepth 20000 in
theorem az_t103 : ∀ q ∈ k_X11_raise, az_iok az_ms (az_o 11) yX11_raise.name cX11_raise q := az_tc_ok az_pool_ok az_mok_all.1 11 false (fun h => by cases h) (by decide +kernel)
set_option maxRecDepth 20000 in
theorem az_t104 : ∀ q ∈ k_X11_fell, az_iok az_ms (az_o 11) yX11_fell.name cX11_fell q := az_tc_ok az_pool_ok az_mok_all.1 11 false (fun h => by cases h) (by decide +kernel)
set_option maxRecDepth 20000 in
theorem az_t105 : ∀ q ∈ k_X11_height, az_iok az_ms (az_o 11) yX11_height.name cX11_height q := az_tc_ok az_pool_ok az_mok_all.1 11 false (fun h => by cases h) (by decide +kernel)
set_option maxRecDepth 20000 in
theorem az_t106 : ∀ q ∈ k_X11_measure, az_iok az_ms (az_o 11) yX11_measure.name cX11_measure q := az_tc_ok az_pool_ok az_mok_all.1 11 false (fun h => by cases h) (by decide +kernel)
set_option maxRecDepth 20000 in
theorem az_t107 : ∀ q ∈ k_X11_thing, az_iok az_ms (az_o 11) yX11_thing.name cX11_thing q := az_tc_ok az_pool_ok az_mok_all.1 11 false (fun h => by cases h) (by decide +kernel)
set_option maxRecDepth 20000 in
theorem az_t108 : ∀ q ∈ k_X11_entry, az_iok az_ms (az_o 11) yX11_entry.name cX11_entry q := az_tc_ok az_pool_ok az_mok_all.1 11 false (fun h => by cases h) (by decide +kernel)
set_option maxRecDepth 20000 in
theorem az_t109 : ∀ q ∈ k_X11_grant, az_iok az_ms (az_o 11) yX11_grant.name cX11_grant q := az_tc_ok az_pool_ok az_mok_all.1 11 false (fun h => by cases h) (by decide +kernel)
set_option maxRecDepth 20000 in
theorem az_t110 : ∀ q ∈ k_X11_holder, az_iok az_ms (az_o 11) yX11_holder.name cX11_holder q := az_tc_ok az_pool_ok az_mok_all.1 11 false (fun h => by cases h) (by decide +kernel)
set_option maxRecDepth 20000 in
theorem az_t111 : ∀ q ∈ k_X11_shaded, az_iok az_ms (az_o 11) yX11_shaded.name cX11_shaded q := az_tc_ok az_pool_ok az_mok_all.1 11 false (fun h => by cases h) (by decide +kernel)
set_option maxRecDepth 20000 in
theorem az_t112 : ∀ q ∈ k_X11_parts, az_iok az_ms (az_o 11) yX11_parts.name cX11_parts q := az_tc_ok az_pool_ok az_mok_all.1 11 false (fun h => by cases h) (by decide +kernel)
set_option maxRecDepth 20000 in
theorem az_t113 : ∀ q ∈ k_X11_shadow, az_iok az_ms (az_o 11) yX11_shadow.name cX11_shadow q := az_tc_ok az_pool_ok az_mok_all.1 11 false (fun h => by cases h) (by decide +kernel)
set_option maxRecDepth 20000 in
theorem az_t114 : ∀ q ∈ k_X11_account, az_iok az_ms (az_o 11) yX11_account.name cX11_account q := az_tc_ok az_pool_ok az_mok_all.1 11 false (fun h => by cases h) (by decide +kernel)
set_option maxRecDepth 20000 in
theorem az_t115 : ∀ q ∈ k_X11_bill, az_iok az_ms (az_o 11) yX11_bill.name cX11_bill q := az_tc_ok az_pool_ok az_mok_all.1 11 false (fun h => by cases h) (by decide +kernel)
set_option maxRecDepth 20000 in
theorem az_t116 : ∀ q ∈ k_X11_feed, az_iok az_ms (az_o 11) yX11_feed.name cX11_feed q := az_tc_ok az_pool_ok az_mok_all.1 11 false (fun h => by cases h) (by decide +kernel)
set_option maxRecDepth 20000 in
theorem az_t117 : ∀ q ∈ k_X11_end, az_iok az_ms (az_o 11) yX11_end.name cX11_end q := az_tc_ok az_pool_ok az_mok_all.1 11 false (fun h => by cases h) (by decide +kernel)
set_option maxRecDepth 20000 in
theorem az_t118 : ∀ q ∈ k_X11_tariff, az_iok az_ms (az_o 11) yX11_tariff.name cX11_tariff q := az_tc_ok az_pool_ok az_mok_all.1 11 false (fun h => by cases h) (by decide +kernel)
set_option maxRecDepth 20000 in
theorem az_t119 : ∀ q ∈ k_X11_fault, az_iok az_ms (az_o 11) yX11_fault.name cX11_fault q := az_tc_ok az_pool_ok az_mok_all.1 11 false (fun h => by cases h) (by decide +kernel)
set_option maxRecDepth 20000 in
theorem az_t120 : ∀ q ∈ k_X11_gives, az_iok az_ms (az_o 11) yX11_gives.name cX11_gives q := az_tc_ok az_pool_ok az_mok_all.1 11 false (fun h => by cases h) (by decide +kernel)
set_option maxRecDepth 20000 in
theorem az_t121 : ∀ q ∈ k_X11_stall, az_iok az_ms (az_o 11) yX11_stall.name cX11_stall q := az_tc_ok az_pool_ok az_mok_all.1 11 false (fun h => by cases h) (by decide +kernel)
set_option maxRecDepth 20000 in
theorem az_t122 : ∀ q ∈ k_X11_place, az_iok az_ms (az_o 11) yX11_place.name cX11_place q := az_tc_ok az_pool_ok az_mok_all.1 11 false (fun h => by cases h) (by decide +kernel)
set_option maxRecDepth 20000 in
theorem az_t123 : ∀ q ∈ k_X11_placeOf, az_iok az_ms (az_o 11) yX11_placeOf.name cX11_placeOf q := az_tc_ok az_pool_ok az_mok_all.1 11 false (fun h => by cases h) (by decide +kernel)
set_option maxRecDepth 20000 in
theorem az_t124 : ∀ q ∈ k_X11_fees, az_iok az_ms (az_o 11) yX11_fees.name cX11_fees q := az_tc_ok az_pool_ok az_mok_all.1 11 false (fun h => by cases h) (by decide +kernel)
set_option maxRecDepth 20000 in
theorem az_t125 : ∀ q ∈ k_X11_walk, az_iok az_ms (az_o 11) yX11_walk.name cX11_walk q := az_tc_ok az_pool_ok az_mok_all.1 11 false (fun h => by cases h) (by decide +kernel)
set_option maxRecDepth 20000 in
theorem az_t126 : ∀ q ∈ k_X11_walked, az_iok az_ms (az_o 11) yX11_walked.name cX11_walked q := az_tc_ok az_pool_ok az_mok_all.1 11 false (fun h => by cases h) (by decide +kernel)
set_option maxRecDepth 20000 in
theorem az_t127 : ∀ q ∈ k_X11_best, az_iok az_ms (az_o 11) yX11_best.name cX11_best q := az_tc_ok az_pool_ok az_mok_all.1 11 false (fun h => by cases h) (by decide +kernel)
set_option maxRecDepth 20000 in
theorem az_t128 : ∀ q ∈ k_X11_serves, az_iok az_ms (az_o 11) yX11_serves.name cX11_serves q := az_tc_ok az_pool_ok az_mok_all.1 11 false (fun h => by cases h) (by decide +kernel)
set_option maxRecDepth 20000 in
theorem az_t129 : ∀ q ∈ k_X11_about, az_iok az_ms (az_o 11) yX11_about.name cX11_about q := az_tc_ok az_pool_ok az_mok_all.1 11 false (fun h => by cases h) (by decide +kernel)
set_option maxRecDepth 20000 in
theorem az_t130 : ∀ q ∈ k_X11_isDay, az_iok az_ms (az_o 11) yX11_isDay.name cX11_isDay q := az_tc_ok az_pool_ok az_mok_all.1 11 false (fun h => by cases h) (by decide +kernel)
set_option maxRecDepth 20000 in
theorem az_t131 : ∀ q ∈ k_X11_isSpan, az_iok az_ms (az_o 11) yX11_isSpan.name cX11_isSpan q := az_tc_ok az_pool_ok az_mok_all.1 11 false (fun h => by cases h) (by decide +kernel)
set_option maxRecDepth 20000 in
theorem az_t132 : ∀ q ∈ k_X11_isHour, az_iok az_ms (az_o 11) yX11_isHour.name cX11_isHour q := az_tc_ok az_pool_ok az_mok_all.1 11 false (fun h => by cases h) (by decide +kernel)
set_option maxRecDepth 20000 in
theorem az_t133 : ∀ q ∈ k_X11_isHeight, az_iok az_ms (az_o 11) yX11_isHeight.name cX11_isHeight q := az_tc_ok az_pool_ok az_mok_all.1 11 false (fun h => by cases h) (by decide +kernel)
set_option maxRecDepth 20000 in
theorem az_t134 : ∀ q ∈ k_X11_isWithin, az_iok az_ms (az_o 11) yX11_isWithin.name cX11_isWithin q := az_tc_ok az_pool_ok az_mok_all.1 11 false (fun h => by cases h) (by decide +kernel)
set_option maxRecDepth 20000 in
theorem az_t135 : ∀ q ∈ k_X11_isPairOfTwelve, az_iok az_ms (az_o 11) yX11_isPairOfTwelve.name cX11_isPairOfTwelve q := az_tc_ok az_pool_ok az_mok_all.1 11 false (fun h => by cases h) (by decide +kernel)
set_option maxRecDepth 20000 in
theorem az_t136 : ∀ q ∈ k_X11_monthOf, az_iok az_ms (az_o 11) yX11_monthOf.name cX11_monthOf q := az_tc_ok az_pool_ok az_mok_all.1 11 false (fun h => by cases h) (by decide +kernel)
set_option maxRecDepth 20000 in
theorem az_t137 : ∀ q ∈ k_X11_cellsAside, az_iok az_ms (az_o 11) yX11_cellsAside.name cX11_cellsAside q := az_tc_ok az_pool_ok az_mok_all.1 11 false (fun h => by cases h) (by decide +kernel)
set_option maxRecDepth 20000 in
theorem az_t138 : ∀ q ∈ k_X11_isPerson, az_iok az_ms (az_o 11) yX11_isPerson.name cX11_isPerson q := az_tc_ok az_pool_ok az_mok_all.1 11 false (fun h => by cases h) (by decide +kernel)
set_option maxRecDepth 20000 in
theorem az_t139 : ∀ q ∈ k_X11_isThing, az_iok az_ms (az_o 11) yX11_isThing.name cX11_isThing q := az_tc_ok az_pool_ok az_mok_all.1 11 false (fun h => by cases h) (by decide +kernel)
set_option maxRecDepth 20000 in
theorem az_t140 : ∀ q ∈ k_X11_isStall, az_iok az_ms (az_o 11) yX11_isStall.name cX11_isStall q := az_tc_ok az_pool_ok az_mok_all.1 11 false (fun h => by cases h) (by decide +kernel)
