set_option maxRecDepth 20000 in
theorem az_t141 : ∀ q ∈ k_X11_mayStand, az_iok az_ms (az_o 11) yX11_mayStand.name cX11_mayStand q := az_tc_ok az_pool_ok az_mok_all.1 11 false (fun h => by cases h) (by decide +kernel)
set_option maxRecDepth 20000 in
theorem az_t142 : ∀ q ∈ k_X11_isBuiltOn, az_iok az_ms (az_o 11) yX11_isBuiltOn.name cX11_isBuiltOn q := az_tc_ok az_pool_ok az_mok_all.1 11 false (fun h => by cases h) (by decide +kernel)
set_option maxRecDepth 20000 in
theorem az_t143 : ∀ q ∈ k_X11_addThing, az_iok az_ms (az_o 11) yX11_addThing.name cX11_addThing q := az_tc_ok az_pool_ok az_mok_all.1 11 false (fun h => by cases h) (by decide +kernel)
set_option maxRecDepth 20000 in
theorem az_t144 : ∀ q ∈ k_X11_standingNow, az_iok az_ms (az_o 11) yX11_standingNow.name cX11_standingNow q := az_tc_ok az_pool_ok az_mok_all.1 11 false (fun h => by cases h) (by decide +kernel)
set_option maxRecDepth 20000 in
theorem az_t145 : ∀ q ∈ k_X11_nearestHeight, az_iok az_ms (az_o 11) yX11_nearestHeight.name cX11_nearestHeight q := az_tc_ok az_pool_ok az_mok_all.1 11 false (fun h => by cases h) (by decide +kernel)
set_option maxRecDepth 20000 in
theorem az_t146 : ∀ q ∈ k_X11_findHolders, az_iok az_ms (az_o 11) yX11_findHolders.name cX11_findHolders q := az_tc_ok az_pool_ok az_mok_all.1 11 false (fun h => by cases h) (by decide +kernel)
set_option maxRecDepth 20000 in
theorem az_t147 : ∀ q ∈ k_X11_heldBy, az_iok az_ms (az_o 11) yX11_heldBy.name cX11_heldBy q := az_tc_ok az_pool_ok az_mok_all.1 11 false (fun h => by cases h) (by decide +kernel)
set_option maxRecDepth 20000 in
theorem az_t148 : ∀ q ∈ k_X11_partsOnDay, az_iok az_ms (az_o 11) yX11_partsOnDay.name cX11_partsOnDay q := az_tc_ok az_pool_ok az_mok_all.1 11 false (fun h => by cases h) (by decide +kernel)
set_option maxRecDepth 20000 in
theorem az_t149 : ∀ q ∈ k_X11_partsOverYear, az_iok az_ms (az_o 11) yX11_partsOverYear.name cX11_partsOverYear q := az_tc_ok az_pool_ok az_mok_all.1 11 false (fun h => by cases h) (by decide +kernel)
set_option maxRecDepth 20000 in
theorem az_t150 : ∀ q ∈ k_X11_chargeOf, az_iok az_ms (az_o 11) yX11_chargeOf.name cX11_chargeOf q := az_tc_ok az_pool_ok az_mok_all.1 11 false (fun h => by cases h) (by decide +kernel)
set_option maxRecDepth 20000 in
theorem az_t151 : ∀ q ∈ k_X11_mayTake, az_iok az_ms (az_o 11) yX11_mayTake.name cX11_mayTake q := az_tc_ok az_pool_ok az_mok_all.1 11 false (fun h => by cases h) (by decide +kernel)
set_option maxRecDepth 20000 in
theorem az_t152 : ∀ q ∈ k_X11_leadThroughHour, az_iok az_ms (az_o 11) yX11_leadThroughHour.name cX11_leadThroughHour q := az_tc_ok az_pool_ok az_mok_all.1 11 false (fun h => by cases h) (by decide +kernel)
set_option maxRecDepth 20000 in
theorem az_t153 : ∀ q ∈ k_X11_mayWalk, az_iok az_ms (az_o 11) yX11_mayWalk.name cX11_mayWalk q := az_tc_ok az_pool_ok az_mok_all.1 11 false (fun h => by cases h) (by decide +kernel)
set_option maxRecDepth 20000 in
theorem az_t154 : ∀ q ∈ k_X11_bestTree, az_iok az_ms (az_o 11) yX11_bestTree.name cX11_bestTree q := az_tc_ok az_pool_ok az_mok_all.1 11 false (fun h => by cases h) (by decide +kernel)
set_option maxRecDepth 20000 in
theorem az_t155 : ∀ q ∈ k_X11_hasStall, az_iok az_ms (az_o 11) yX11_hasStall.name cX11_hasStall q := az_tc_ok az_pool_ok az_mok_all.1 11 false (fun h => by cases h) (by decide +kernel)
set_option maxRecDepth 20000 in
theorem az_t156 : ∀ q ∈ k_X11_serveHour, az_iok az_ms (az_o 11) yX11_serveHour.name cX11_serveHour q := az_tc_ok az_pool_ok az_mok_all.1 11 false (fun h => by cases h) (by decide +kernel)
set_option maxRecDepth 20000 in
theorem az_t157 : ∀ q ∈ k_X11_servePlace, az_iok az_ms (az_o 11) yX11_servePlace.name cX11_servePlace q := az_tc_ok az_pool_ok az_mok_all.1 11 false (fun h => by cases h) (by decide +kernel)
set_option maxRecDepth 20000 in
theorem az_t158 : ∀ q ∈ k_X12_init, az_iok az_ms (az_o 12) yX12_init.name cX12_init q := az_tc_ok az_pool_ok az_mok_all.1 12 true (fun _ => rfl) (by decide +kernel)
set_option maxRecDepth 20000 in
theorem az_t159 : ∀ q ∈ k_X12_in, az_iok az_ms (az_o 12) yX12_in.name cX12_in q := az_tc_ok az_pool_ok az_mok_all.1 12 false (fun h => by cases h) (by decide +kernel)
set_option maxRecDepth 20000 in
theorem az_t160 : ∀ q ∈ k_X12_isDay, az_iok az_ms (az_o 12) yX12_isDay.name cX12_isDay q := az_tc_ok az_pool_ok az_mok_all.1 12 false (fun h => by cases h) (by decide +kernel)
set_option maxRecDepth 20000 in
theorem az_t161 : ∀ q ∈ k_X12_isHour, az_iok az_ms (az_o 12) yX12_isHour.name cX12_isHour q := az_tc_ok az_pool_ok az_mok_all.1 12 false (fun h => by cases h) (by decide +kernel)
set_option maxRecDepth 20000 in
theorem az_t162 : ∀ q ∈ k_X12_isCell, az_iok az_ms (az_o 12) yX12_isCell.name cX12_isCell q := az_tc_ok az_pool_ok az_mok_all.1 12 false (fun h => by cases h) (by decide +kernel)
set_option maxRecDepth 20000 in
theorem az_t163 : ∀ q ∈ k_X12_isPerson, az_iok az_ms (az_o 12) yX12_isPerson.name cX12_isPerson q := az_tc_ok az_pool_ok az_mok_all.1 12 false (fun h => by cases h) (by decide +kernel)
set_option maxRecDepth 20000 in
theorem az_t164 : ∀ q ∈ k_X12_isThing, az_iok az_ms (az_o 12) yX12_isThing.name cX12_isThing q := az_tc_ok az_pool_ok az_mok_all.1 12 false (fun h => by cases h) (by decide +kernel)
set_option maxRecDepth 20000 in
theorem az_t165 : ∀ q ∈ k_X12_monthOf, az_iok az_ms (az_o 12) yX12_monthOf.name cX12_monthOf q := az_tc_ok az_pool_ok az_mok_all.1 12 false (fun h => by cases h) (by decide +kernel)
set_option maxRecDepth 20000 in
theorem az_t166 : ∀ q ∈ k_X12_days, az_iok az_ms (az_o 12) yX12_days.name cX12_days q := az_tc_ok az_pool_ok az_mok_all.1 12 false (fun h => by cases h) (by decide +kernel)
set_option maxRecDepth 20000 in
theorem az_t167 : ∀ q ∈ k_X12_sun, az_iok az_ms (az_o 12) yX12_sun.name cX12_sun q := az_tc_ok az_pool_ok az_mok_all.1 12 false (fun h => by cases h) (by decide +kernel)
set_option maxRecDepth 20000 in
theorem az_t168 : ∀ q ∈ k_X12_isCloud, az_iok az_ms (az_o 12) yX12_isCloud.name cX12_isCloud q := az_tc_ok az_pool_ok az_mok_all.1 12 false (fun h => by cases h) (by decide +kernel)
set_option maxRecDepth 20000 in
theorem az_t169 : ∀ q ∈ k_X12_cloud, az_iok az_ms (az_o 12) yX12_cloud.name cX12_cloud q := az_tc_ok az_pool_ok az_mok_all.1 12 false (fun h => by cases h) (by decide +kernel)
set_option maxRecDepth 20000 in
theorem az_t170 : ∀ q ∈ k_X12_person, az_iok az_ms (az_o 12) yX12_person.name cX12_person q := az_tc_ok az_pool_ok az_mok_all.1 12 false (fun h => by cases h) (by decide +kernel)
set_option maxRecDepth 20000 in
theorem az_t171 : ∀ q ∈ k_X12_died, az_iok az_ms (az_o 12) yX12_died.name cX12_died q := az_tc_ok az_pool_ok az_mok_all.1 12 false (fun h => by cases h) (by decide +kernel)
set_option maxRecDepth 20000 in
theorem az_t172 : ∀ q ∈ k_X12_mayStand, az_iok az_ms (az_o 12) yX12_mayStand.name cX12_mayStand q := az_tc_ok az_pool_ok az_mok_all.1 12 false (fun h => by cases h) (by decide +kernel)
set_option maxRecDepth 20000 in
theorem az_t173 : ∀ q ∈ k_X12_stands, az_iok az_ms (az_o 12) yX12_stands.name cX12_stands q := az_tc_ok az_pool_ok az_mok_all.1 12 false (fun h => by cases h) (by decide +kernel)
set_option maxRecDepth 20000 in
theorem az_t174 : ∀ q ∈ k_X12_enters, az_iok az_ms (az_o 12) yX12_enters.name cX12_enters q := az_tc_ok az_pool_ok az_mok_all.1 12 false (fun h => by cases h) (by decide +kernel)
set_option maxRecDepth 20000 in
theorem az_t175 : ∀ q ∈ k_X12_wall, az_iok az_ms (az_o 12) yX12_wall.name cX12_wall q := az_tc_ok az_pool_ok az_mok_all.1 12 false (fun h => by cases h) (by decide +kernel)
set_option maxRecDepth 20000 in
theorem az_t176 : ∀ q ∈ k_X12_tree, az_iok az_ms (az_o 12) yX12_tree.name cX12_tree q := az_tc_ok az_pool_ok az_mok_all.1 12 false (fun h => by cases h) (by decide +kernel)
set_option maxRecDepth 20000 in
theorem az_t177 : ∀ q ∈ k_X12_pole, az_iok az_ms (az_o 12) yX12_pole.name cX12_pole q := az_tc_ok az_pool_ok az_mok_all.1 12 false (fun h => by cases h) (by decide +kernel)
set_option maxRecDepth 20000 in
theorem az_t178 : ∀ q ∈ k_X12_raise, az_iok az_ms (az_o 12) yX12_raise.name cX12_raise q := az_tc_ok az_pool_ok az_mok_all.1 12 false (fun h => by cases h) (by decide +kernel)
set_option maxRecDepth 20000 in
theorem az_t179 : ∀ q ∈ k_X12_fell, az_iok az_ms (az_o 12) yX12_fell.name cX12_fell q := az_tc_ok az_pool_ok az_mok_all.1 12 false (fun h => by cases h) (by decide +kernel)
set_option maxRecDepth 20000 in
theorem az_t180 : ∀ q ∈ k_X12_entryFor, az_iok az_ms (az_o 12) yX12_entryFor.name cX12_entryFor q := az_tc_ok az_pool_ok az_mok_all.1 12 false (fun h => by cases h) (by decide +kernel)
set_option maxRecDepth 20000 in
theorem az_t181 : ∀ q ∈ k_X12_heightOf, az_iok az_ms (az_o 12) yX12_heightOf.name cX12_heightOf q := az_tc_ok az_pool_ok az_mok_all.1 12 false (fun h => by cases h) (by decide +kernel)
set_option maxRecDepth 20000 in
theorem az_t182 : ∀ q ∈ k_X12_height, az_iok az_ms (az_o 12) yX12_height.name cX12_height q := az_tc_ok az_pool_ok az_mok_all.1 12 false (fun h => by cases h) (by decide +kernel)
set_option maxRecDepth 20000 in
theorem az_t183 : ∀ q ∈ k_X12_isOpen, az_iok az_ms (az_o 12) yX12_isOpen.name cX12_isOpen q := az_tc_ok az_pool_ok az_mok_all.1 12 false (fun h => by cases h) (by decide +kernel)
set_option maxRecDepth 20000 in
theorem az_t184 : ∀ q ∈ k_X12_below, az_iok az_ms (az_o 12) yX12_below.name cX12_below q := az_tc_ok az_pool_ok az_mok_all.1 12 false (fun h => by cases h) (by decide +kernel)
set_option maxRecDepth 20000 in
theorem az_t185 : ∀ q ∈ k_X12_pointOf, az_iok az_ms (az_o 12) yX12_pointOf.name cX12_pointOf q := az_tc_ok az_pool_ok az_mok_all.1 12 false (fun h => by cases h) (by decide +kernel)
set_option maxRecDepth 20000 in
theorem az_t186 : ∀ q ∈ k_X12_shades, az_iok az_ms (az_o 12) yX12_shades.name cX12_shades q := az_tc_ok az_pool_ok az_mok_all.1 12 false (fun h => by cases h) (by decide +kernel)
set_option maxRecDepth 20000 in
theorem az_t187 : ∀ q ∈ k_X12_looks, az_iok az_ms (az_o 12) yX12_looks.name cX12_looks q := az_tc_ok az_pool_ok az_mok_all.1 12 false (fun h => by cases h) (by decide +kernel)
