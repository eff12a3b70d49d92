set_option maxRecDepth 20000 in
theorem az_mb141 : az_mP (yX11_mayStand, cX11_mayStand, 6, (some .boolean)) := ⟨az_cIn (k := 2) (j := 220) rfl, 1001, by decide +kernel⟩
set_option maxRecDepth 20000 in
theorem az_mb142 : az_mP (yX11_isBuiltOn, cX11_isBuiltOn, 4, (some .boolean)) := ⟨az_cIn (k := 2) (j := 236) rfl, 1001, by decide +kernel⟩
set_option maxRecDepth 20000 in
theorem az_mb143 : az_mP (yX11_addThing, cX11_addThing, 3, (some .int)) := ⟨az_cIn (k := 3) (j := 65) rfl, 1001, by decide +kernel⟩
set_option maxRecDepth 20000 in
theorem az_mb144 : az_mP (yX11_standingNow, cX11_standingNow, 3, (some .int)) := ⟨az_cIn (k := 6) (j := 28) rfl, 1001, by decide +kernel⟩
set_option maxRecDepth 20000 in
theorem az_mb145 : az_mP (yX11_nearestHeight, cX11_nearestHeight, 12, (some .int)) := ⟨az_cIn (k := 3) (j := 115) rfl, 1001, by decide +kernel⟩
set_option maxRecDepth 20000 in
theorem az_mb146 : az_mP (yX11_findHolders, cX11_findHolders, 8, none) := ⟨az_cIn (k := 3) (j := 228) rfl, 1001, by decide +kernel⟩
set_option maxRecDepth 20000 in
theorem az_mb147 : az_mP (yX11_heldBy, cX11_heldBy, 7, (some .int)) := ⟨az_cIn (k := 4) (j := 45) rfl, 1001, by decide +kernel⟩
set_option maxRecDepth 20000 in
theorem az_mb148 : az_mP (yX11_partsOnDay, cX11_partsOnDay, 8, (some .long)) := ⟨az_cIn (k := 4) (j := 73) rfl, 1001, by decide +kernel⟩
set_option maxRecDepth 20000 in
theorem az_mb149 : az_mP (yX11_partsOverYear, cX11_partsOverYear, 6, (some .long)) := ⟨az_cIn (k := 4) (j := 86) rfl, 1001, by decide +kernel⟩
set_option maxRecDepth 20000 in
theorem az_mb150 : az_mP (yX11_chargeOf, cX11_chargeOf, 9, (some .long)) := ⟨az_cIn (k := 5) (j := 156) rfl, 1001, by decide +kernel⟩
set_option maxRecDepth 20000 in
theorem az_mb151 : az_mP (yX11_mayTake, cX11_mayTake, 7, (some .boolean)) := ⟨az_cIn (k := 5) (j := 131) rfl, 1001, by decide +kernel⟩
set_option maxRecDepth 20000 in
theorem az_mb152 : az_mP (yX11_leadThroughHour, cX11_leadThroughHour, 8, none) := ⟨az_cIn (k := 5) (j := 177) rfl, 1001, by decide +kernel⟩
set_option maxRecDepth 20000 in
theorem az_mb153 : az_mP (yX11_mayWalk, cX11_mayWalk, 5, (some .boolean)) := ⟨az_cIn (k := 5) (j := 188) rfl, 1001, by decide +kernel⟩
set_option maxRecDepth 20000 in
theorem az_mb154 : az_mP (yX11_bestTree, cX11_bestTree, 6, (some .int)) := ⟨az_cIn (k := 6) (j := 3) rfl, 1001, by decide +kernel⟩
set_option maxRecDepth 20000 in
theorem az_mb155 : az_mP (yX11_hasStall, cX11_hasStall, 5, (some .boolean)) := ⟨az_cIn (k := 6) (j := 7) rfl, 1001, by decide +kernel⟩
set_option maxRecDepth 20000 in
theorem az_mb156 : az_mP (yX11_serveHour, cX11_serveHour, 6, none) := ⟨az_cIn (k := 6) (j := 11) rfl, 1001, by decide +kernel⟩
set_option maxRecDepth 20000 in
theorem az_mb157 : az_mP (yX11_servePlace, cX11_servePlace, 12, none) := ⟨az_cIn (k := 6) (j := 15) rfl, 1001, by decide +kernel⟩
set_option maxRecDepth 20000 in
theorem az_mb158 : az_mP (yX12_init, cX12_init, 5, none) := ⟨az_cIn (k := 6) (j := 36) rfl, 1013, by decide +kernel⟩
set_option maxRecDepth 20000 in
theorem az_mb159 : az_mP (yX12_in, cX12_in, 6, (some .boolean)) := ⟨az_cIn (k := 7) (j := 76) rfl, 1013, by decide +kernel⟩
set_option maxRecDepth 20000 in
theorem az_mb160 : az_mP (yX12_isDay, cX12_isDay, 1, (some .boolean)) := ⟨az_cIn (k := 7) (j := 93) rfl, 1013, by decide +kernel⟩
set_option maxRecDepth 20000 in
theorem az_mb161 : az_mP (yX12_isHour, cX12_isHour, 1, (some .boolean)) := ⟨az_cIn (k := 7) (j := 84) rfl, 1013, by decide +kernel⟩
set_option maxRecDepth 20000 in
theorem az_mb162 : az_mP (yX12_isCell, cX12_isCell, 2, (some .boolean)) := ⟨az_cIn (k := 7) (j := 122) rfl, 1013, by decide +kernel⟩
set_option maxRecDepth 20000 in
theorem az_mb163 : az_mP (yX12_isPerson, cX12_isPerson, 2, (some .boolean)) := ⟨az_cIn (k := 7) (j := 110) rfl, 1013, by decide +kernel⟩
set_option maxRecDepth 20000 in
theorem az_mb164 : az_mP (yX12_isThing, cX12_isThing, 2, (some .boolean)) := ⟨az_cIn (k := 7) (j := 150) rfl, 1013, by decide +kernel⟩
set_option maxRecDepth 20000 in
theorem az_mb165 : az_mP (yX12_monthOf, cX12_monthOf, 1, (some .int)) := ⟨az_cIn (k := 7) (j := 189) rfl, 1013, by decide +kernel⟩
set_option maxRecDepth 20000 in
theorem az_mb166 : az_mP (yX12_days, cX12_days, 2, (some .int)) := ⟨az_cIn (k := 7) (j := 72) rfl, 1013, by decide +kernel⟩
set_option maxRecDepth 20000 in
theorem az_mb167 : az_mP (yX12_sun, cX12_sun, 5, (some .boolean)) := ⟨az_cIn (k := 7) (j := 80) rfl, 1013, by decide +kernel⟩
set_option maxRecDepth 20000 in
theorem az_mb168 : az_mP (yX12_isCloud, cX12_isCloud, 5, (some .boolean)) := ⟨az_cIn (k := 7) (j := 98) rfl, 1013, by decide +kernel⟩
set_option maxRecDepth 20000 in
theorem az_mb169 : az_mP (yX12_cloud, cX12_cloud, 3, (some .int)) := ⟨az_cIn (k := 7) (j := 90) rfl, 1013, by decide +kernel⟩
set_option maxRecDepth 20000 in
theorem az_mb170 : az_mP (yX12_person, cX12_person, 1, (some .int)) := ⟨az_cIn (k := 7) (j := 102) rfl, 1013, by decide +kernel⟩
set_option maxRecDepth 20000 in
theorem az_mb171 : az_mP (yX12_died, cX12_died, 3, (some .boolean)) := ⟨az_cIn (k := 7) (j := 106) rfl, 1013, by decide +kernel⟩
set_option maxRecDepth 20000 in
theorem az_mb172 : az_mP (yX12_mayStand, cX12_mayStand, 6, (some .boolean)) := ⟨az_cIn (k := 7) (j := 118) rfl, 1013, by decide +kernel⟩
set_option maxRecDepth 20000 in
theorem az_mb173 : az_mP (yX12_stands, cX12_stands, 6, (some .int)) := ⟨az_cIn (k := 7) (j := 127) rfl, 1013, by decide +kernel⟩
set_option maxRecDepth 20000 in
theorem az_mb174 : az_mP (yX12_enters, cX12_enters, 5, none) := ⟨az_cIn (k := 7) (j := 131) rfl, 1013, by decide +kernel⟩
set_option maxRecDepth 20000 in
theorem az_mb175 : az_mP (yX12_wall, cX12_wall, 4, (some .int)) := ⟨az_cIn (k := 7) (j := 114) rfl, 1013, by decide +kernel⟩
set_option maxRecDepth 20000 in
theorem az_mb176 : az_mP (yX12_tree, cX12_tree, 6, (some .int)) := ⟨az_cIn (k := 7) (j := 135) rfl, 1013, by decide +kernel⟩
set_option maxRecDepth 20000 in
theorem az_mb177 : az_mP (yX12_pole, cX12_pole, 7, (some .int)) := ⟨az_cIn (k := 7) (j := 140) rfl, 1013, by decide +kernel⟩
set_option maxRecDepth 20000 in
theorem az_mb178 : az_mP (yX12_raise, cX12_raise, 4, (some .int)) := ⟨az_cIn (k := 7) (j := 146) rfl, 1013, by decide +kernel⟩
set_option maxRecDepth 20000 in
theorem az_mb179 : az_mP (yX12_fell, cX12_fell, 3, (some .boolean)) := ⟨az_cIn (k := 7) (j := 154) rfl, 1013, by decide +kernel⟩
set_option maxRecDepth 20000 in
theorem az_mb180 : az_mP (yX12_entryFor, cX12_entryFor, 6, (some .int)) := ⟨az_cIn (k := 7) (j := 166) rfl, 1013, by decide +kernel⟩
set_option maxRecDepth 20000 in
theorem az_mb181 : az_mP (yX12_heightOf, cX12_heightOf, 6, (some .int)) := ⟨az_cIn (k := 7) (j := 162) rfl, 1013, by decide +kernel⟩
set_option maxRecDepth 20000 in
theorem az_mb182 : az_mP (yX12_height, cX12_height, 4, (some .int)) := ⟨az_cIn (k := 7) (j := 158) rfl, 1013, by decide +kernel⟩
set_option maxRecDepth 20000 in
theorem az_mb183 : az_mP (yX12_isOpen, cX12_isOpen, 6, (some .boolean)) := ⟨az_cIn (k := 8) (j := 180) rfl, 1013, by decide +kernel⟩
set_option maxRecDepth 20000 in
theorem az_mb184 : az_mP (yX12_below, cX12_below, 1, (some .int)) := ⟨az_cIn (k := 7) (j := 192) rfl, 1013, by decide +kernel⟩
set_option maxRecDepth 20000 in
theorem az_mb185 : az_mP (yX12_pointOf, cX12_pointOf, 10, (some .int)) := ⟨az_cIn (k := 7) (j := 186) rfl, 1013, by decide +kernel⟩
set_option maxRecDepth 20000 in
theorem az_mb186 : az_mP (yX12_shades, cX12_shades, 9, none) := ⟨az_cIn (k := 7) (j := 182) rfl, 1013, by decide +kernel⟩
set_option maxRecDepth 20000 in
theorem az_mb187 : az_mP (yX12_looks, cX12_looks, 6, none) := ⟨az_cIn (k := 7) (j := 178) rfl, 1013, by decide +kernel⟩
