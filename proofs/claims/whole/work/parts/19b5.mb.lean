set_option maxRecDepth 20000 in
theorem az_mb235 : az_mP (yX12_gives, cX12_gives, 8, (some .int)) := ⟨az_cIn (k := 8) (j := 149) rfl, 1013, by decide +kernel⟩
set_option maxRecDepth 20000 in
theorem az_mb236 : az_mP (yX12_stall, cX12_stall, 5, (some .int)) := ⟨az_cIn (k := 8) (j := 168) rfl, 1013, by decide +kernel⟩
set_option maxRecDepth 20000 in
theorem az_mb237 : az_mP (yX12_mayPlace, cX12_mayPlace, 6, (some .boolean)) := ⟨az_cIn (k := 8) (j := 176) rfl, 1013, by decide +kernel⟩
set_option maxRecDepth 20000 in
theorem az_mb238 : az_mP (yX12_place, cX12_place, 4, (some .boolean)) := ⟨az_cIn (k := 8) (j := 172) rfl, 1013, by decide +kernel⟩
set_option maxRecDepth 20000 in
theorem az_mb239 : az_mP (yX12_placeOf, cX12_placeOf, 3, (some .int)) := ⟨az_cIn (k := 8) (j := 184) rfl, 1013, by decide +kernel⟩
set_option maxRecDepth 20000 in
theorem az_mb240 : az_mP (yX12_charge, cX12_charge, 11, (some .long)) := ⟨az_cIn (k := 8) (j := 192) rfl, 1013, by decide +kernel⟩
set_option maxRecDepth 20000 in
theorem az_mb241 : az_mP (yX12_fees, cX12_fees, 8, (some .long)) := ⟨az_cIn (k := 8) (j := 188) rfl, 1013, by decide +kernel⟩
set_option maxRecDepth 20000 in
theorem az_mb242 : az_mP (yX12_isTaken, cX12_isTaken, 6, (some .boolean)) := ⟨az_cIn (k := 8) (j := 200) rfl, 1013, by decide +kernel⟩
set_option maxRecDepth 20000 in
theorem az_mb243 : az_mP (yX12_beside, cX12_beside, 5, (some .int)) := ⟨az_cIn (k := 8) (j := 208) rfl, 1013, by decide +kernel⟩
set_option maxRecDepth 20000 in
theorem az_mb244 : az_mP (yX12_nextOf, cX12_nextOf, 8, (some .int)) := ⟨az_cIn (k := 8) (j := 204) rfl, 1013, by decide +kernel⟩
set_option maxRecDepth 20000 in
theorem az_mb245 : az_mP (yX12_walk, cX12_walk, 12, (some .int)) := ⟨az_cIn (k := 8) (j := 196) rfl, 1013, by decide +kernel⟩
set_option maxRecDepth 20000 in
theorem az_mb246 : az_mP (yX12_walked, cX12_walked, 2, (some .long)) := ⟨az_cIn (k := 8) (j := 212) rfl, 1013, by decide +kernel⟩
set_option maxRecDepth 20000 in
theorem az_mb247 : az_mP (yX12_servedBy, cX12_servedBy, 8, (some .int)) := ⟨az_cIn (k := 8) (j := 224) rfl, 1013, by decide +kernel⟩
set_option maxRecDepth 20000 in
theorem az_mb248 : az_mP (yX12_seeks, cX12_seeks, 7, (some .int)) := ⟨az_cIn (k := 8) (j := 220) rfl, 1013, by decide +kernel⟩
set_option maxRecDepth 20000 in
theorem az_mb249 : az_mP (yX12_best, cX12_best, 3, (some .int)) := ⟨az_cIn (k := 8) (j := 216) rfl, 1013, by decide +kernel⟩
set_option maxRecDepth 20000 in
theorem az_mb250 : az_mP (yX12_serves, cX12_serves, 4, (some .int)) := ⟨az_cIn (k := 8) (j := 228) rfl, 1013, by decide +kernel⟩
set_option maxRecDepth 20000 in
theorem az_mb251 : az_mP (yX12_about, cX12_about, 4, (some .int)) := ⟨az_cIn (k := 8) (j := 232) rfl, 1013, by decide +kernel⟩
set_option maxRecDepth 20000 in
theorem az_mb252 : az_mP (yJ6_bitCount_0f7a4, cJ6_bitCount_0f7a4, 1, (some .int)) := ⟨az_cIn (k := 4) (j := 53) rfl, 1022, by decide +kernel⟩
set_option maxRecDepth 20000 in
theorem az_mb253 : az_mP (yJ9_floorDiv_7cf53, cJ9_floorDiv_7cf53, 3, (some .int)) := ⟨az_cIn (k := 3) (j := 140) rfl, 1003, by decide +kernel⟩
set_option maxRecDepth 20000 in
theorem az_mb254 : az_mP (yJ9_abs_0f7a4, cJ9_abs_0f7a4, 1, (some .int)) := ⟨az_cIn (k := 1) (j := 43) rfl, 1003, by decide +kernel⟩
set_option maxRecDepth 20000 in
theorem az_mb255 : az_mP (yJ9_max_7cf53, cJ9_max_7cf53, 2, (some .int)) := ⟨az_cIn (k := 1) (j := 153) rfl, 1003, by decide +kernel⟩
set_option maxRecDepth 20000 in
theorem az_mb256 : az_mP (yJ9_max_f86c9, cJ9_max_f86c9, 4, (some .long)) := ⟨az_cIn (k := 5) (j := 97) rfl, 1003, by decide +kernel⟩
set_option maxRecDepth 20000 in
theorem az_mb257 : az_mP (yJ9_min_7cf53, cJ9_min_7cf53, 2, (some .int)) := ⟨az_cIn (k := 1) (j := 150) rfl, 1003, by decide +kernel⟩
set_option maxRecDepth 20000 in
theorem az_mb258 : az_mP (yJ9_min_f86c9, cJ9_min_f86c9, 4, (some .long)) := ⟨az_cIn (k := 5) (j := 94) rfl, 1003, by decide +kernel⟩
set_option maxRecDepth 20000 in
theorem az_mb259 : az_mP (yJ0_length_8abf5, cJ0_length_8abf5, 1, (some .int)) := ⟨az_cIn (k := 4) (j := 147) rfl, 1023, by decide +kernel⟩
set_option maxRecDepth 20000 in
theorem az_mb260 : az_mP (yJ0_charAt_5068e, cJ0_charAt_5068e, 2, (some .char)) := ⟨az_cIn (k := 4) (j := 157) rfl, 1023, by decide +kernel⟩
set_option maxRecDepth 20000 in
theorem az_mb261 : az_mP (yJ0_coder_7d493, cJ0_coder_7d493, 1, (some .byte)) := ⟨az_cIn (k := 4) (j := 151) rfl, 1023, by decide +kernel⟩
set_option maxRecDepth 20000 in
theorem az_mb262 : az_mP (yJ0_isLatin1_aae02, cJ0_isLatin1_aae02, 1, (some .boolean)) := ⟨az_cIn (k := 4) (j := 161) rfl, 1023, by decide +kernel⟩
set_option maxRecDepth 20000 in
theorem az_mb263 : az_mP (yJ0_checkIndex_df160, cJ0_checkIndex_df160, 2, none) := ⟨az_cIn (k := 4) (j := 167) rfl, 1023, by decide +kernel⟩
set_option maxRecDepth 20000 in
theorem az_mb264 : az_mP (yJ1_charAt_3b067, cJ1_charAt_3b067, 2, (some .char)) := ⟨az_cIn (k := 4) (j := 164) rfl, 1024, by decide +kernel⟩
set_option maxRecDepth 20000 in
theorem az_mb265 : az_mP (yJxa1e45_init_da8c8, cJxa1e45_init_da8c8, 1, none) := ⟨az_cIn (k := 1) (j := 69) rfl, 1004, by decide +kernel⟩
set_option maxRecDepth 20000 in
theorem az_mb266 : az_mP (yJxc12de_init_da8c8, cJxc12de_init_da8c8, 1, none) := ⟨az_cIn (k := 1) (j := 66) rfl, 1005, by decide +kernel⟩
set_option maxRecDepth 20000 in
theorem az_mb267 : az_mP (yJx4a65c_init_da8c8, cJx4a65c_init_da8c8, 1, none) := ⟨az_cIn (k := 1) (j := 63) rfl, 1006, by decide +kernel⟩
set_option maxRecDepth 20000 in
theorem az_mb268 : az_mP (yJx4a65c_grow_92f84, cJx4a65c_grow_92f84, 4, (some (.array (.object "java/lang/Object")))) := ⟨az_cIn (k := 2) (j := 149) rfl, 1006, by decide +kernel⟩
set_option maxRecDepth 20000 in
theorem az_mb269 : az_mP (yJx4a65c_grow_d5877, cJx4a65c_grow_d5877, 1, (some (.array (.object "java/lang/Object")))) := ⟨az_cIn (k := 2) (j := 145) rfl, 1006, by decide +kernel⟩
set_option maxRecDepth 20000 in
theorem az_mb270 : az_mP (yJx4a65c_size_8abf5, cJx4a65c_size_8abf5, 1, (some .int)) := ⟨az_cIn (k := 2) (j := 118) rfl, 1006, by decide +kernel⟩
set_option maxRecDepth 20000 in
theorem az_mb271 : az_mP (yJx4a65c_elementData_915e3, cJx4a65c_elementData_915e3, 2, (some (.object "java/lang/Object"))) := ⟨az_cIn (k := 2) (j := 212) rfl, 1006, by decide +kernel⟩
set_option maxRecDepth 20000 in
theorem az_mb272 : az_mP (yJx4a65c_get_915e3, cJx4a65c_get_915e3, 2, (some (.object "java/lang/Object"))) := ⟨az_cIn (k := 2) (j := 202) rfl, 1006, by decide +kernel⟩
set_option maxRecDepth 20000 in
theorem az_mb273 : az_mP (yJx4a65c_add_72be8, cJx4a65c_add_72be8, 4, none) := ⟨az_cIn (k := 2) (j := 141) rfl, 1006, by decide +kernel⟩
set_option maxRecDepth 20000 in
theorem az_mb274 : az_mP (yJx4a65c_add_9ea2d, cJx4a65c_add_9ea2d, 2, (some .boolean)) := ⟨az_cIn (k := 2) (j := 137) rfl, 1006, by decide +kernel⟩
set_option maxRecDepth 20000 in
theorem az_mb275 : az_mP (yJ7_fill_53178, cJ7_fill_53178, 4, none) := ⟨az_cIn (k := 4) (j := 20) rfl, 1016, by decide +kernel⟩
set_option maxRecDepth 20000 in
theorem az_mb276 : az_mP (yJ7_copyOf_1904c, cJ7_copyOf_1904c, 2, (some (.array (.object "java/lang/Object")))) := ⟨az_cIn (k := 2) (j := 160) rfl, 1016, by decide +kernel⟩
set_option maxRecDepth 20000 in
theorem az_mb277 : az_mP (yJ7_copyOf_6403c, cJ7_copyOf_6403c, 4, (some (.array (.object "java/lang/Object")))) := ⟨az_cIn (k := 2) (j := 181) rfl, 1016, by decide +kernel⟩
set_option maxRecDepth 20000 in
theorem az_mb278 : az_mP (yJ15_checkIndex_7cf53, cJ15_checkIndex_7cf53, 2, (some .int)) := ⟨az_cIn (k := 2) (j := 205) rfl, 1018, by decide +kernel⟩
set_option maxRecDepth 20000 in
theorem az_mb279 : az_mP (yJ8_newLength_cabcc, cJ8_newLength_cabcc, 4, (some .int)) := ⟨az_cIn (k := 2) (j := 152) rfl, 1015, by decide +kernel⟩
set_option maxRecDepth 20000 in
theorem az_mb280 : az_mP (yJ3_checkIndex_8e157, cJ3_checkIndex_8e157, 3, (some .int)) := ⟨az_cIn (k := 2) (j := 208) rfl, 1019, by decide +kernel⟩
set_option maxRecDepth 20000 in
theorem az_mb281 : az_mP (yL_cell, cL_cell, 2, (some .int)) := ⟨az_cIn (k := 6) (j := 31) rfl, 1000, by decide +kernel⟩
