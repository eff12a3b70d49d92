set_option maxRecDepth 20000 in
theorem az_t235 : ∀ q ∈ k_X12_gives, az_iok az_ms (az_o 12) yX12_gives.name cX12_gives q := az_tc_ok az_pool_ok az_mok_all.1 12 false (fun h => by cases h) (by decide +kernel)
set_option maxRecDepth 20000 in
theorem az_t236 : ∀ q ∈ k_X12_stall, az_iok az_ms (az_o 12) yX12_stall.name cX12_stall q := az_tc_ok az_pool_ok az_mok_all.1 12 false (fun h => by cases h) (by decide +kernel)
set_option maxRecDepth 20000 in
theorem az_t237 : ∀ q ∈ k_X12_mayPlace, az_iok az_ms (az_o 12) yX12_mayPlace.name cX12_mayPlace q := az_tc_ok az_pool_ok az_mok_all.1 12 false (fun h => by cases h) (by decide +kernel)
set_option maxRecDepth 20000 in
theorem az_t238 : ∀ q ∈ k_X12_place, az_iok az_ms (az_o 12) yX12_place.name cX12_place q := az_tc_ok az_pool_ok az_mok_all.1 12 false (fun h => by cases h) (by decide +kernel)
set_option maxRecDepth 20000 in
theorem az_t239 : ∀ q ∈ k_X12_placeOf, az_iok az_ms (az_o 12) yX12_placeOf.name cX12_placeOf q := az_tc_ok az_pool_ok az_mok_all.1 12 false (fun h => by cases h) (by decide +kernel)
set_option maxRecDepth 20000 in
theorem az_t240 : ∀ q ∈ k_X12_charge, az_iok az_ms (az_o 12) yX12_charge.name cX12_charge q := az_tc_ok az_pool_ok az_mok_all.1 12 false (fun h => by cases h) (by decide +kernel)
set_option maxRecDepth 20000 in
theorem az_t241 : ∀ q ∈ k_X12_fees, az_iok az_ms (az_o 12) yX12_fees.name cX12_fees q := az_tc_ok az_pool_ok az_mok_all.1 12 false (fun h => by cases h) (by decide +kernel)
set_option maxRecDepth 20000 in
theorem az_t242 : ∀ q ∈ k_X12_isTaken, az_iok az_ms (az_o 12) yX12_isTaken.name cX12_isTaken q := az_tc_ok az_pool_ok az_mok_all.1 12 false (fun h => by cases h) (by decide +kernel)
set_option maxRecDepth 20000 in
theorem az_t243 : ∀ q ∈ k_X12_beside, az_iok az_ms (az_o 12) yX12_beside.name cX12_beside q := az_tc_ok az_pool_ok az_mok_all.1 12 false (fun h => by cases h) (by decide +kernel)
set_option maxRecDepth 20000 in
theorem az_t244 : ∀ q ∈ k_X12_nextOf, az_iok az_ms (az_o 12) yX12_nextOf.name cX12_nextOf q := az_tc_ok az_pool_ok az_mok_all.1 12 false (fun h => by cases h) (by decide +kernel)
set_option maxRecDepth 20000 in
theorem az_t245 : ∀ q ∈ k_X12_walk, az_iok az_ms (az_o 12) yX12_walk.name cX12_walk q := az_tc_ok az_pool_ok az_mok_all.1 12 false (fun h => by cases h) (by decide +kernel)
set_option maxRecDepth 20000 in
theorem az_t246 : ∀ q ∈ k_X12_walked, az_iok az_ms (az_o 12) yX12_walked.name cX12_walked q := az_tc_ok az_pool_ok az_mok_all.1 12 false (fun h => by cases h) (by decide +kernel)
set_option maxRecDepth 20000 in
theorem az_t247 : ∀ q ∈ k_X12_servedBy, az_iok az_ms (az_o 12) yX12_servedBy.name cX12_servedBy q := az_tc_ok az_pool_ok az_mok_all.1 12 false (fun h => by cases h) (by decide +kernel)
set_option maxRecDepth 20000 in
theorem az_t248 : ∀ q ∈ k_X12_seeks, az_iok az_ms (az_o 12) yX12_seeks.name cX12_seeks q := az_tc_ok az_pool_ok az_mok_all.1 12 false (fun h => by cases h) (by decide +kernel)
set_option maxRecDepth 20000 in
theorem az_t249 : ∀ q ∈ k_X12_best, az_iok az_ms (az_o 12) yX12_best.name cX12_best q := az_tc_ok az_pool_ok az_mok_all.1 12 false (fun h => by cases h) (by decide +kernel)
set_option maxRecDepth 20000 in
theorem az_t250 : ∀ q ∈ k_X12_serves, az_iok az_ms (az_o 12) yX12_serves.name cX12_serves q := az_tc_ok az_pool_ok az_mok_all.1 12 false (fun h => by cases h) (by decide +kernel)
set_option maxRecDepth 20000 in
theorem az_t251 : ∀ q ∈ k_X12_about, az_iok az_ms (az_o 12) yX12_about.name cX12_about q := az_tc_ok az_pool_ok az_mok_all.1 12 false (fun h => by cases h) (by decide +kernel)
set_option maxRecDepth 20000 in
theorem az_t252 : ∀ q ∈ k_J6_bitCount_0f7a4, az_iok az_ms (az_o 20) yJ6_bitCount_0f7a4.name cJ6_bitCount_0f7a4 q := az_tc_ok az_pool_ok az_mok_all.1 20 false (fun h => by cases h) (by decide +kernel)
set_option maxRecDepth 20000 in
theorem az_t253 : ∀ q ∈ k_J9_floorDiv_7cf53, az_iok az_ms (az_o 23) yJ9_floorDiv_7cf53.name cJ9_floorDiv_7cf53 q := az_tc_ok az_pool_ok az_mok_all.1 23 false (fun h => by cases h) (by decide +kernel)
set_option maxRecDepth 20000 in
theorem az_t254 : ∀ q ∈ k_J9_abs_0f7a4, az_iok az_ms (az_o 23) yJ9_abs_0f7a4.name cJ9_abs_0f7a4 q := az_tc_ok az_pool_ok az_mok_all.1 23 false (fun h => by cases h) (by decide +kernel)
set_option maxRecDepth 20000 in
theorem az_t255 : ∀ q ∈ k_J9_max_7cf53, az_iok az_ms (az_o 23) yJ9_max_7cf53.name cJ9_max_7cf53 q := az_tc_ok az_pool_ok az_mok_all.1 23 false (fun h => by cases h) (by decide +kernel)
set_option maxRecDepth 20000 in
theorem az_t256 : ∀ q ∈ k_J9_max_f86c9, az_iok az_ms (az_o 23) yJ9_max_f86c9.name cJ9_max_f86c9 q := az_tc_ok az_pool_ok az_mok_all.1 23 false (fun h => by cases h) (by decide +kernel)
set_option maxRecDepth 20000 in
theorem az_t257 : ∀ q ∈ k_J9_min_7cf53, az_iok az_ms (az_o 23) yJ9_min_7cf53.name cJ9_min_7cf53 q := az_tc_ok az_pool_ok az_mok_all.1 23 false (fun h => by cases h) (by decide +kernel)
set_option maxRecDepth 20000 in
theorem az_t258 : ∀ q ∈ k_J9_min_f86c9, az_iok az_ms (az_o 23) yJ9_min_f86c9.name cJ9_min_f86c9 q := az_tc_ok az_pool_ok az_mok_all.1 23 false (fun h => by cases h) (by decide +kernel)
set_option maxRecDepth 20000 in
theorem az_t259 : ∀ q ∈ k_J0_length_8abf5, az_iok az_ms (az_o 16) yJ0_length_8abf5.name cJ0_length_8abf5 q := az_tc_ok az_pool_ok az_mok_all.1 16 false (fun h => by cases h) (by decide +kernel)
set_option maxRecDepth 20000 in
theorem az_t260 : ∀ q ∈ k_J0_charAt_5068e, az_iok az_ms (az_o 16) yJ0_charAt_5068e.name cJ0_charAt_5068e q := az_tc_ok az_pool_ok az_mok_all.1 16 false (fun h => by cases h) (by decide +kernel)
set_option maxRecDepth 20000 in
theorem az_t261 : ∀ q ∈ k_J0_coder_7d493, az_iok az_ms (az_o 16) yJ0_coder_7d493.name cJ0_coder_7d493 q := az_tc_ok az_pool_ok az_mok_all.1 16 false (fun h => by cases h) (by decide +kernel)
set_option maxRecDepth 20000 in
theorem az_t262 : ∀ q ∈ k_J0_isLatin1_aae02, az_iok az_ms (az_o 16) yJ0_isLatin1_aae02.name cJ0_isLatin1_aae02 q := az_tc_ok az_pool_ok az_mok_all.1 16 false (fun h => by cases h) (by decide +kernel)
set_option maxRecDepth 20000 in
theorem az_t263 : ∀ q ∈ k_J0_checkIndex_df160, az_iok az_ms (az_o 16) yJ0_checkIndex_df160.name cJ0_checkIndex_df160 q := az_tc_ok az_pool_ok az_mok_all.1 16 false (fun h => by cases h) (by decide +kernel)
set_option maxRecDepth 20000 in
theorem az_t264 : ∀ q ∈ k_J1_charAt_3b067, az_iok az_ms (az_o 17) yJ1_charAt_3b067.name cJ1_charAt_3b067 q := az_tc_ok az_pool_ok az_mok_all.1 17 false (fun h => by cases h) (by decide +kernel)
set_option maxRecDepth 20000 in
theorem az_t265 : ∀ q ∈ k_Jxa1e45_init_da8c8, az_iok az_ms (az_o 15) yJxa1e45_init_da8c8.name cJxa1e45_init_da8c8 q := az_tc_ok az_pool_ok az_mok_all.1 15 true (fun _ => rfl) (by decide +kernel)
set_option maxRecDepth 20000 in
theorem az_t266 : ∀ q ∈ k_Jxc12de_init_da8c8, az_iok az_ms (az_o 14) yJxc12de_init_da8c8.name cJxc12de_init_da8c8 q := az_tc_ok az_pool_ok az_mok_all.1 14 true (fun _ => rfl) (by decide +kernel)
set_option maxRecDepth 20000 in
theorem az_t267 : ∀ q ∈ k_Jx4a65c_init_da8c8, az_iok az_ms (az_o 13) yJx4a65c_init_da8c8.name cJx4a65c_init_da8c8 q := az_tc_ok az_pool_ok az_mok_all.1 13 true (fun _ => rfl) (by decide +kernel)
set_option maxRecDepth 20000 in
theorem az_t268 : ∀ q ∈ k_Jx4a65c_grow_92f84, az_iok az_ms (az_o 13) yJx4a65c_grow_92f84.name cJx4a65c_grow_92f84 q := az_tc_ok az_pool_ok az_mok_all.1 13 false (fun h => by cases h) (by decide +kernel)
set_option maxRecDepth 20000 in
theorem az_t269 : ∀ q ∈ k_Jx4a65c_grow_d5877, az_iok az_ms (az_o 13) yJx4a65c_grow_d5877.name cJx4a65c_grow_d5877 q := az_tc_ok az_pool_ok az_mok_all.1 13 false (fun h => by cases h) (by decide +kernel)
set_option maxRecDepth 20000 in
theorem az_t270 : ∀ q ∈ k_Jx4a65c_size_8abf5, az_iok az_ms (az_o 13) yJx4a65c_size_8abf5.name cJx4a65c_size_8abf5 q := az_tc_ok az_pool_ok az_mok_all.1 13 false (fun h => by cases h) (by decide +kernel)
set_option maxRecDepth 20000 in
theorem az_t271 : ∀ q ∈ k_Jx4a65c_elementData_915e3, az_iok az_ms (az_o 13) yJx4a65c_elementData_915e3.name cJx4a65c_elementData_915e3 q := az_tc_ok az_pool_ok az_mok_all.1 13 false (fun h => by cases h) (by decide +kernel)
set_option maxRecDepth 20000 in
theorem az_t272 : ∀ q ∈ k_Jx4a65c_get_915e3, az_iok az_ms (az_o 13) yJx4a65c_get_915e3.name cJx4a65c_get_915e3 q := az_tc_ok az_pool_ok az_mok_all.1 13 false (fun h => by cases h) (by decide +kernel)
set_option maxRecDepth 20000 in
theorem az_t273 : ∀ q ∈ k_Jx4a65c_add_72be8, az_iok az_ms (az_o 13) yJx4a65c_add_72be8.name cJx4a65c_add_72be8 q := az_tc_ok az_pool_ok az_mok_all.1 13 false (fun h => by cases h) (by decide +kernel)
set_option maxRecDepth 20000 in
theorem az_t274 : ∀ q ∈ k_Jx4a65c_add_9ea2d, az_iok az_ms (az_o 13) yJx4a65c_add_9ea2d.name cJx4a65c_add_9ea2d q := az_tc_ok az_pool_ok az_mok_all.1 13 false (fun h => by cases h) (by decide +kernel)
set_option maxRecDepth 20000 in
theorem az_t275 : ∀ q ∈ k_J7_fill_53178, az_iok az_ms (az_o 21) yJ7_fill_53178.name cJ7_fill_53178 q := az_tc_ok az_pool_ok az_mok_all.1 21 false (fun h => by cases h) (by decide +kernel)
set_option maxRecDepth 20000 in
theorem az_t276 : ∀ q ∈ k_J7_copyOf_1904c, az_iok az_ms (az_o 21) yJ7_copyOf_1904c.name cJ7_copyOf_1904c q := az_tc_ok az_pool_ok az_mok_all.1 21 false (fun h => by cases h) (by decide +kernel)
set_option maxRecDepth 20000 in
theorem az_t277 : ∀ q ∈ k_J7_copyOf_6403c, az_iok az_ms (az_o 21) yJ7_copyOf_6403c.name cJ7_copyOf_6403c q := az_tc_ok az_pool_ok az_mok_all.1 21 false (fun h => by cases h) (by decide +kernel)
set_option maxRecDepth 20000 in
theorem az_t278 : ∀ q ∈ k_J15_checkIndex_7cf53, az_iok az_ms (az_o 24) yJ15_checkIndex_7cf53.name cJ15_checkIndex_7cf53 q := az_tc_ok az_pool_ok az_mok_all.1 24 false (fun h => by cases h) (by decide +kernel)
set_option maxRecDepth 20000 in
theorem az_t279 : ∀ q ∈ k_J8_newLength_cabcc, az_iok az_ms (az_o 22) yJ8_newLength_cabcc.name cJ8_newLength_cabcc q := az_tc_ok az_pool_ok az_mok_all.1 22 false (fun h => by cases h) (by decide +kernel)
set_option maxRecDepth 20000 in
theorem az_t280 : ∀ q ∈ k_J3_checkIndex_8e157, az_iok az_ms (az_o 19) yJ3_checkIndex_8e157.name cJ3_checkIndex_8e157 q := az_tc_ok az_pool_ok az_mok_all.1 19 false (fun h => by cases h) (by decide +kernel)
set_option maxRecDepth 20000 in
theorem az_t281 : ∀ q ∈ k_L_cell, az_iok az_ms (az_o 25) yL_cell.name cL_cell q := az_tc_ok az_pool_ok az_mok_all.1 25 false (fun h => by cases h) (by decide +kernel)
