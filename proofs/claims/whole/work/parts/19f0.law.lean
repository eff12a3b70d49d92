set_option maxRecDepth 20000 in
theorem az_tlaw0 (nm : String) : ∀ q ∈ k_L_law0, az_iok az_ms (az_o 25) nm cL_law q := az_tc_ok az_pool_ok az_mok_all.1 25 false (fun h => by cases h) (by decide +kernel)
set_option maxRecDepth 20000 in
theorem az_tlaw1 (nm : String) : ∀ q ∈ k_L_law1, az_iok az_ms (az_o 25) nm cL_law q := az_tc_ok az_pool_ok az_mok_all.1 25 false (fun h => by cases h) (by decide +kernel)
set_option maxRecDepth 20000 in
theorem az_tlaw2 (nm : String) : ∀ q ∈ k_L_law2, az_iok az_ms (az_o 25) nm cL_law q := az_tc_ok az_pool_ok az_mok_all.1 25 false (fun h => by cases h) (by decide +kernel)
set_option maxRecDepth 20000 in
theorem az_tlaw3 (nm : String) : ∀ q ∈ k_L_law3, az_iok az_ms (az_o 25) nm cL_law q := az_tc_ok az_pool_ok az_mok_all.1 25 false (fun h => by cases h) (by decide +kernel)
set_option maxRecDepth 20000 in
theorem az_tlaw4 (nm : String) : ∀ q ∈ k_L_law4, az_iok az_ms (az_o 25) nm cL_law q := az_tc_ok az_pool_ok az_mok_all.1 25 false (fun h => by cases h) (by decide +kernel)
