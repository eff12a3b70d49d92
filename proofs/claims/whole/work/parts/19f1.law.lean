set_option maxRecDepth 20000 in
theorem az_tlaw5 (nm : String) : ∀ q ∈ k_L_law5, az_iok az_ms (az_o 25) nm cL_law q := az_tc_ok az_pool_ok az_mok_all.1 25 false (fun h => by cases h) (by decide +kernel)
set_option maxRecDepth 20000 in
theorem az_tlaw6 (nm : String) : ∀ q ∈ k_L_law6, az_iok az_ms (az_o 25) nm cL_law q := az_tc_ok az_pool_ok az_mok_all.1 25 false (fun h => by cases h) (by decide +kernel)
set_option maxRecDepth 20000 in
theorem az_tlaw7 (nm : String) : ∀ q ∈ k_L_law7, az_iok az_ms (az_o 25) nm cL_law q := az_tc_ok az_pool_ok az_mok_all.1 25 false (fun h => by cases h) (by decide +kernel)
set_option maxRecDepth 20000 in
theorem az_tlaw8 (nm : String) : ∀ q ∈ k_L_law8, az_iok az_ms (az_o 25) nm cL_law q := az_tc_ok az_pool_ok az_mok_all.1 25 false (fun h => by cases h) (by decide +kernel)
set_option maxRecDepth 20000 in
theorem az_tlaw9 (nm : String) : ∀ q ∈ k_L_law9, az_iok az_ms (az_o 25) nm cL_law q := az_tc_ok az_pool_ok az_mok_all.1 25 false (fun h => by cases h) (by decide +kernel)
