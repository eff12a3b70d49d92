set_option maxRecDepth 20000 in
theorem az_tlaw10 (nm : String) : ∀ q ∈ k_L_law10, az_iok az_ms (az_o 25) nm cL_law q := az_tc_ok az_pool_ok az_mok_all.1 25 false (fun h => by cases h) (by decide +kernel)
set_option maxRecDepth 20000 in
theorem az_tlaw11 (nm : String) : ∀ q ∈ k_L_law11, az_iok az_ms (az_o 25) nm cL_law q := az_tc_ok az_pool_ok az_mok_all.1 25 false (fun h => by cases h) (by decide +kernel)
set_option maxRecDepth 20000 in
theorem az_tlaw12 (nm : String) : ∀ q ∈ k_L_law12, az_iok az_ms (az_o 25) nm cL_law q := az_tc_ok az_pool_ok az_mok_all.1 25 false (fun h => by cases h) (by decide +kernel)
set_option maxRecDepth 20000 in
theorem az_tlaw13 (nm : String) : ∀ q ∈ k_L_law13, az_iok az_ms (az_o 25) nm cL_law q := az_tc_ok az_pool_ok az_mok_all.1 25 false (fun h => by cases h) (by decide +kernel)
