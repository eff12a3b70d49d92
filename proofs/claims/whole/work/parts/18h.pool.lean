set_option maxRecDepth 20000 in
theorem az_pool6_ok : az_pool6.all (az_pb az_ms) = true := by decide +kernel
