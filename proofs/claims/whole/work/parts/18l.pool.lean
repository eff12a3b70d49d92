set_option maxRecDepth 20000 in
theorem az_pool10_ok : az_pool10.all (az_pb az_ms) = true := by decide +kernel
