set_option maxRecDepth 20000 in
theorem az_pool4_ok : az_pool4.all (az_pb az_ms) = true := by decide +kernel
