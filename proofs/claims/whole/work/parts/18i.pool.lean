set_option maxRecDepth 20000 in
theorem az_pool7_ok : az_pool7.all (az_pb az_ms) = true := by decide +kernel
