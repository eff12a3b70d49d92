set_option maxRecDepth 20000 in
theorem az_pool8_ok : az_pool8.all (az_pb az_ms) = true := by decide +kernel
