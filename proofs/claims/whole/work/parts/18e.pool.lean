set_option maxRecDepth 20000 in
theorem az_pool3_ok : az_pool3.all (az_pb az_ms) = true := by decide +kernel
