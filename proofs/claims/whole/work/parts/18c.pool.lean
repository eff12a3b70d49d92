set_option maxRecDepth 20000 in
theorem az_pool1_ok : az_pool1.all (az_pb az_ms) = true := by decide +kernel
