set_option maxRecDepth 20000 in
theorem az_pool0_ok : az_pool0.all (az_pb az_ms) = true := by decide +kernel
