set_option maxRecDepth 20000 in
theorem az_pool2_ok : az_pool2.all (az_pb az_ms) = true := by decide +kernel
