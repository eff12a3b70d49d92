set_option maxRecDepth 20000 in
theorem az_pool5_ok : az_pool5.all (az_pb az_ms) = true := by decide +kernel
