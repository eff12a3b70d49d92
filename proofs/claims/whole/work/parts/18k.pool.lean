set_option maxRecDepth 20000 in
theorem az_pool9_ok : az_pool9.all (az_pb az_ms) = true := by decide +kernel
