theorem az_tlaw (nm : String) : ∀ q ∈ k_L_law, az_iok az_ms (az_o 25) nm cL_law q := by
  intro q hq
  unfold k_L_law at hq
  simp only [List.mem_append] at hq
  rcases hq with h | h | h | h | h | h | h | h | h | h | h | h | h | h
  · exact az_tlaw0 nm q h
  · exact az_tlaw1 nm q h
  · exact az_tlaw2 nm q h
  · exact az_tlaw3 nm q h
  · exact az_tlaw4 nm q h
  · exact az_tlaw5 nm q h
  · exact az_tlaw6 nm q h
  · exact az_tlaw7 nm q h
  · exact az_tlaw8 nm q h
  · exact az_tlaw9 nm q h
  · exact az_tlaw10 nm q h
  · exact az_tlaw11 nm q h
  · exact az_tlaw12 nm q h
  · exact az_tlaw13 nm q h
