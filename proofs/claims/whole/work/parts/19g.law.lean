theorem az_tlaw : ∀ q ∈ k_L_law, az_iok az_ms (az_o 25) yL_law.name cL_law q := by
  intro q hq
  unfold k_L_law at hq
  simp only [List.mem_append] at hq
  rcases hq with h | h | h | h | h | h | h | h | h | h | h | h | h | h
  · exact az_tlaw0 q h
  · exact az_tlaw1 q h
  · exact az_tlaw2 q h
  · exact az_tlaw3 q h
  · exact az_tlaw4 q h
  · exact az_tlaw5 q h
  · exact az_tlaw6 q h
  · exact az_tlaw7 q h
  · exact az_tlaw8 q h
  · exact az_tlaw9 q h
  · exact az_tlaw10 q h
  · exact az_tlaw11 q h
  · exact az_tlaw12 q h
  · exact az_tlaw13 q h
