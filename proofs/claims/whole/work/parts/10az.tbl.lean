theorem tU0 : ∀ w ∈ u_ws RX0 TX0 12, w ∈ lw_tbl := by decide +kernel
theorem tU1 : ∀ w ∈ u_ws RX1 TX1 11, w ∈ lw_tbl := by decide +kernel
theorem tU2 : ∀ w ∈ u_ws RX2 TX2 2, w ∈ lw_tbl := by decide +kernel
theorem tU3 : ∀ w ∈ u_ws RX3 TX3 3, w ∈ lw_tbl := by decide +kernel
theorem tU4 : ∀ w ∈ u_ws RX4 TX4 4, w ∈ lw_tbl := by decide +kernel
theorem tU5 : ∀ w ∈ u_ws RX5 TX5 3, w ∈ lw_tbl := by decide +kernel
theorem tU6 : ∀ w ∈ u_ws RX6 TX6 5, w ∈ lw_tbl := by decide +kernel
theorem tU7 : ∀ w ∈ u_ws RX7 TX7 7, w ∈ lw_tbl := by decide +kernel
theorem tU8 : ∀ w ∈ u_ws RX8 TX8 17, w ∈ lw_tbl := by decide +kernel
theorem tU9 : ∀ w ∈ u_ws RX9 TX9 12, w ∈ lw_tbl := by decide +kernel
theorem tU10 : ∀ w ∈ u_ws RX10 TX10 19, w ∈ lw_tbl := by decide +kernel
theorem tU11 : ∀ w ∈ u_ws RX11 TX11 45, w ∈ lw_tbl := by decide +kernel
theorem tWX : ∀ w ∈ (nse_at RX10 150).filter goodWord, w ∈ lw_tbl := by decide +kernel
theorem WL_tbl : ∀ w ∈ WL, w ∈ lw_tbl := by
  intro w h
  unfold WL at h
  rcases List.mem_append.mp h with h | h
  · exact tW0 w h
  rcases List.mem_append.mp h with h | h
  · exact tW1 w h
  rcases List.mem_append.mp h with h | h
  · exact tW2 w h
  rcases List.mem_append.mp h with h | h
  · exact tW3 w h
  rcases List.mem_append.mp h with h | h
  · exact tW4 w h
  rcases List.mem_append.mp h with h | h
  · exact tW5 w h
  rcases List.mem_append.mp h with h | h
  · exact tW6 w h
  rcases List.mem_append.mp h with h | h
  · exact tW7 w h
  rcases List.mem_append.mp h with h | h
  · exact tW8 w h
  rcases List.mem_append.mp h with h | h
  · exact tW9 w h
  rcases List.mem_append.mp h with h | h
  · exact tW10 w h
  rcases List.mem_append.mp h with h | h
  · exact tW11 w h
  rcases List.mem_append.mp h with h | h
  · exact tW12 w h
  rcases List.mem_append.mp h with h | h
  · exact tW13 w h
  rcases List.mem_append.mp h with h | h
  · exact tW14 w h
  rcases List.mem_append.mp h with h | h
  · exact tW15 w h
  rcases List.mem_append.mp h with h | h
  · exact tW16 w h
  rcases List.mem_append.mp h with h | h
  · exact tW17 w h
  rcases List.mem_append.mp h with h | h
  · exact tW18 w h
  rcases List.mem_append.mp h with h | h
  · exact tW19 w h
  rcases List.mem_append.mp h with h | h
  · exact tW20 w h
  rcases List.mem_append.mp h with h | h
  · exact tW21 w h
  rcases List.mem_append.mp h with h | h
  · exact tW22 w h
  rcases List.mem_append.mp h with h | h
  · exact tW23 w h
  rcases List.mem_append.mp h with h | h
  · exact tW24 w h
  rcases List.mem_append.mp h with h | h
  · exact tW25 w h
  rcases List.mem_append.mp h with h | h
  · exact tU0 w h
  rcases List.mem_append.mp h with h | h
  · exact tU1 w h
  rcases List.mem_append.mp h with h | h
  · exact tU2 w h
  rcases List.mem_append.mp h with h | h
  · exact tU3 w h
  rcases List.mem_append.mp h with h | h
  · exact tU4 w h
  rcases List.mem_append.mp h with h | h
  · exact tU5 w h
  rcases List.mem_append.mp h with h | h
  · exact tU6 w h
  rcases List.mem_append.mp h with h | h
  · exact tU7 w h
  rcases List.mem_append.mp h with h | h
  · exact tU8 w h
  rcases List.mem_append.mp h with h | h
  · exact tU9 w h
  rcases List.mem_append.mp h with h | h
  · exact tU10 w h
  rcases List.mem_append.mp h with h | h
  · exact tU11 w h
  exact tWX w h
