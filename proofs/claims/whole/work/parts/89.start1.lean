/-! ===== THE START: all is well once both are made ===== -/
theorem mst_some : MstO.isSome = true := by decide +kernel
theorem mst_k : ∀ q, q < 207 → mK Mst q = kTab.getD q 0 := by decide +kernel
theorem mst_n : ∀ q, q < 207 → mN Mst q = nTab.getD q 0 := by decide +kernel
theorem mst_r1 : mR Mst 124 1 = 126 ∧ mR Mst 124 2 = 127 := by decide +kernel
theorem mst_r_0 : ∀ q, q < 30 → ∀ k, k < 45 → mR Mst (0 + q) k = (rTab.getD (0 + q) []).getD k 0 := by decide +kernel
theorem mst_r_30 : ∀ q, q < 30 → ∀ k, k < 45 → mR Mst (30 + q) k = (rTab.getD (30 + q) []).getD k 0 := by decide +kernel
theorem mst_r_60 : ∀ q, q < 30 → ∀ k, k < 45 → mR Mst (60 + q) k = (rTab.getD (60 + q) []).getD k 0 := by decide +kernel
theorem mst_r_90 : ∀ q, q < 30 → ∀ k, k < 45 → mR Mst (90 + q) k = (rTab.getD (90 + q) []).getD k 0 := by decide +kernel
theorem mst_r_120 : ∀ q, q < 30 → ∀ k, k < 45 → mR Mst (120 + q) k = (rTab.getD (120 + q) []).getD k 0 := by decide +kernel
theorem mst_r_150 : ∀ q, q < 30 → ∀ k, k < 45 → mR Mst (150 + q) k = (rTab.getD (150 + q) []).getD k 0 := by decide +kernel
theorem mst_r_180 : ∀ q, q < 27 → ∀ k, k < 45 → mR Mst (180 + q) k = (rTab.getD (180 + q) []).getD k 0 := by decide +kernel
theorem mst_r : ∀ q, q < 207 → ∀ k, k < 45 → mR Mst q k = (rTab.getD q []).getD k 0 := by
  intro q hq k hk
  by_cases h0 : q < 30
  · have := mst_r_0 (q - 0) (by omega) k hk
    rwa [show 0 + (q - 0) = q by omega] at this
  by_cases h30 : q < 60
  · have := mst_r_30 (q - 30) (by omega) k hk
    rwa [show 30 + (q - 30) = q by omega] at this
  by_cases h60 : q < 90
  · have := mst_r_60 (q - 60) (by omega) k hk
    rwa [show 60 + (q - 60) = q by omega] at this
  by_cases h90 : q < 120
  · have := mst_r_90 (q - 90) (by omega) k hk
    rwa [show 90 + (q - 90) = q by omega] at this
  by_cases h120 : q < 150
  · have := mst_r_120 (q - 120) (by omega) k hk
    rwa [show 120 + (q - 120) = q by omega] at this
  by_cases h150 : q < 180
  · have := mst_r_150 (q - 150) (by omega) k hk
    rwa [show 150 + (q - 150) = q by omega] at this
  have := mst_r_180 (q - 180) (by omega) k hk
  rwa [show 180 + (q - 180) = q by omega] at this
