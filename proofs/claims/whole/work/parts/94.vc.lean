theorem lawPure : LawPure := by
  intro xs Ls hL
  obtain ⟨Mf, h⟩ := law_all (N := 2000) (xs := xs) (by omega) hL 2000 0 (mI Mst) (mL Mst) false (by omega) (by omega) ok_start
  refine ⟨2000, Mf, by omega, ?_⟩
  rw [law_eq, mstP_e, bd_s]
  rw [mk_mst, ← i_0] at h
  dsimp only
  exact h
theorem i_vc : Claimed_1_1 ∧ Claimed_1_2 := i_vc_open lawPure
