def zzH (k : Nat) : Nat := if k = 4 then 3 else 0
def zzB (k : Nat) : Int32 := if 20 ≤ k then n1 else 0
theorem st_c1 : (mI Mst 4 0 = i32 0 ∧ mI Mst 4 6 = i32 0 ∧ mI Mst 4 9 = i32 0 ∧ mI Mst 4 4 = i32 0 ∧ mI Mst 4 14 = i32 3) ∧ (mI Mst 26 9 = 0 ∧ mI Mst 26 10 = 0 ∧ mI Mst 26 11 = 0 ∧ mI Mst 26 8 = 0) ∧ mI Mst 114 6 = i32 0 ∧ mI Mst 4 15 = i32 0 ∧ (mI Mst 42 1 = i32 0 ∧ mI Mst 42 2 = i32 0) ∧ (mI Mst 137 0 = i32 0 ∧ mI Mst 137 1 = i32 0) ∧ (mI Mst 1 2 = i32 0 ∧ mI Mst 1 10 = i32 0) ∧ mI Mst 0 14 = i32 0 := by decide +kernel
theorem st_c2 : (∀ l, l < 6 → mI Mst 31 l = 0) ∧ (∀ w, w < 4 → mI Mst 32 w = 0) ∧ (∀ b, b < 6 → mI Mst 30 b = 0) ∧ (∀ i, i < 72 → mI Mst 27 i = n1) ∧ (∀ i, i < 72 → mI Mst 28 i = n1) ∧ ∀ b, b < 6 → mI Mst 29 b = 0 := by decide +kernel
theorem st_c3 : ∀ b, b < 6 → cn zzB b = 0 := by decide +kernel
theorem st_c4 : (∀ k, k < 3 → mI Mst 127 (1 + k) = n1) ∧ (∀ l, l < 6 → mI Mst 131 l = n1) ∧ (∀ k, k < 4 → mI Mst 108 (7 + k) = n1) := by decide +kernel
theorem st_c5 : ∀ k, k < 20 → mL Mst 3 k = i64 (cB 32 (kwd k)) := by decide +kernel
theorem st_m1 : (∀ k, k < 5 → mI Mst 188 (0 + k) = i32 (zzH k)) ∧ mI Mst 188 199 = i32 0 ∧ mI Mst 186 24 = i32 0 ∧ (mI Mst 196 0 = i32 0 ∧ mI Mst 196 1 = i32 0) ∧ (mI Mst 186 2 = i32 0 ∧ mI Mst 186 10 = i32 0) ∧ mI Mst 186 27 = i32 0 ∧ mI Mst 186 32 = i32 0 ∧ mI Mst 186 39 = i32 0 ∧ mI Mst 186 34 = i32 0 := by decide +kernel
theorem st_m2 : ∀ k, k < 164 → mI Mst 188 (0 + 35 + k) = zzB k := by decide +kernel
