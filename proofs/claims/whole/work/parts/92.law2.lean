section
variable {N : Nat} {xs : Nat → Int32} {Ls n i : Nat} {I : Nat → Nat → Int32} {L : Nat → Nat → Int64} {r : Bool}
theorem ls_lt (h : Ls ≤ 384) (hi : i ≤ 384) : (Int32.ofNat Ls - 6 < i32 i) ↔ Ls < i + 6 := by
  have e : (i32 Ls - i32 6).toInt = (Ls : Int) - 6 := by
    rw [Int32.toInt_sub, i_toInt (by omega), i_toInt (by omega)]
    rw [Int.bmod_eq_of_le] <;> omega
  show (i32 Ls - i32 6 < i32 i) ↔ _
  rw [Int32.lt_iff_toInt_lt, e, i_toInt (by omega)]; omega
set_option maxRecDepth 20000 in
theorem law_step (hN : 1200 < N) (hL : Ls ≤ 384) (h6 : i + 6 ≤ Ls) (h : Ok I L) : Nx N xs Ls n i (fL_law_L N xs Ls 0 186 206 (n + 1) (i32 i) (mk I L r)) := by
  have s0 : sc xs Ls (i32 i) = some (xs i) := by
    have := sc_k (xs := xs) (k := 0) hL h6 (by omega)
    rw [i_add] at this; exact this
  rw [fL_law_L]
  refine nx_n (fun z => by rw [ls_lt hL (by omega)] at z; omega) (nx_bd s0 ?_)
  refine dite ((xs i &&& 63) = 0) (fun c => nx_p c (lcs_0 hN hL h6 h)) (fun c => nx_n c ?_)
  refine dite ((xs i &&& 63) = 1) (fun c => nx_p c (lcs_1 hN hL h6 h)) (fun c => nx_n c ?_)
  refine dite ((xs i &&& 63) = 2) (fun c => nx_p c (lcs_2 hN hL h6 h)) (fun c => nx_n c ?_)
  refine dite ((xs i &&& 63) = 3) (fun c => nx_p c (lcs_3 hN hL h6 h)) (fun c => nx_n c ?_)
  refine dite ((xs i &&& 63) = 4) (fun c => nx_p c (lcs_4 hN hL h6 h)) (fun c => nx_n c ?_)
  refine dite ((xs i &&& 63) = 5) (fun c => nx_p c (lcs_5 hN hL h6 h)) (fun c => nx_n c ?_)
  refine dite ((xs i &&& 63) = 6) (fun c => nx_p c (lcs_6 hN hL h6 h)) (fun c => nx_n c ?_)
  refine dite ((xs i &&& 63) = 7) (fun c => nx_p c (lcs_7 hN hL h6 h)) (fun c => nx_n c ?_)
  refine dite ((xs i &&& 63) = 8) (fun c => nx_p c (lcs_8 hN hL h6 h)) (fun c => nx_n c ?_)
  refine dite ((xs i &&& 63) = 9) (fun c => nx_p c (lcs_9 hN hL h6 h)) (fun c => nx_n c ?_)
  refine dite ((xs i &&& 63) = 10) (fun c => nx_p c (lcs_10 hN hL h6 h)) (fun c => nx_n c ?_)
  refine dite ((xs i &&& 63) = 11) (fun c => nx_p c (lcs_11 hN hL h6 h)) (fun c => nx_n c ?_)
  refine dite ((xs i &&& 63) = 12) (fun c => nx_p c (lcs_12 hN hL h6 h)) (fun c => nx_n c ?_)
  refine dite ((xs i &&& 63) = 13) (fun c => nx_p c (lcs_13 hN hL h6 h)) (fun c => nx_n c ?_)
  refine dite ((xs i &&& 63) = 14) (fun c => nx_p c (lcs_14 hN hL h6 h)) (fun c => nx_n c ?_)
  refine dite ((xs i &&& 63) = 15) (fun c => nx_p c (lcs_15 hN hL h6 h)) (fun c => nx_n c ?_)
  refine dite ((xs i &&& 63) = 16) (fun c => nx_p c (lcs_16 hN hL h6 h)) (fun c => nx_n c ?_)
  refine dite ((xs i &&& 63) = 17) (fun c => nx_p c (lcs_17 hN hL h6 h)) (fun c => nx_n c ?_)
  refine dite ((xs i &&& 63) = 18) (fun c => nx_p c (lcs_18 hN hL h6 h)) (fun c => nx_n c ?_)
  refine dite ((xs i &&& 63) = 19) (fun c => nx_p c (lcs_19 hN hL h6 h)) (fun c => nx_n c ?_)
  refine dite ((xs i &&& 63) = 20) (fun c => nx_p c (lcs_20 hN hL h6 h)) (fun c => nx_n c ?_)
  refine dite ((xs i &&& 63) = 21) (fun c => nx_p c (lcs_21 hN hL h6 h)) (fun c => nx_n c ?_)
  refine dite ((xs i &&& 63) = 22) (fun c => nx_p c (lcs_22 hN hL h6 h)) (fun c => nx_n c ?_)
  refine dite ((xs i &&& 63) = 23) (fun c => nx_p c (lcs_23 hN hL h6 h)) (fun c => nx_n c ?_)
  refine dite ((xs i &&& 63) = 24) (fun c => nx_p c (lcs_24 hN hL h6 h)) (fun c => nx_n c ?_)
  refine dite ((xs i &&& 63) = 25) (fun c => nx_p c (lcs_25 hN hL h6 h)) (fun c => nx_n c ?_)
  refine dite ((xs i &&& 63) = 26) (fun c => nx_p c (lcs_26 hN hL h6 h)) (fun c => nx_n c ?_)
  refine dite ((xs i &&& 63) = 27) (fun c => nx_p c (lcs_27 hN hL h6 h)) (fun c => nx_n c ?_)
  refine dite ((xs i &&& 63) = 28) (fun c => nx_p c (lcs_28 hN hL h6 h)) (fun c => nx_n c ?_)
  refine dite ((xs i &&& 63) = 29) (fun c => nx_p c (lcs_29 hN hL h6 h)) (fun c => nx_n c ?_)
  refine dite ((xs i &&& 63) = 30) (fun c => nx_p c (lcs_30 hN hL h6 h)) (fun c => nx_n c ?_)
  refine dite ((xs i &&& 63) = 31) (fun c => nx_p c (lcs_31 hN hL h6 h)) (fun c => nx_n c ?_)
  refine dite ((xs i &&& 63) = 32) (fun c => nx_p c (lcs_32 hN hL h6 h)) (fun c => nx_n c ?_)
  refine dite ((xs i &&& 63) = 33) (fun c => nx_p c (lcs_33 hN hL h6 h)) (fun c => nx_n c ?_)
  refine dite ((xs i &&& 63) = 34) (fun c => nx_p c (lcs_34 hN hL h6 h)) (fun c => nx_n c ?_)
  refine dite ((xs i &&& 63) = 35) (fun c => nx_p c (lcs_35 hN hL h6 h)) (fun c => nx_n c ?_)
  exact nx_z h
theorem law_all (hN : 1200 < N) (hL : Ls ≤ 384) : ∀ n i I L r, i ≤ Ls → Ls < i + 6 * n → Ok I L → ∃ Mf, fL_law_L N xs Ls 0 186 206 n (i32 i) (mk I L r) = some (1, Mf) := by
  intro n
  induction n with
  | zero => intro i I L r h1 h2; omega
  | succ n ih =>
    intro i I L r h1 h2 h
    by_cases c : Ls < i + 6
    · refine ⟨mk I L r, ?_⟩
      rw [fL_law_L, if_pos ((ls_lt hL (by omega)).mpr c)]
    · obtain ⟨I2, L2, r2, ok, e⟩ := law_step (xs := xs) (n := n) (r := r) hN hL (show i + 6 ≤ Ls by omega) h
      obtain ⟨Mf, em⟩ := ih (i + 6) I2 L2 r2 (by omega) (by omega) ok
      refine ⟨Mf, ?_⟩
      rw [e, ← em, ← i_add]; rfl
end

