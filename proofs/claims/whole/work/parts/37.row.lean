/-! ===== ROWS AS THEY STAND ===== -/
def lt96 (w : List Nat) (k : Nat) : Int32 := i32 (96 + w.getD (w.length - 1 - k) 0)
def rwv (w : List Nat) (B : Nat → Int32) (b k : Nat) : Int32 := if k < w.length then lt96 w k else if k = w.length then i32 32 else if B (20 + (12 * b + (k - w.length - 1))) = n1 then i32 46 else i32 48 + B (20 + (12 * b + (k - w.length - 1)))
section
variable {H : Nat → Nat} {B : Nat → Int32} {I : Nat → Nat → Int32} {L : Nat → Nat → Int64} {r : Bool} {N : Nat}
theorem wd_ge {w : List Nat} {j : Nat} (h : wOk w) (hj : j < w.length) : 1 ≤ w.getD j 0 ∧ w.getD j 0 ≤ 26 := by
  rw [List.getD_eq_getElem?_getD, List.getElem?_eq_getElem hj]
  exact h.2.2 _ (List.getElem_mem hj)
theorem wd_0 {w : List Nat} {j : Nat} (hj : w.length ≤ j) : w.getD j 0 = 0 := by
  rw [List.getD_eq_getElem?_getD, List.getElem?_eq_none hj]; rfl
theorem i_m5 {j : Nat} : i32 (5 * (j + 1)) + -(i32 5) = i32 (5 * j) := by
  rw [← Int32.sub_eq_add_neg, i_sub (by omega)]; congr 1
theorem c_putE {v : Int64} {x : Int32} {M : Mem} {m : Nat} (h : 1 ≤ m) : fX8_putName_L7 N v 133 m x (i32 0 + -(i32 5)) M = some (x, M) := by
  obtain ⟨m, rfl⟩ : ∃ m', m = m' + 1 := ⟨m - 1, by omega⟩
  have e5 : i32 0 + -(i32 5) < 0 := by decide
  simp only [fX8_putName_L7, e5, ↓reduceIte]
theorem c_putL {w : List Nat} (hw : wOk w) : ∀ j, j ≤ 6 → ∀ n, j + 1 < n → ∀ J, (∀ k, k < w.length - (j + 1) → J 133 k = lt96 w k) → ∃ K, fX8_putName_L7 N (i64 (cB 32 w)) 133 n (i32 (w.length - (j + 1))) (i32 (5 * j)) (mk J L r) = some (i32 w.length, mk K L r) ∧ (∀ k, k < w.length → K 133 k = lt96 w k) ∧ ∀ q, q ≠ 133 → K q = J q := by
  have c63 := cB_63 (β := 32) (by omega) (by omega) hw
  have l7 := hw.2.1
  have l1 := hw.1
  intro j
  induction j with
  | zero =>
    intro _ n hn J hJ
    obtain ⟨n, rfl⟩ : ∃ n', n = n' + 1 := ⟨n - 1, by omega⟩
    have hd := wd_ge hw (j := 0) (by omega)
    have ed := cB_dig (β := 32) (by omega) hw.2.2 0
    have es := j_shr (n := cB 32 w) (j := 0) (by omega) (by omega)
    rw [ed] at es
    refine ⟨up J 133 (w.length - 1) (lt96 w (w.length - 1)), ?_, fun k hk => ?_, fun q hq => up_row hq⟩
    · have e1 : i32 (97 + w.getD 0 0 - 1) = lt96 w (w.length - 1) := by
        rw [lt96, show w.length - 1 - (w.length - 1) = 0 by omega]; congr 1; omega
      have e6 : w.length - (0 + 1) + 1 = w.length := by omega
      have e7 : w.length - (0 + 1) = w.length - 1 := by omega
      have e8 := c_putE (N := N) (v := i64 (cB 32 w)) (x := i32 w.length) (M := mk (up J 133 (w.length - 1) (lt96 w (w.length - 1))) L r) (m := n) (by omega)
      rw [e7]
      rw [← e8]
      have es' : (UInt64.toInt64 (Int64.toUInt64 (i64 (cB 32 w)) >>> (Int64.toUInt64 (Int32.toInt64 (i32 (5 * 0))) &&& Int64.toUInt64 63)) &&& 31) = i64 (w.getD 0 0) := es
      have z1 : ¬ (i32 (5 * 0) < 0) := by decide
      have z2 : ¬ (i32 (w.getD 0 0) = 0) := by
        show ¬ (_ = i32 0)
        rw [i_eq (by omega) (by omega)]; omega
      have z3 : ¬ (i32 20 ≤ i32 (w.length - 1)) := by rw [i_le (by omega) (by omega)]; omega
      have z4 : (97 : Int32) + i32 (w.getD 0 0) - 1 = lt96 w (w.length - 1) := by
        show i32 97 + i32 (w.getD 0 0) - i32 1 = _
        rw [i_add, i_sub (by omega)]; exact e1
      have z5 : i32 (w.length - 1) + 1 = i32 w.length := by
        show _ + i32 1 = _
        rw [i_add, show w.length - 1 + 1 = w.length by omega]
      rw [fX8_putName_L7, if_neg z1, es', j_to32, if_neg z2, x013_n, bd_s, if_neg z3, z4, x013_t (by omega), bd_s, z5]
      rfl
    · rw [up_at]
      by_cases hk2 : k = w.length - 1
      · rw [if_pos hk2, hk2]
      · rw [if_neg hk2]; exact hJ k (by omega)
  | succ j ih =>
    intro hj n hn J hJ
    obtain ⟨n, rfl⟩ : ∃ n', n = n' + 1 := ⟨n - 1, by omega⟩
    have ed := cB_dig (β := 32) (by omega) hw.2.2 (j + 1)
    have es := j_shr (n := cB 32 w) (j := j + 1) (by omega) (by omega)
    rw [ed] at es
    by_cases hl : j + 1 < w.length
    · have hd := wd_ge hw hl
      obtain ⟨K, e, g1, g2⟩ := ih (by omega) n (by omega) (up J 133 (w.length - (j + 1 + 1)) (lt96 w (w.length - (j + 1 + 1)))) (fun k hk => by
        rw [up_at]
        by_cases hk2 : k = w.length - (j + 1 + 1)
        · rw [if_pos hk2, hk2]
        · rw [if_neg hk2]; exact hJ k (by omega))
      refine ⟨K, ?_, g1, fun q hq => by rw [g2 q hq, up_row hq]⟩
      have e1 : i32 (97 + w.getD (j + 1) 0 - 1) = lt96 w (w.length - (j + 1 + 1)) := by
        rw [lt96, show w.length - 1 - (w.length - (j + 1 + 1)) = j + 1 by omega]; congr 1; omega
      rw [← e]
      simp only [fX8_putName_L7, i_lit, j_lit] at es ⊢
      simp (disch := first | assumption | omega | rfl) only [x0_k, x0_fI, x0_fL, x0_pI, x0_pL, x0_z0, x0_z1, x0_fR0, x0_fR1, x0_fR2, x0_fR3, x0_fR4, x0_fR5, x0_fR6, x0_fR7, x0_fR8, x0_fR9, x0_fR10, x0_fR11, x0_fR12, x0_fR13, x013_a, x013_t, x013_n, x0_fR15, x0_fR16, x0_fR17, x0_fR18, x018_a, x018_t, x018_n, i_lt, i_le, i_eq, bd_s, es, j_to32, if_neg, if_pos, e1, i_m5, i_add, i_sub]
      rw [show w.length - (j + 1 + 1) + 1 = w.length - (j + 1) by omega]
    · have hd := wd_0 (w := w) (j := j + 1) (by omega)
      rw [hd] at es
      obtain ⟨K, e, g1, g2⟩ := ih (by omega) n (by omega) J (fun k hk => by omega)
      refine ⟨K, ?_, g1, g2⟩
      rw [← e]
      simp only [fX8_putName_L7, i_lit, j_lit] at es ⊢
      simp (disch := first | assumption | omega | rfl) only [x0_k, x0_fI, x0_fL, x0_pI, x0_pL, x0_z0, x0_z1, x0_fR0, x0_fR1, x0_fR2, x0_fR3, x0_fR4, x0_fR5, x0_fR6, x0_fR7, x0_fR8, x0_fR9, x0_fR10, x0_fR11, x0_fR12, x0_fR13, x013_a, x013_t, x013_n, x0_fR15, x0_fR16, x0_fR17, x0_fR18, x018_a, x018_t, x018_n, i_lt, i_le, i_eq, bd_s, es, j_to32, if_neg, if_pos, i_m5, i_add, eq_self, if_true]
      rw [show w.length - (j + 1 + 1) = w.length - (j + 1) by omega]
theorem c_putName {w : List Nat} (hN : 1200 < N) (hw : wOk w) : ∃ K, fX8_putName N 4 (i64 (cB 32 w)) 133 (mk I L r) = some (i32 w.length, mk K L r) ∧ (∀ k, k < w.length → K 133 k = lt96 w k) ∧ ∀ q, q ≠ 133 → K q = I q := by
  have l7 := hw.2.1
  obtain ⟨K, e, g1, g2⟩ := c_putL (N := N) (L := L) (r := r) hw 6 (by omega) N (by omega) I (fun k hk => by omega)
  refine ⟨K, ?_, g1, g2⟩
  rw [show w.length - (6 + 1) = 0 by omega] at e
  unfold fX8_putName
  simp only [i_lit]
  rw [e]; rfl
theorem c_addRow {m : Nat} {v : Int32} (h : I 0 14 = i32 m) (hm : m < 20) : fX10_addRowByte N 0 v (mk I L r) = some ((), mk (up (up I 133 m v) 0 14 (i32 (m + 1))) L r) := by
  unfold fX10_addRowByte
  simp (disch := first | assumption | omega | rfl) only [i_rem, i_pred, i_addn1, i_lit, i_n1, i_add, i_mul, i_sub, i_le, i_lt, i_eq, i_ne1, n1_ne, n1_lt, n1_le, i_lt1, i_le1, bd_s, nar_bi, nar_0, nar_1, if_pos, if_neg, ↓reduceIte, reduceCtorEq, eq_self, if_true, if_false, not_true_eq_false, not_false_eq_true, x0_k, x0_fI, x0_fL, x0_pI, x0_pL, x0_z0, x0_z1, x0_fR0, x0_fR1, x0_fR2, x0_fR3, x0_fR4, x0_fR5, x0_fR6, x0_fR7, x0_fR8, x0_fR9, x0_fR10, x0_fR11, x0_fR12, x0_fR13, x013_a, x013_t, x013_n, x0_fR15, x0_fR16, x0_fR17, x0_fR18, x018_a, x018_t, x018_n, h, up_off]
theorem c_rowL (hN : 1200 < N) (hO : hOk H) (hs : RS 4 H I) (hb : BR 26 B I) {b : Nat} {w : List Nat} (hbb : b < H 0) (hw : wOk w) (h0 : I 0 14 = i32 (w.length + 1)) (h1 : ∀ k, k < w.length + 1 → I 133 k = rwv w B b k) : ∃ K, fX10_row_L45 N 0 (i32 b) N (i32 0) (mk I L r) = some (i32 (w.length + 1 + H (11 + b)), mk K L r) ∧ K 0 14 = i32 (w.length + 1 + H (11 + b)) ∧ (∀ k, k < w.length + 1 + H (11 + b) → K 133 k = rwv w B b k) ∧ ∀ q, q ≠ 0 → q ≠ 133 → K q = I q := by
  have o0 := hO.1; have o1 := hO.2.1; have o2 := hO.2.2.1; have o3 := hO.2.2.2.1; have o4 := hO.2.2.2.2.1; have o5 := hO.2.2.2.2.2.1; have wd_b := hO.2.2.2.2.2.2.1 b (by assumption)
  have ha : isBe 26 = true := rfl
  have l7 := hw.2.1
  obtain ⟨K, e, g1, g2, g3⟩ := lp_st (F := fun n' v J => fX10_row_L45 N 0 (i32 b) n' v (mk J L r)) (m := H (11 + b)) (fun p J => J 0 14 = i32 (w.length + 1 + p) ∧ (∀ k, k < w.length + 1 + p → J 133 k = rwv w B b k) ∧ ∀ q, q ≠ 0 → q ≠ 133 → J q = I q) (fun J => (i32 (w.length + 1 + H (11 + b)), mk J L r)) (fun n' p J hp hJ => by
    obtain ⟨g1, g2, g3⟩ := hJ
    have hsJ : RS 4 H J := RS_of (fun q z1 z2 => g3 q (by omega) (by omega)) hs
    have hbJ : BR 26 B J := BR_of (fun q z1 z2 => g3 q (by omega) (by omega)) hb
    have ev : rwv w B b (w.length + 1 + p) = if B (20 + (12 * b + p)) = n1 then i32 46 else i32 48 + B (20 + (12 * b + p)) := by
      rw [rwv, if_neg (by omega), if_neg (by omega), show w.length + 1 + p - w.length - 1 = p by omega]
    refine ⟨up (up J 133 (w.length + 1 + p) (rwv w B b (w.length + 1 + p))) 0 14 (i32 (w.length + 1 + p + 1)), ?_, up_self, fun k hk => ?_, fun q z1 z2 => by rw [up_row z1, up_row z2]; exact g3 q z1 z2⟩
    · rw [ev]
      by_cases hc : B (20 + (12 * b + p)) = n1
      · simp (disch := first | assumption | omega | rfl) only [i_rem, i_pred, i_addn1, i_lit, i_n1, i_add, i_mul, i_sub, i_le, i_lt, i_eq, i_ne1, n1_ne, n1_lt, n1_le, i_lt1, i_le1, bd_s, nar_bi, nar_0, nar_1, if_pos, if_neg, ↓reduceIte, reduceCtorEq, eq_self, if_true, if_false, not_true_eq_false, not_false_eq_true, x0_k, x0_fI, x0_fL, x0_pI, x0_pL, x0_z0, x0_z1, x0_fR0, x0_fR1, x0_fR2, x0_fR3, x0_fR4, x0_fR5, x0_fR6, x0_fR7, x0_fR8, x0_fR9, x0_fR10, x0_fR11, x0_fR12, x0_fR13, x013_a, x013_t, x013_n, x0_fR15, x0_fR16, x0_fR17, x0_fR18, x018_a, x018_t, x018_n, s4_k, s4_fI, s4_fL, s4_pI, s4_pL, s4_z0, s4_z1, s4_fR1, s41_a, s41_t, s41_n, s4_fR2, s42_a, s42_t, s42_n, s4_fR3, s43_a, s43_t, s43_n, s4_fR5, s45_a, s45_t, s45_n, s4_fR7, s47_a, s47_t, s47_n, s4_fR8, s48_a, s48_t, s48_n, s4_fR10, s410_a, s410_t, s410_n, s4_fR11, s411_a, s411_t, s411_n, s4_fR12, s412_a, s412_t, s412_n, s4_fR13, s413_a, s413_t, s413_n, be_k, be_fI, be_fL, be_pI, be_pL, be_z0, be_z1, be_fR0, be_fR1, be1_a, be1_t, be1_n, be_fR2, be2_a, be2_t, be2_n, be_fR3, be3_a, be3_t, be3_n, be_fR4, be4_a, be4_t, be4_n, be_fR5, be5_a, be5_t, be5_n, be_fR6, be6_a, be6_t, be6_n, be_fR7, be7_a, be7_t, be7_n, fX10_row_L45, s4_wd hsJ, c_placeIndex, be_mk hbJ, hc, c_addRow g1]
      · have hc' : i32 48 + B (20 + (12 * b + p)) = i32 48 + B (20 + (12 * b + p)) := rfl
        simp (disch := first | assumption | omega | rfl) only [i_rem, i_pred, i_addn1, i_lit, i_n1, i_add, i_mul, i_sub, i_le, i_lt, i_eq, i_ne1, n1_ne, n1_lt, n1_le, i_lt1, i_le1, bd_s, nar_bi, nar_0, nar_1, if_pos, if_neg, ↓reduceIte, reduceCtorEq, eq_self, if_true, if_false, not_true_eq_false, not_false_eq_true, x0_k, x0_fI, x0_fL, x0_pI, x0_pL, x0_z0, x0_z1, x0_fR0, x0_fR1, x0_fR2, x0_fR3, x0_fR4, x0_fR5, x0_fR6, x0_fR7, x0_fR8, x0_fR9, x0_fR10, x0_fR11, x0_fR12, x0_fR13, x013_a, x013_t, x013_n, x0_fR15, x0_fR16, x0_fR17, x0_fR18, x018_a, x018_t, x018_n, s4_k, s4_fI, s4_fL, s4_pI, s4_pL, s4_z0, s4_z1, s4_fR1, s41_a, s41_t, s41_n, s4_fR2, s42_a, s42_t, s42_n, s4_fR3, s43_a, s43_t, s43_n, s4_fR5, s45_a, s45_t, s45_n, s4_fR7, s47_a, s47_t, s47_n, s4_fR8, s48_a, s48_t, s48_n, s4_fR10, s410_a, s410_t, s410_n, s4_fR11, s411_a, s411_t, s411_n, s4_fR12, s412_a, s412_t, s412_n, s4_fR13, s413_a, s413_t, s413_n, be_k, be_fI, be_fL, be_pI, be_pL, be_z0, be_z1, be_fR0, be_fR1, be1_a, be1_t, be1_n, be_fR2, be2_a, be2_t, be2_n, be_fR3, be3_a, be3_t, be3_n, be_fR4, be4_a, be4_t, be4_n, be_fR5, be5_a, be5_t, be5_n, be_fR6, be6_a, be6_t, be6_n, be_fR7, be7_a, be7_t, be7_n, fX10_row_L45, s4_wd hsJ, c_placeIndex, be_mk hbJ, hc, c_addRow g1]
    · rw [up_row (by omega), up_at]
      by_cases hk2 : k = w.length + 1 + p
      · rw [if_pos hk2, hk2]
      · rw [if_neg hk2]; exact g2 k (by omega)) (fun n' J hJ => by
    obtain ⟨g1, g2, g3⟩ := hJ
    have hsJ : RS 4 H J := RS_of (fun q z1 z2 => g3 q (by omega) (by omega)) hs
    simp (disch := first | assumption | omega | rfl) only [i_rem, i_pred, i_addn1, i_lit, i_n1, i_add, i_mul, i_sub, i_le, i_lt, i_eq, i_ne1, n1_ne, n1_lt, n1_le, i_lt1, i_le1, bd_s, nar_bi, nar_0, nar_1, if_pos, if_neg, ↓reduceIte, reduceCtorEq, eq_self, if_true, if_false, not_true_eq_false, not_false_eq_true, x0_k, x0_fI, x0_fL, x0_pI, x0_pL, x0_z0, x0_z1, x0_fR0, x0_fR1, x0_fR2, x0_fR3, x0_fR4, x0_fR5, x0_fR6, x0_fR7, x0_fR8, x0_fR9, x0_fR10, x0_fR11, x0_fR12, x0_fR13, x013_a, x013_t, x013_n, x0_fR15, x0_fR16, x0_fR17, x0_fR18, x018_a, x018_t, x018_n, s4_k, s4_fI, s4_fL, s4_pI, s4_pL, s4_z0, s4_z1, s4_fR1, s41_a, s41_t, s41_n, s4_fR2, s42_a, s42_t, s42_n, s4_fR3, s43_a, s43_t, s43_n, s4_fR5, s45_a, s45_t, s45_n, s4_fR7, s47_a, s47_t, s47_n, s4_fR8, s48_a, s48_t, s48_n, s4_fR10, s410_a, s410_t, s410_n, s4_fR11, s411_a, s411_t, s411_n, s4_fR12, s412_a, s412_t, s412_n, s4_fR13, s413_a, s413_t, s413_n, be_k, be_fI, be_fL, be_pI, be_pL, be_z0, be_z1, be_fR0, be_fR1, be1_a, be1_t, be1_n, be_fR2, be2_a, be2_t, be2_n, be_fR3, be3_a, be3_t, be3_n, be_fR4, be4_a, be4_t, be4_n, be_fR5, be5_a, be5_t, be5_n, be_fR6, be6_a, be6_t, be6_n, be_fR7, be7_a, be7_t, be7_n, fX10_row_L45, s4_wd hsJ, g1]) (n := N) (by omega) (s := I) ⟨h0, h1, fun _ _ _ => rfl⟩
  exact ⟨K, e, g1, g2, g3⟩
theorem m_wr1 {m : Nat} {v : Int32} (h : I 186 34 = i32 m) (hm : m < 64) : fX11_write_ N 186 v (mk I L r) = some ((), mk (up (up I 202 m v) 186 34 (i32 (m + 1))) L r) := by
  unfold fX11_write_
  simp (disch := first | assumption | omega | rfl) only [i_rem, i_pred, i_addn1, i_lit, i_n1, i_add, i_mul, i_sub, i_le, i_lt, i_eq, i_ne1, n1_ne, n1_lt, n1_le, i_lt1, i_le1, bd_s, nar_bi, nar_0, nar_1, if_pos, if_neg, ↓reduceIte, reduceCtorEq, eq_self, if_true, if_false, not_true_eq_false, not_false_eq_true, mo_k, mo_fI, mo_fL, mo_pI, mo_pL, mo_z0, mo_z1, mo_fR1, mo1_a, mo1_t, mo1_n, mo_fR14, mo14_a, mo14_t, mo14_n, mo_fR15, mo15_a, mo15_t, mo15_n, mo_fR16, mo16_a, mo16_t, mo16_n, mo_fR17, mo17_a, mo17_t, mo17_n, mo_fR18, mo18_a, mo18_t, mo18_n, mo_fR19, mo19_a, mo19_t, mo19_n, mo_fR20, mo20_a, mo20_t, mo20_n, mo_fR21, mo21_a, mo21_t, mo21_n, mo_fR22, mo22_a, mo22_t, mo22_n, mo_fR25, mo25_a, mo25_t, mo25_n, mo_fR26, mo26_a, mo26_t, mo26_n, mo_fR28, mo28_a, mo28_t, mo28_n, mo_fR29, mo29_a, mo29_t, mo29_n, mo_fR30, mo30_a, mo30_t, mo30_n, mo_fR33, mo33_a, mo33_t, mo33_n, mo_fR36, mo36_a, mo36_t, mo36_n, mo_fR37, mo37_a, mo37_t, mo37_n, mo_fR40, mo40_a, mo40_t, mo40_n, h, up_off]
theorem m_writeWord : ∀ {w : List Nat}, w ≠ [] → (∀ d, d ∈ w → 1 ≤ d ∧ d ≤ 26) → w.length ≤ 7 → ∀ d, w.length ≤ d → ∀ J m, J 186 34 = i32 m → m + w.length ≤ 64 → ∃ K, fX11_writeWord N d 186 (i64 (cB 27 w)) (mk J L r) = some ((), mk K L r) ∧ K 186 34 = i32 (m + w.length) ∧ (∀ k, k < m → K 202 k = J 202 k) ∧ (∀ k, k < w.length → K 202 (m + k) = lt96 w k) ∧ (∀ k, k ≠ 34 → K 186 k = J 186 k) ∧ ∀ q, q ≠ 186 → q ≠ 202 → K q = J q := by
  intro w
  induction w with
  | nil => intro h; exact absurd rfl h
  | cons x w ih =>
    intro _ hw l7 d hd J m hJ hm
    have hx := hw x (List.mem_cons_self ..)
    have c63 : cB 27 (x :: w) < 34359738368 := cB_63 (β := 27) (by omega) (by omega) ⟨Nat.succ_le_succ (Nat.zero_le _), l7, hw⟩
    have elen : (x :: w).length = w.length + 1 := rfl
    rw [elen] at l7 hd hm ⊢
    obtain ⟨d, rfl⟩ : ∃ d', d = d' + 1 := ⟨d - 1, by omega⟩
    have ecb : cB 27 (x :: w) = cB 27 w * 27 + x := rfl
    have em : (cB 27 w * 27 + x) % 27 = x := by omega
    have e96 : i32 96 + i32 x = lt96 (x :: w) w.length := by
      rw [i_add, lt96, elen, show w.length + 1 - 1 - w.length = 0 by omega]; rfl
    by_cases hn : w = []
    · subst hn
      have hz : cB 27 ([] : List Nat) * 27 + x = x := by show 0 * 27 + x = x; omega
      refine ⟨up (up J 202 m (lt96 [x] 0)) 186 34 (i32 (m + 1)), ?_, up_self, fun k hk => ?_, fun k hk => ?_, fun k hk => ?_, fun q z1 z2 => ?_⟩
      · rw [ecb] at c63 ⊢
        rw [hz] at c63 em ⊢
        have e1 : i32 96 + i32 x = lt96 [x] 0 := e96
        simp only [fX11_writeWord, fX11_writeWord_b, fX11_writeWord_J17, i_lit, j_lit]
        simp (disch := first | assumption | omega | rfl) only [mo_k, mo_fI, mo_fL, mo_pI, mo_pL, mo_z0, mo_z1, mo_fR1, mo1_a, mo1_t, mo1_n, mo_fR14, mo14_a, mo14_t, mo14_n, mo_fR15, mo15_a, mo15_t, mo15_n, mo_fR16, mo16_a, mo16_t, mo16_n, mo_fR17, mo17_a, mo17_t, mo17_n, mo_fR18, mo18_a, mo18_t, mo18_n, mo_fR19, mo19_a, mo19_t, mo19_n, mo_fR20, mo20_a, mo20_t, mo20_n, mo_fR21, mo21_a, mo21_t, mo21_n, mo_fR22, mo22_a, mo22_t, mo22_n, mo_fR25, mo25_a, mo25_t, mo25_n, mo_fR26, mo26_a, mo26_t, mo26_n, mo_fR28, mo28_a, mo28_t, mo28_n, mo_fR29, mo29_a, mo29_t, mo29_n, mo_fR30, mo30_a, mo30_t, mo30_n, mo_fR33, mo33_a, mo33_t, mo33_n, mo_fR36, mo36_a, mo36_t, mo36_n, mo_fR37, mo37_a, mo37_t, mo37_n, mo_fR40, mo40_a, mo40_t, mo40_n, j_cmplt, j_rem, j_to32, em, e1, bd_s, if_pos, m_wr1 hJ, eq_self, if_true]
      · rw [up_row (by omega), up_ofk (by omega)]
      · have : k = 0 := by have : k < 0 + 1 := hk; omega
        subst this
        rw [up_row (by omega), Nat.add_zero, up_self]
      · rw [up_ofk hk, up_row (by omega)]
      · rw [up_row z1, up_row z2]
    · have hwl : 1 ≤ w.length := by
        cases w with
        | nil => exact absurd rfl hn
        | cons y w => exact Nat.succ_le_succ (Nat.zero_le _)
      have hc1 : 1 ≤ cB 27 w := by
        cases w with
        | nil => exact absurd rfl hn
        | cons y w =>
          have := hw y (List.mem_cons_of_mem _ (List.mem_cons_self ..))
          show 1 ≤ cB 27 w * 27 + y
          omega
      obtain ⟨K, e, g1, g2, g3, g4, g5⟩ := ih hn (fun z hz => hw z (List.mem_cons_of_mem _ hz)) (by omega) d (by omega) J m hJ (by omega)
      have ed : (cB 27 w * 27 + x) / 27 = cB 27 w := by omega
      refine ⟨up (up K 202 (m + w.length) (lt96 (x :: w) w.length)) 186 34 (i32 (m + w.length + 1)), ?_, up_self, fun k hk => ?_, fun k hk => ?_, fun k hk => ?_, fun q z1 z2 => ?_⟩
      · rw [ecb] at c63 ⊢
        simp only [fX11_writeWord, fX11_writeWord_b, fX11_writeWord_J17, i_lit, j_lit]
        have e7 : cB 27 w * 27 + x - cB 27 w * 27 = x := by omega
        simp (disch := first | assumption | omega | rfl) only [mo_k, mo_fI, mo_fL, mo_pI, mo_pL, mo_z0, mo_z1, mo_fR1, mo1_a, mo1_t, mo1_n, mo_fR14, mo14_a, mo14_t, mo14_n, mo_fR15, mo15_a, mo15_t, mo15_n, mo_fR16, mo16_a, mo16_t, mo16_n, mo_fR17, mo17_a, mo17_t, mo17_n, mo_fR18, mo18_a, mo18_t, mo18_n, mo_fR19, mo19_a, mo19_t, mo19_n, mo_fR20, mo20_a, mo20_t, mo20_n, mo_fR21, mo21_a, mo21_t, mo21_n, mo_fR22, mo22_a, mo22_t, mo22_n, mo_fR25, mo25_a, mo25_t, mo25_n, mo_fR26, mo26_a, mo26_t, mo26_n, mo_fR28, mo28_a, mo28_t, mo28_n, mo_fR29, mo29_a, mo29_t, mo29_n, mo_fR30, mo30_a, mo30_t, mo30_n, mo_fR33, mo33_a, mo33_t, mo33_n, mo_fR36, mo36_a, mo36_t, mo36_n, mo_fR37, mo37_a, mo37_t, mo37_n, mo_fR40, mo40_a, mo40_t, mo40_n, j_cmplt, j_div, ed, j_mul, j_sub, e7, j_to32, e96, bd_s, if_neg, e, m_wr1 g1, eq_self, if_true]
      · rw [up_row (by omega), up_ofk (by omega)]; exact g2 k hk
      · rw [up_row (by omega), up_at]
        by_cases hk2 : k = w.length
        · subst hk2; rw [if_pos rfl]
        · rw [if_neg (by omega), g3 k (by omega), lt96, lt96, elen, show w.length + 1 - 1 - k = w.length - 1 - k + 1 by omega]; rfl
      · rw [up_ofk hk, up_row (by omega)]; exact g4 k hk
      · rw [up_row z1, up_row z2]; exact g5 q z1 z2
theorem m_rowL (hN : 1200 < N) (hO : hOk H) (hm : MR H B I) {b : Nat} {w : List Nat} (hbb : b < H 0) (hw : wOk w) (h0 : I 186 34 = i32 (w.length + 1)) (h1 : ∀ k, k < w.length + 1 → I 202 k = rwv w B b k) : ∃ K, fX11_row_L38 N 186 (i32 b) N (i32 0) (mk I L r) = some (i32 (w.length + 1 + H (11 + b)), mk K L r) ∧ K 186 34 = i32 (w.length + 1 + H (11 + b)) ∧ (∀ k, k < w.length + 1 + H (11 + b) → K 202 k = rwv w B b k) ∧ (∀ k, k ≠ 34 → K 186 k = I 186 k) ∧ ∀ q, q ≠ 186 → q ≠ 202 → K q = I q := by
  have o0 := hO.1; have o1 := hO.2.1; have o2 := hO.2.2.1; have o3 := hO.2.2.2.1; have o4 := hO.2.2.2.2.1; have o5 := hO.2.2.2.2.2.1; have wd_b := hO.2.2.2.2.2.2.1 b (by assumption)
  have l7 := hw.2.1
  obtain ⟨K, e, g1, g2, g4, g3⟩ := lp_st (F := fun n' v J => fX11_row_L38 N 186 (i32 b) n' v (mk J L r)) (m := H (11 + b)) (fun p J => J 186 34 = i32 (w.length + 1 + p) ∧ (∀ k, k < w.length + 1 + p → J 202 k = rwv w B b k) ∧ (∀ k, k ≠ 34 → J 186 k = I 186 k) ∧ ∀ q, q ≠ 186 → q ≠ 202 → J q = I q) (fun J => (i32 (w.length + 1 + H (11 + b)), mk J L r)) (fun n' p J hp hJ => by
    obtain ⟨g1, g2, g4, g3⟩ := hJ
    have hmJ : MR H B J := by unfold MR; rw [g3 188 (by omega) (by omega)]; exact hm
    have ev : rwv w B b (w.length + 1 + p) = if B (20 + (12 * b + p)) = n1 then i32 46 else i32 48 + B (20 + (12 * b + p)) := by
      rw [rwv, if_neg (by omega), if_neg (by omega), show w.length + 1 + p - w.length - 1 = p by omega]
    refine ⟨up (up J 202 (w.length + 1 + p) (rwv w B b (w.length + 1 + p))) 186 34 (i32 (w.length + 1 + p + 1)), ?_, up_self, fun k hk => ?_, fun k hk => by rw [up_ofk hk, up_row (by omega)]; exact g4 k hk, fun q z1 z2 => by rw [up_row z1, up_row z2]; exact g3 q z1 z2⟩
    · rw [ev]
      by_cases hc : B (20 + (12 * b + p)) = n1
      · simp (disch := first | assumption | omega | rfl) only [i_rem, i_pred, i_addn1, i_lit, i_n1, i_add, i_mul, i_sub, i_le, i_lt, i_eq, i_ne1, n1_ne, n1_lt, n1_le, i_lt1, i_le1, bd_s, nar_bi, nar_0, nar_1, if_pos, if_neg, ↓reduceIte, reduceCtorEq, eq_self, if_true, if_false, not_true_eq_false, not_false_eq_true, mo_k, mo_fI, mo_fL, mo_pI, mo_pL, mo_z0, mo_z1, mo_fR1, mo1_a, mo1_t, mo1_n, mo_fR14, mo14_a, mo14_t, mo14_n, mo_fR15, mo15_a, mo15_t, mo15_n, mo_fR16, mo16_a, mo16_t, mo16_n, mo_fR17, mo17_a, mo17_t, mo17_n, mo_fR18, mo18_a, mo18_t, mo18_n, mo_fR19, mo19_a, mo19_t, mo19_n, mo_fR20, mo20_a, mo20_t, mo20_n, mo_fR21, mo21_a, mo21_t, mo21_n, mo_fR22, mo22_a, mo22_t, mo22_n, mo_fR25, mo25_a, mo25_t, mo25_n, mo_fR26, mo26_a, mo26_t, mo26_n, mo_fR28, mo28_a, mo28_t, mo28_n, mo_fR29, mo29_a, mo29_t, mo29_n, mo_fR30, mo30_a, mo30_t, mo30_n, mo_fR33, mo33_a, mo33_t, mo33_n, mo_fR36, mo36_a, mo36_t, mo36_n, mo_fR37, mo37_a, mo37_t, mo37_n, mo_fR40, mo40_a, mo40_t, mo40_n, fX11_row_L38, m_wd hmJ, m_signAt hmJ, hc, m_wr1 g1]
      · simp (disch := first | assumption | omega | rfl) only [i_rem, i_pred, i_addn1, i_lit, i_n1, i_add, i_mul, i_sub, i_le, i_lt, i_eq, i_ne1, n1_ne, n1_lt, n1_le, i_lt1, i_le1, bd_s, nar_bi, nar_0, nar_1, if_pos, if_neg, ↓reduceIte, reduceCtorEq, eq_self, if_true, if_false, not_true_eq_false, not_false_eq_true, mo_k, mo_fI, mo_fL, mo_pI, mo_pL, mo_z0, mo_z1, mo_fR1, mo1_a, mo1_t, mo1_n, mo_fR14, mo14_a, mo14_t, mo14_n, mo_fR15, mo15_a, mo15_t, mo15_n, mo_fR16, mo16_a, mo16_t, mo16_n, mo_fR17, mo17_a, mo17_t, mo17_n, mo_fR18, mo18_a, mo18_t, mo18_n, mo_fR19, mo19_a, mo19_t, mo19_n, mo_fR20, mo20_a, mo20_t, mo20_n, mo_fR21, mo21_a, mo21_t, mo21_n, mo_fR22, mo22_a, mo22_t, mo22_n, mo_fR25, mo25_a, mo25_t, mo25_n, mo_fR26, mo26_a, mo26_t, mo26_n, mo_fR28, mo28_a, mo28_t, mo28_n, mo_fR29, mo29_a, mo29_t, mo29_n, mo_fR30, mo30_a, mo30_t, mo30_n, mo_fR33, mo33_a, mo33_t, mo33_n, mo_fR36, mo36_a, mo36_t, mo36_n, mo_fR37, mo37_a, mo37_t, mo37_n, mo_fR40, mo40_a, mo40_t, mo40_n, fX11_row_L38, m_wd hmJ, m_signAt hmJ, hc, m_wr1 g1]
    · rw [up_row (by omega), up_at]
      by_cases hk2 : k = w.length + 1 + p
      · rw [if_pos hk2, hk2]
      · rw [if_neg hk2]; exact g2 k (by omega)) (fun n' J hJ => by
    obtain ⟨g1, g2, g4, g3⟩ := hJ
    have hmJ : MR H B J := by unfold MR; rw [g3 188 (by omega) (by omega)]; exact hm
    simp (disch := first | assumption | omega | rfl) only [i_rem, i_pred, i_addn1, i_lit, i_n1, i_add, i_mul, i_sub, i_le, i_lt, i_eq, i_ne1, n1_ne, n1_lt, n1_le, i_lt1, i_le1, bd_s, nar_bi, nar_0, nar_1, if_pos, if_neg, ↓reduceIte, reduceCtorEq, eq_self, if_true, if_false, not_true_eq_false, not_false_eq_true, mo_k, mo_fI, mo_fL, mo_pI, mo_pL, mo_z0, mo_z1, mo_fR1, mo1_a, mo1_t, mo1_n, mo_fR14, mo14_a, mo14_t, mo14_n, mo_fR15, mo15_a, mo15_t, mo15_n, mo_fR16, mo16_a, mo16_t, mo16_n, mo_fR17, mo17_a, mo17_t, mo17_n, mo_fR18, mo18_a, mo18_t, mo18_n, mo_fR19, mo19_a, mo19_t, mo19_n, mo_fR20, mo20_a, mo20_t, mo20_n, mo_fR21, mo21_a, mo21_t, mo21_n, mo_fR22, mo22_a, mo22_t, mo22_n, mo_fR25, mo25_a, mo25_t, mo25_n, mo_fR26, mo26_a, mo26_t, mo26_n, mo_fR28, mo28_a, mo28_t, mo28_n, mo_fR29, mo29_a, mo29_t, mo29_n, mo_fR30, mo30_a, mo30_t, mo30_n, mo_fR33, mo33_a, mo33_t, mo33_n, mo_fR36, mo36_a, mo36_t, mo36_n, mo_fR37, mo37_a, mo37_t, mo37_n, mo_fR40, mo40_a, mo40_t, mo40_n, fX11_row_L38, m_wd hmJ, g1]) (n := N) (by omega) (s := I) ⟨h0, h1, fun _ _ => rfl, fun _ _ _ => rfl⟩
  exact ⟨K, e, g1, g2, g4, g3⟩
end
section
variable {I : Nat → Nat → Int32} {L : Nat → Nat → Int64} {r : Bool} {N : Nat}
theorem q_row (hN : 1200 < N) (h : Ok I L) {u : Int32} : Step2 (fX10_row N 0 u) (fX11_row N 186 u) I L r := by
  obtain ⟨⟨H, W, B, D⟩, G, s, P, n, T, f, E, hC, hM, hI⟩ := h
  have hO : hOk H := hI.1.1
  have hB : bOk H B := hI.1.2.2
  have hs : RS 4 H I := hC.1.1
  have hb : BR 26 B I := hC.1.2.2.1
  have hm : MR H B (up I 186 0 (i32 0)) := WM_R (WM_t hM)
  have ha : isBe 26 = true := rfl
  have o0 := hO.1; have o1 := hO.2.1; have o2 := hO.2.2.1; have o3 := hO.2.2.2.1; have o4 := hO.2.2.2.2.1; have o5 := hO.2.2.2.2.2.1
  rcases i_in u (n := H 0) (by omega) with ⟨b, hbb, rfl⟩ | hu
  · have wd_b := hO.2.2.2.2.2.2.1 b (by assumption)
    have hw : wOk (W b) := hI.1.2.1.1 b hbb
    have l7 := hw.2.1
    have ecl : L 5 b = i64 (cB 32 (W b)) := hC.1.2.1.1 b hbb
    have eml : L 193 b = i64 (cB 27 (W b)) := by
      have := hM.1.2.1.1 b hbb; rwa [Nat.zero_add] at this
    obtain ⟨J1, e1, g1, g2⟩ := c_putName (N := N) (I := I) (L := L) (r := r) hN hw
    have hs1 : RS 4 H (up (up (up J1 0 14 (i32 (W b).length)) 133 (W b).length (i32 32)) 0 14 (i32 ((W b).length + 1))) := RS_of (fun q z1 z2 => by
      rw [up_row (by omega), up_row (by omega), up_row (by omega)]; exact g2 q (by omega)) hs
    have hb1 : BR 26 B (up (up (up J1 0 14 (i32 (W b).length)) 133 (W b).length (i32 32)) 0 14 (i32 ((W b).length + 1))) := BR_of (fun q z1 z2 => by
      rw [up_row (by omega), up_row (by omega), up_row (by omega)]; exact g2 q (by omega)) hb
    obtain ⟨J2, e2, g3, g4, g5⟩ := c_rowL (N := N) (L := L) (r := r) hN hO hs1 hb1 hbb hw up_self (fun k hk => by
      rw [up_row (by omega), up_at]
      by_cases hk2 : k = (W b).length
      · rw [if_pos hk2, rwv, if_neg (by omega), if_pos hk2]
      · rw [if_neg hk2, up_row (by omega), g1 k (by omega), rwv, if_pos (by omega)])
    have e3 := c_addRow (N := N) (I := up J1 0 14 (i32 (W b).length)) (L := L) (r := r) (v := i32 32) up_self (by omega)
    have fr : ∀ q, q ≠ 0 → q ≠ 133 → J2 q = I q := fun q z1 z2 => by
      rw [g5 q z1 z2, up_row z1, up_row z2, up_row z1]; exact g2 q z2
    have hM2 := WM_c (J := J2) (K := L) (fun q hq => fr q (by omega) (by omega)) (fun _ _ _ => rfl) hM
    have hM3 := WM_t (v := i32 0) hM2
    have hm2 := WM_R hM3
    obtain ⟨K1, e4, q1, q2, q3, q4, q5⟩ := m_writeWord (N := N) (L := L) (r := r) (w := W b) (by intro z; have := hw.1; rw [z] at this; exact absurd this (by decide)) hw.2.2 hw.2.1 8 (by omega) (up (up J2 186 0 (i32 0)) 186 34 (i32 0)) 0 up_self (by omega)
    rw [Nat.zero_add] at q1
    have e5 := m_wr1 (N := N) (L := L) (r := r) (v := i32 32) q1 (by omega)
    have hm4 : MR H B (up (up K1 202 (W b).length (i32 32)) 186 34 (i32 ((W b).length + 1))) := by
      unfold MR; rw [up_row (by omega), up_row (by omega), q5 188 (by omega) (by omega), up_row (by omega)]; exact hm2
    obtain ⟨K2, e6, p1, p2, p3, p4⟩ := m_rowL (N := N) (L := L) (r := r) hN hO hm4 hbb hw up_self (fun k hk => by
      rw [up_row (by omega), up_at]
      by_cases hk2 : k = (W b).length
      · rw [if_pos hk2, rwv, if_neg (by omega), if_pos hk2]
      · have := q3 k (by omega)
        rw [Nat.zero_add] at this
        rw [if_neg hk2, this, rwv, if_pos (by omega)])
    refine ⟨i32 ((W b).length + 1 + H (11 + b)), J2, L, r, K2, L, ?_, ?_, (H, W, B, D), G, s, P, n, T, f, (E.1, E.2.1, E.2.2.1, (W b).length + 1 + H (11 + b), rwv (W b) B b), ?_, ?_, hI⟩
    · unfold fX10_row
      simp (disch := first | assumption | omega | rfl) only [i_rem, i_pred, i_addn1, i_lit, i_n1, i_add, i_mul, i_sub, i_le, i_lt, i_eq, i_ne1, n1_ne, n1_lt, n1_le, i_lt1, i_le1, bd_s, nar_bi, nar_0, nar_1, if_pos, if_neg, ↓reduceIte, reduceCtorEq, eq_self, if_true, if_false, not_true_eq_false, not_false_eq_true, x0_k, x0_fI, x0_fL, x0_pI, x0_pL, x0_z0, x0_z1, x0_fR0, x0_fR1, x0_fR2, x0_fR3, x0_fR4, x0_fR5, x0_fR6, x0_fR7, x0_fR8, x0_fR9, x0_fR10, x0_fR11, x0_fR12, x0_fR13, x013_a, x013_t, x013_n, x0_fR15, x0_fR16, x0_fR17, x0_fR18, x018_a, x018_t, x018_n, s4_k, s4_fI, s4_fL, s4_pI, s4_pL, s4_z0, s4_z1, s4_fR1, s41_a, s41_t, s41_n, s4_fR2, s42_a, s42_t, s42_n, s4_fR3, s43_a, s43_t, s43_n, s4_fR5, s45_a, s45_t, s45_n, s4_fR7, s47_a, s47_t, s47_n, s4_fR8, s48_a, s48_t, s48_n, s4_fR10, s410_a, s410_t, s410_n, s4_fR11, s411_a, s411_t, s411_n, s4_fR12, s412_a, s412_t, s412_n, s4_fR13, s413_a, s413_t, s413_n, c_hasBand hO hs, hbb, decide_true, bi_z, ecl, e1, e3, e2]
    · unfold fX11_row
      simp (disch := first | assumption | omega | rfl) only [i_rem, i_pred, i_addn1, i_lit, i_n1, i_add, i_mul, i_sub, i_le, i_lt, i_eq, i_ne1, n1_ne, n1_lt, n1_le, i_lt1, i_le1, bd_s, nar_bi, nar_0, nar_1, if_pos, if_neg, ↓reduceIte, reduceCtorEq, eq_self, if_true, if_false, not_true_eq_false, not_false_eq_true, mo_k, mo_fI, mo_fL, mo_pI, mo_pL, mo_z0, mo_z1, mo_fR1, mo1_a, mo1_t, mo1_n, mo_fR14, mo14_a, mo14_t, mo14_n, mo_fR15, mo15_a, mo15_t, mo15_n, mo_fR16, mo16_a, mo16_t, mo16_n, mo_fR17, mo17_a, mo17_t, mo17_n, mo_fR18, mo18_a, mo18_t, mo18_n, mo_fR19, mo19_a, mo19_t, mo19_n, mo_fR20, mo20_a, mo20_t, mo20_n, mo_fR21, mo21_a, mo21_t, mo21_n, mo_fR22, mo22_a, mo22_t, mo22_n, mo_fR25, mo25_a, mo25_t, mo25_n, mo_fR26, mo26_a, mo26_t, mo26_n, mo_fR28, mo28_a, mo28_t, mo28_n, mo_fR29, mo29_a, mo29_t, mo29_n, mo_fR30, mo30_a, mo30_t, mo30_n, mo_fR33, mo33_a, mo33_t, mo33_n, mo_fR36, mo36_a, mo36_t, mo36_n, mo_fR37, mo37_a, mo37_t, mo37_n, mo_fR40, mo40_a, mo40_t, mo40_n, m_isBand hO hm2, hbb, decide_true, bi_z, eml, e4, e5, e6]
    · have fr2 : ∀ q, q < 186 → K2 q = J2 q := fun q z1 => by
        rw [p4 q (by omega) (by omega), up_row (by omega), up_row (by omega), q5 q (by omega) (by omega), up_row (by omega), up_row (by omega)]
      obtain ⟨⟨h1, h2, h3, h4, h9⟩, h5, h6, h7, h8⟩ := hC
      have fr3 : ∀ q, q < 186 → q ≠ 0 → q ≠ 133 → K2 q = I q := fun q z1 z2 z3 => (fr2 q z1).trans (fr q z2 z3)
      refine ⟨⟨RS_of (fun q z1 z2 => fr3 q (by omega) (by omega) (by omega)) h1, h2, BR_of (fun q z1 z2 => fr3 q (by omega) (by omega) (by omega)) h3, SS_of (fun q z1 z2 => fr3 q (by omega) (by omega) (by omega)) h4, LT_of (fr3 _ (by omega) (by omega) (by omega)) h9⟩, PR_of (fun q z1 z2 => fr3 q (by omega) (by omega) (by omega)) h5, fun k hk => CG_of hk (fun q z1 z2 => fr3 q (by omega) (by omega) (by omega)) (fun _ _ _ => rfl) (h6 k hk), CT_of (fr3 1 (by omega) (by omega) (by omega)) (fr3 2 (by omega) (by omega) (by omega)) rfl h7, ?_⟩
      obtain ⟨a1, a2, a3, a4, a5, a6⟩ := h8
      refine ⟨fun k hk => ?_, fun k hk => ?_, fun k hk => ?_, ?_, ?_, fun k hk => ?_⟩
      · rw [fr3 127 (by omega) (by omega) (by omega)]; exact a1 k hk
      · rw [fr3 131 (by omega) (by omega) (by omega)]; exact a2 k hk
      · rw [fr3 108 (by omega) (by omega) (by omega)]; exact a3 k hk
      · rw [fr2 0 (by omega)]; exact g3
      · show (W b).length + 1 + H (11 + b) ≤ 20; omega
      · rw [fr2 133 (by omega)]; exact g4 k hk
    · have fr2 : ∀ q, 187 ≤ q → q ≠ 202 → K2 q = J2 q := fun q z1 z2 => by
        rw [p4 q (by omega) (by omega), up_row (by omega), up_row (by omega), q5 q (by omega) (by omega), up_row (by omega), up_row (by omega)]
      have fr4 : ∀ k, k ≠ 0 → k ≠ 34 → K2 186 k = J2 186 k := fun k z1 z2 => by
        rw [p3 k z2, up_ofk z2, up_row (by omega), q4 k z2, up_ofk z2, up_ofk z1]
      obtain ⟨h1, h2, h3, h4, h5⟩ := hM2
      refine ⟨?_, ?_, ?_, ?_, ?_⟩
      · rw [fr2 188 (by omega) (by omega)]; exact h1
      · unfold MP at *; rw [fr2 191 (by omega) (by omega), fr4 24 (by omega) (by omega)]; exact h2
      · exact fun k hk => MG_of (fr2 _ (by omega) (by omega)) (fr2 _ (by omega) (by omega)) rfl (h3 k hk)
      · unfold MT at *; rw [fr2 187 (by omega) (by omega), fr4 2 (by omega) (by omega), fr4 10 (by omega) (by omega)]; exact h4
      · unfold ME at *; rw [fr2 198 (by omega) (by omega), fr2 200 (by omega) (by omega), fr2 204 (by omega) (by omega), fr4 27 (by omega) (by omega), fr4 32 (by omega) (by omega), fr4 31 (by omega) (by omega), fr4 39 (by omega) (by omega)]
        exact ⟨h5.1, h5.2.1, h5.2.2.1, p1, p2⟩
  · refine Step_q (x := n1) (v := i32 0) ⟨hC, hM, hI⟩ ?_ ?_
    · unfold fX10_row
      simp (disch := first | assumption | omega | rfl) only [i_rem, i_pred, i_addn1, i_lit, i_n1, i_add, i_mul, i_sub, i_le, i_lt, i_eq, i_ne1, n1_ne, n1_lt, n1_le, i_lt1, i_le1, bd_s, nar_bi, nar_0, nar_1, if_pos, if_neg, ↓reduceIte, reduceCtorEq, eq_self, if_true, if_false, not_true_eq_false, not_false_eq_true, x0_k, x0_fI, x0_fL, x0_pI, x0_pL, x0_z0, x0_z1, x0_fR0, x0_fR1, x0_fR2, x0_fR3, x0_fR4, x0_fR5, x0_fR6, x0_fR7, x0_fR8, x0_fR9, x0_fR10, x0_fR11, x0_fR12, x0_fR13, x013_a, x013_t, x013_n, x0_fR15, x0_fR16, x0_fR17, x0_fR18, x018_a, x018_t, x018_n, s4_k, s4_fI, s4_fL, s4_pI, s4_pL, s4_z0, s4_z1, s4_fR1, s41_a, s41_t, s41_n, s4_fR2, s42_a, s42_t, s42_n, s4_fR3, s43_a, s43_t, s43_n, s4_fR5, s45_a, s45_t, s45_n, s4_fR7, s47_a, s47_t, s47_n, s4_fR8, s48_a, s48_t, s48_n, s4_fR10, s410_a, s410_t, s410_n, s4_fR11, s411_a, s411_t, s411_n, s4_fR12, s412_a, s412_t, s412_n, s4_fR13, s413_a, s413_t, s413_n, be_k, be_fI, be_fL, be_pI, be_pL, be_z0, be_z1, be_fR0, be_fR1, be1_a, be1_t, be1_n, be_fR2, be2_a, be2_t, be2_n, be_fR3, be3_a, be3_t, be3_n, be_fR4, be4_a, be4_t, be4_n, be_fR5, be5_a, be5_t, be5_n, be_fR6, be6_a, be6_t, be6_n, be_fR7, be7_a, be7_t, be7_n, c_hasBand_n hs hu]
    · unfold fX11_row
      simp (disch := first | assumption | omega | rfl) only [i_rem, i_pred, i_addn1, i_lit, i_n1, i_add, i_mul, i_sub, i_le, i_lt, i_eq, i_ne1, n1_ne, n1_lt, n1_le, i_lt1, i_le1, bd_s, nar_bi, nar_0, nar_1, if_pos, if_neg, ↓reduceIte, reduceCtorEq, eq_self, if_true, if_false, not_true_eq_false, not_false_eq_true, mo_k, mo_fI, mo_fL, mo_pI, mo_pL, mo_z0, mo_z1, mo_fR1, mo1_a, mo1_t, mo1_n, mo_fR14, mo14_a, mo14_t, mo14_n, mo_fR15, mo15_a, mo15_t, mo15_n, mo_fR16, mo16_a, mo16_t, mo16_n, mo_fR17, mo17_a, mo17_t, mo17_n, mo_fR18, mo18_a, mo18_t, mo18_n, mo_fR19, mo19_a, mo19_t, mo19_n, mo_fR20, mo20_a, mo20_t, mo20_n, mo_fR21, mo21_a, mo21_t, mo21_n, mo_fR22, mo22_a, mo22_t, mo22_n, mo_fR25, mo25_a, mo25_t, mo25_n, mo_fR26, mo26_a, mo26_t, mo26_n, mo_fR28, mo28_a, mo28_t, mo28_n, mo_fR29, mo29_a, mo29_t, mo29_n, mo_fR30, mo30_a, mo30_t, mo30_n, mo_fR33, mo33_a, mo33_t, mo33_n, mo_fR36, mo36_a, mo36_t, mo36_n, mo_fR37, mo37_a, mo37_t, mo37_n, mo_fR40, mo40_a, mo40_t, mo40_n, m_isBand_n hO hm hu]
end
