/-- the reference's row 'now' -/
def MR (H : Nat → Nat) (B : Nat → Int32) (I : Nat → Nat → Int32) : Prop := MH (I 188) 0 H ∧ MB (I 188) 35 B
/-- what holds of what is so: the hour, ages, and no sign where there is no place -/
def bOk (H : Nat → Nat) (B : Nat → Int32) : Prop := (∃ h, h ≤ 400 ∧ B 0 = i32 h) ∧ (∀ l, l < H 2 → lpd B l = false → ∃ a, a < H 4 ∧ B (4 + l) = i32 a) ∧ (∀ b p, b < 6 → p < 12 → (b < H 0 → H (11 + b) ≤ p) → B (20 + (12 * b + p)) = n1 ∧ B (92 + (12 * b + p)) = n1)
section
variable {H : Nat → Nat} {B : Nat → Int32} {I : Nat → Nat → Int32}
theorem m_nb (h : MR H B I) : I 188 0 = i32 (H 0) := h.1.1 0 (by decide)
theorem m_nw (h : MR H B I) : I 188 1 = i32 (H 1) := h.1.1 1 (by decide)
theorem m_nl (h : MR H B I) : I 188 2 = i32 (H 2) := h.1.1 2 (by decide)
theorem m_nt (h : MR H B I) : I 188 3 = i32 (H 3) := h.1.1 3 (by decide)
theorem m_la (h : MR H B I) : I 188 4 = i32 (H 4) := h.1.1 4 (by decide)
theorem m_ht (h : MR H B I) {b : Nat} (hb : b < H 0) : I 188 (5 + b) = i32 (H (5 + b)) := by have := h.1.2.1 b hb; rwa [Nat.zero_add] at this
theorem m_wd (h : MR H B I) {b : Nat} (hb : b < H 0) : I 188 (11 + b) = i32 (H (11 + b)) := by have := h.1.2.2.1 b hb; rwa [Nat.zero_add] at this
theorem m_td (h : MR H B I) {t : Nat} (hb : t < H 3) : I 188 (17 + t) = i32 (H (17 + t)) := by have := h.1.2.2.2.1 t hb; rwa [Nat.zero_add] at this
theorem m_pc (h : MR H B I) {w : Nat} (hb : w < H 1) : I 188 (25 + w) = i32 (H (25 + w)) := by have := h.1.2.2.2.2.1 w hb; rwa [Nat.zero_add] at this
theorem m_ln (h : MR H B I) {l : Nat} (hb : l < H 2) : I 188 (29 + l) = i32 (H (29 + l)) := by have := h.1.2.2.2.2.2 l hb; rwa [Nat.zero_add] at this
theorem m_hr (h : MR H B I) : I 188 35 = B 0 := h.2 0 (by decide)
theorem m_wn (h : MR H B I) : I 188 36 = B 1 := h.2 1 (by decide)
theorem m_sk (h : MR H B I) : I 188 37 = B 2 := h.2 2 (by decide)
theorem m_lp (h : MR H B I) : I 188 38 = B 3 := h.2 3 (by decide)
theorem m_ag (h : MR H B I) {l : Nat} (hl : l < 6) : I 188 (39 + l) = B (4 + l) := by rw [← h.2 (4 + l) (by omega)]; congr 1; omega
theorem m_wr (h : MR H B I) {l : Nat} (hl : l < 4) : I 188 (45 + l) = B (10 + l) := by rw [← h.2 (10 + l) (by omega)]; congr 1; omega
theorem m_wa (h : MR H B I) {l : Nat} (hl : l < 6) : I 188 (49 + l) = B (14 + l) := by rw [← h.2 (14 + l) (by omega)]; congr 1; omega
theorem m_mk (h : MR H B I) {b p : Nat} (hl : 12 * b + p < 72) : I 188 (55 + 12 * b + p) = B (20 + (12 * b + p)) := by rw [← h.2 (20 + (12 * b + p)) (by omega)]; congr 1; omega
theorem m_hd (h : MR H B I) {b p : Nat} (hl : 12 * b + p < 72) : I 188 (127 + 12 * b + p) = B (92 + (12 * b + p)) := by rw [← h.2 (92 + (12 * b + p)) (by omega)]; congr 1; omega
end
/-- the strokes of a sign -/
def stN (k : Nat) : Nat := match k with
  | 1 => 1
  | 2 => 5
  | 3 => 5
  | 4 => 4
  | 5 => 5
  | 6 => 6
  | 7 => 3
  | 8 => 7
  | _ => 6
theorem stN_stk {k : Nat} (h : k ≤ 9) : stk k = i32 (stN k) := by
  rcases k with _ | _ | _ | _ | _ | _ | _ | _ | _ | _ | k
  all_goals first | rfl | omega
theorem stN_7 {k : Nat} : stN k ≤ 7 := by unfold stN; split <;> omega
theorem stN_1 {k : Nat} : 1 ≤ stN k := by unfold stN; split <;> omega
/-- the strokes that law l lacks from the number i on, if nothing is against it -/
def lkS (H : Nat → Nat) (B : Nat → Int32) (l i : Nat) : Nat := fo (fun k s => if B (20 + (i + k)) = i32 (sg H l k) then s else s + stN (sg H l k)) 0 (lg H l)
def lak (H : Nat → Nat) (B : Nat → Int32) (l i : Nat) : Nat := if nag H (fun q => B (20 + q)) l i then lkS H B l i else 100000
def llk (H : Nat → Nat) (B : Nat → Int32) (l b : Nat) : Nat := fo (fun p s => if lak H B l (12 * b + p) ≤ s then lak H B l (12 * b + p) else s) 100000 (np H l b)
theorem lkS_le {H : Nat → Nat} {B : Nat → Int32} {l i : Nat} : ∀ m, fo (fun k s => if B (20 + (i + k)) = i32 (sg H l k) then s else s + stN (sg H l k)) 0 m ≤ 7 * m := by
  intro m
  induction m with
  | zero => exact Nat.le_refl _
  | succ m ih =>
    rw [fo]
    have := stN_7 (k := sg H l m)
    split <;> omega
theorem lak_le {H : Nat → Nat} {B : Nat → Int32} {l i : Nat} : lak H B l i ≤ 100000 := by
  have := lkS_le (H := H) (B := B) (l := l) (i := i) (lg H l)
  have := lg_3 (H := H) (l := l)
  rw [lak, lkS]; split <;> omega
section
variable {H : Nat → Nat} {B : Nat → Int32} {I : Nat → Nat → Int32} {L : Nat → Nat → Int64} {r : Bool} {N : Nat}
theorem m_isIn {k n : Nat} {M : Mem} (hk : k < 2147483648) (hn : n < 2147483648) : fX11_isIn N (i32 k) (i32 0) (i32 n - i32 1) M = some (bi (decide (k < n)), M) := by
  unfold fX11_isIn
  by_cases h : k < n
  · simp (disch := first | assumption | omega | rfl) only [i_rem, i_pred, i_addn1, i_lit, i_n1, i_add, i_mul, i_sub, i_le, i_lt, i_eq, i_ne1, n1_ne, n1_lt, n1_le, i_lt1, i_le1, bd_s, nar_bi, nar_0, nar_1, if_pos, if_neg, ↓reduceIte, reduceCtorEq, eq_self, if_true, if_false, not_true_eq_false, not_false_eq_true, h, decide_true]; rfl
  · simp (disch := first | assumption | omega | rfl) only [i_rem, i_pred, i_addn1, i_lit, i_n1, i_add, i_mul, i_sub, i_le, i_lt, i_eq, i_ne1, n1_ne, n1_lt, n1_le, i_lt1, i_le1, bd_s, nar_bi, nar_0, nar_1, if_pos, if_neg, ↓reduceIte, reduceCtorEq, eq_self, if_true, if_false, not_true_eq_false, not_false_eq_true, h, decide_false]; rfl
theorem m_isIn_n {v : Int32} {n : Nat} {M : Mem} (hn : n < 2147483648) (h : v < i32 0 ∨ (i32 0 ≤ v ∧ i32 n ≤ v)) : fX11_isIn N v (i32 0) (i32 n - i32 1) M = some (i32 0, M) := by
  unfold fX11_isIn
  by_cases h0 : v < i32 0
  · simp (disch := first | assumption | omega | rfl) only [i_rem, i_pred, i_addn1, i_lit, i_n1, i_add, i_mul, i_sub, i_le, i_lt, i_eq, i_ne1, n1_ne, n1_lt, n1_le, i_lt1, i_le1, bd_s, nar_bi, nar_0, nar_1, if_pos, if_neg, ↓reduceIte, reduceCtorEq, eq_self, if_true, if_false, not_true_eq_false, not_false_eq_true, h0]
  · have h1 := (h.resolve_left h0).2
    simp (disch := first | assumption | omega | rfl) only [i_rem, i_pred, i_addn1, i_lit, i_n1, i_add, i_mul, i_sub, i_le, i_lt, i_eq, i_ne1, n1_ne, n1_lt, n1_le, i_lt1, i_le1, bd_s, nar_bi, nar_0, nar_1, if_pos, if_neg, ↓reduceIte, reduceCtorEq, eq_self, if_true, if_false, not_true_eq_false, not_false_eq_true, h0, h1]
theorem m_least {a b : Nat} {M : Mem} (ha : a < 2147483648) (hb : b < 2147483648) : fX11_least N (i32 a) (i32 b) M = some (i32 (if b ≤ a then b else a), M) := by
  unfold fX11_least
  simp (disch := first | assumption | omega | rfl) only [i_rem, i_pred, i_addn1, i_lit, i_n1, i_add, i_mul, i_sub, i_le, i_lt, i_eq, i_ne1, n1_ne, n1_lt, n1_le, i_lt1, i_le1, bd_s, nar_bi, nar_0, nar_1, if_pos, if_neg, ↓reduceIte, reduceCtorEq, eq_self, if_true, if_false, not_true_eq_false, not_false_eq_true]
  split <;> rfl
theorem m_isBand (hO : hOk H) (hm : MR H B I) {k : Nat} (hk : k < 2147483648) : fX11_isBand N 186 (i32 k) (mk I L r) = some (bi (decide (k < H 0)), mk I L r) := by
  have o0 := hO.1; have o1 := hO.2.1; have o2 := hO.2.2.1; have o3 := hO.2.2.2.1; have o4 := hO.2.2.2.2.1; have o5 := hO.2.2.2.2.2.1
  unfold fX11_isBand
  simp (disch := first | assumption | omega | rfl) only [mo_k, mo_fI, mo_fL, mo_pI, mo_pL, mo_z0, mo_z1, mo_fR1, mo1_a, mo1_t, mo1_n, mo_fR14, mo14_a, mo14_t, mo14_n, mo_fR15, mo15_a, mo15_t, mo15_n, mo_fR16, mo16_a, mo16_t, mo16_n, mo_fR17, mo17_a, mo17_t, mo17_n, mo_fR18, mo18_a, mo18_t, mo18_n, mo_fR19, mo19_a, mo19_t, mo19_n, mo_fR20, mo20_a, mo20_t, mo20_n, mo_fR21, mo21_a, mo21_t, mo21_n, mo_fR22, mo22_a, mo22_t, mo22_n, mo_fR25, mo25_a, mo25_t, mo25_n, mo_fR26, mo26_a, mo26_t, mo26_n, mo_fR28, mo28_a, mo28_t, mo28_n, mo_fR29, mo29_a, mo29_t, mo29_n, mo_fR30, mo30_a, mo30_t, mo30_n, mo_fR33, mo33_a, mo33_t, mo33_n, mo_fR36, mo36_a, mo36_t, mo36_n, mo_fR37, mo37_a, mo37_t, mo37_n, mo_fR40, mo40_a, mo40_t, mo40_n, i_lit, nar_bi, eq_self, if_true, bd_s, m_nb hm, m_isIn]
theorem m_isBand_n (hO : hOk H) (hm : MR H B I) {v : Int32} (h : v < i32 0 ∨ (i32 0 ≤ v ∧ i32 (H 0) ≤ v)) : fX11_isBand N 186 v (mk I L r) = some (i32 0, mk I L r) := by
  have o0 := hO.1; have o1 := hO.2.1; have o2 := hO.2.2.1; have o3 := hO.2.2.2.1; have o4 := hO.2.2.2.2.1; have o5 := hO.2.2.2.2.2.1
  unfold fX11_isBand
  simp (disch := first | assumption | omega | rfl) only [mo_k, mo_fI, mo_fL, mo_pI, mo_pL, mo_z0, mo_z1, mo_fR1, mo1_a, mo1_t, mo1_n, mo_fR14, mo14_a, mo14_t, mo14_n, mo_fR15, mo15_a, mo15_t, mo15_n, mo_fR16, mo16_a, mo16_t, mo16_n, mo_fR17, mo17_a, mo17_t, mo17_n, mo_fR18, mo18_a, mo18_t, mo18_n, mo_fR19, mo19_a, mo19_t, mo19_n, mo_fR20, mo20_a, mo20_t, mo20_n, mo_fR21, mo21_a, mo21_t, mo21_n, mo_fR22, mo22_a, mo22_t, mo22_n, mo_fR25, mo25_a, mo25_t, mo25_n, mo_fR26, mo26_a, mo26_t, mo26_n, mo_fR28, mo28_a, mo28_t, mo28_n, mo_fR29, mo29_a, mo29_t, mo29_n, mo_fR30, mo30_a, mo30_t, mo30_n, mo_fR33, mo33_a, mo33_t, mo33_n, mo_fR36, mo36_a, mo36_t, mo36_n, mo_fR37, mo37_a, mo37_t, mo37_n, mo_fR40, mo40_a, mo40_t, mo40_n, i_lit, nar_0, eq_self, if_true, bd_s, m_nb hm, m_isIn_n]
theorem m_isWriter (hO : hOk H) (hm : MR H B I) {k : Nat} (hk : k < 2147483648) : fX11_isWriter N 186 (i32 k) (mk I L r) = some (bi (decide (k < H 1)), mk I L r) := by
  have o0 := hO.1; have o1 := hO.2.1; have o2 := hO.2.2.1; have o3 := hO.2.2.2.1; have o4 := hO.2.2.2.2.1; have o5 := hO.2.2.2.2.2.1
  unfold fX11_isWriter
  simp (disch := first | assumption | omega | rfl) only [mo_k, mo_fI, mo_fL, mo_pI, mo_pL, mo_z0, mo_z1, mo_fR1, mo1_a, mo1_t, mo1_n, mo_fR14, mo14_a, mo14_t, mo14_n, mo_fR15, mo15_a, mo15_t, mo15_n, mo_fR16, mo16_a, mo16_t, mo16_n, mo_fR17, mo17_a, mo17_t, mo17_n, mo_fR18, mo18_a, mo18_t, mo18_n, mo_fR19, mo19_a, mo19_t, mo19_n, mo_fR20, mo20_a, mo20_t, mo20_n, mo_fR21, mo21_a, mo21_t, mo21_n, mo_fR22, mo22_a, mo22_t, mo22_n, mo_fR25, mo25_a, mo25_t, mo25_n, mo_fR26, mo26_a, mo26_t, mo26_n, mo_fR28, mo28_a, mo28_t, mo28_n, mo_fR29, mo29_a, mo29_t, mo29_n, mo_fR30, mo30_a, mo30_t, mo30_n, mo_fR33, mo33_a, mo33_t, mo33_n, mo_fR36, mo36_a, mo36_t, mo36_n, mo_fR37, mo37_a, mo37_t, mo37_n, mo_fR40, mo40_a, mo40_t, mo40_n, i_lit, nar_bi, eq_self, if_true, bd_s, m_nw hm, m_isIn]
theorem m_isWriter_n (hO : hOk H) (hm : MR H B I) {v : Int32} (h : v < i32 0 ∨ (i32 0 ≤ v ∧ i32 (H 1) ≤ v)) : fX11_isWriter N 186 v (mk I L r) = some (i32 0, mk I L r) := by
  have o0 := hO.1; have o1 := hO.2.1; have o2 := hO.2.2.1; have o3 := hO.2.2.2.1; have o4 := hO.2.2.2.2.1; have o5 := hO.2.2.2.2.2.1
  unfold fX11_isWriter
  simp (disch := first | assumption | omega | rfl) only [mo_k, mo_fI, mo_fL, mo_pI, mo_pL, mo_z0, mo_z1, mo_fR1, mo1_a, mo1_t, mo1_n, mo_fR14, mo14_a, mo14_t, mo14_n, mo_fR15, mo15_a, mo15_t, mo15_n, mo_fR16, mo16_a, mo16_t, mo16_n, mo_fR17, mo17_a, mo17_t, mo17_n, mo_fR18, mo18_a, mo18_t, mo18_n, mo_fR19, mo19_a, mo19_t, mo19_n, mo_fR20, mo20_a, mo20_t, mo20_n, mo_fR21, mo21_a, mo21_t, mo21_n, mo_fR22, mo22_a, mo22_t, mo22_n, mo_fR25, mo25_a, mo25_t, mo25_n, mo_fR26, mo26_a, mo26_t, mo26_n, mo_fR28, mo28_a, mo28_t, mo28_n, mo_fR29, mo29_a, mo29_t, mo29_n, mo_fR30, mo30_a, mo30_t, mo30_n, mo_fR33, mo33_a, mo33_t, mo33_n, mo_fR36, mo36_a, mo36_t, mo36_n, mo_fR37, mo37_a, mo37_t, mo37_n, mo_fR40, mo40_a, mo40_t, mo40_n, i_lit, nar_0, eq_self, if_true, bd_s, m_nw hm, m_isIn_n]
theorem m_isLaw (hO : hOk H) (hm : MR H B I) {k : Nat} (hk : k < 2147483648) : fX11_isLaw N 186 (i32 k) (mk I L r) = some (bi (decide (k < H 2)), mk I L r) := by
  have o0 := hO.1; have o1 := hO.2.1; have o2 := hO.2.2.1; have o3 := hO.2.2.2.1; have o4 := hO.2.2.2.2.1; have o5 := hO.2.2.2.2.2.1
  unfold fX11_isLaw
  simp (disch := first | assumption | omega | rfl) only [mo_k, mo_fI, mo_fL, mo_pI, mo_pL, mo_z0, mo_z1, mo_fR1, mo1_a, mo1_t, mo1_n, mo_fR14, mo14_a, mo14_t, mo14_n, mo_fR15, mo15_a, mo15_t, mo15_n, mo_fR16, mo16_a, mo16_t, mo16_n, mo_fR17, mo17_a, mo17_t, mo17_n, mo_fR18, mo18_a, mo18_t, mo18_n, mo_fR19, mo19_a, mo19_t, mo19_n, mo_fR20, mo20_a, mo20_t, mo20_n, mo_fR21, mo21_a, mo21_t, mo21_n, mo_fR22, mo22_a, mo22_t, mo22_n, mo_fR25, mo25_a, mo25_t, mo25_n, mo_fR26, mo26_a, mo26_t, mo26_n, mo_fR28, mo28_a, mo28_t, mo28_n, mo_fR29, mo29_a, mo29_t, mo29_n, mo_fR30, mo30_a, mo30_t, mo30_n, mo_fR33, mo33_a, mo33_t, mo33_n, mo_fR36, mo36_a, mo36_t, mo36_n, mo_fR37, mo37_a, mo37_t, mo37_n, mo_fR40, mo40_a, mo40_t, mo40_n, i_lit, nar_bi, eq_self, if_true, bd_s, m_nl hm, m_isIn]
theorem m_isLaw_n (hO : hOk H) (hm : MR H B I) {v : Int32} (h : v < i32 0 ∨ (i32 0 ≤ v ∧ i32 (H 2) ≤ v)) : fX11_isLaw N 186 v (mk I L r) = some (i32 0, mk I L r) := by
  have o0 := hO.1; have o1 := hO.2.1; have o2 := hO.2.2.1; have o3 := hO.2.2.2.1; have o4 := hO.2.2.2.2.1; have o5 := hO.2.2.2.2.2.1
  unfold fX11_isLaw
  simp (disch := first | assumption | omega | rfl) only [mo_k, mo_fI, mo_fL, mo_pI, mo_pL, mo_z0, mo_z1, mo_fR1, mo1_a, mo1_t, mo1_n, mo_fR14, mo14_a, mo14_t, mo14_n, mo_fR15, mo15_a, mo15_t, mo15_n, mo_fR16, mo16_a, mo16_t, mo16_n, mo_fR17, mo17_a, mo17_t, mo17_n, mo_fR18, mo18_a, mo18_t, mo18_n, mo_fR19, mo19_a, mo19_t, mo19_n, mo_fR20, mo20_a, mo20_t, mo20_n, mo_fR21, mo21_a, mo21_t, mo21_n, mo_fR22, mo22_a, mo22_t, mo22_n, mo_fR25, mo25_a, mo25_t, mo25_n, mo_fR26, mo26_a, mo26_t, mo26_n, mo_fR28, mo28_a, mo28_t, mo28_n, mo_fR29, mo29_a, mo29_t, mo29_n, mo_fR30, mo30_a, mo30_t, mo30_n, mo_fR33, mo33_a, mo33_t, mo33_n, mo_fR36, mo36_a, mo36_t, mo36_n, mo_fR37, mo37_a, mo37_t, mo37_n, mo_fR40, mo40_a, mo40_t, mo40_n, i_lit, nar_0, eq_self, if_true, bd_s, m_nl hm, m_isIn_n]
theorem m_isPlace (hO : hOk H) (hm : MR H B I) {b k : Nat} (hb : b < H 0) (hk : k < 2147483648) : fX11_isPlace N 186 (i32 b) (i32 k) (mk I L r) = some (bi (decide (k < H (11 + b))), mk I L r) := by
  have o0 := hO.1; have o1 := hO.2.1; have o2 := hO.2.2.1; have o3 := hO.2.2.2.1; have o4 := hO.2.2.2.2.1; have o5 := hO.2.2.2.2.2.1; have wd_b := hO.2.2.2.2.2.2.1 b (by assumption)
  unfold fX11_isPlace
  simp (disch := first | assumption | omega | rfl) only [mo_k, mo_fI, mo_fL, mo_pI, mo_pL, mo_z0, mo_z1, mo_fR1, mo1_a, mo1_t, mo1_n, mo_fR14, mo14_a, mo14_t, mo14_n, mo_fR15, mo15_a, mo15_t, mo15_n, mo_fR16, mo16_a, mo16_t, mo16_n, mo_fR17, mo17_a, mo17_t, mo17_n, mo_fR18, mo18_a, mo18_t, mo18_n, mo_fR19, mo19_a, mo19_t, mo19_n, mo_fR20, mo20_a, mo20_t, mo20_n, mo_fR21, mo21_a, mo21_t, mo21_n, mo_fR22, mo22_a, mo22_t, mo22_n, mo_fR25, mo25_a, mo25_t, mo25_n, mo_fR26, mo26_a, mo26_t, mo26_n, mo_fR28, mo28_a, mo28_t, mo28_n, mo_fR29, mo29_a, mo29_t, mo29_n, mo_fR30, mo30_a, mo30_t, mo30_n, mo_fR33, mo33_a, mo33_t, mo33_n, mo_fR36, mo36_a, mo36_t, mo36_n, mo_fR37, mo37_a, mo37_t, mo37_n, mo_fR40, mo40_a, mo40_t, mo40_n, i_lit, i_add, nar_bi, eq_self, if_true, bd_s, m_wd hm, m_isIn]
theorem m_isPlace_n (hO : hOk H) (hm : MR H B I) {b : Nat} {v : Int32} (hb : b < H 0) (h : v < i32 0 ∨ (i32 0 ≤ v ∧ i32 (H (11 + b)) ≤ v)) : fX11_isPlace N 186 (i32 b) v (mk I L r) = some (i32 0, mk I L r) := by
  have o0 := hO.1; have o1 := hO.2.1; have o2 := hO.2.2.1; have o3 := hO.2.2.2.1; have o4 := hO.2.2.2.2.1; have o5 := hO.2.2.2.2.2.1; have wd_b := hO.2.2.2.2.2.2.1 b (by assumption)
  unfold fX11_isPlace
  simp (disch := first | assumption | omega | rfl) only [mo_k, mo_fI, mo_fL, mo_pI, mo_pL, mo_z0, mo_z1, mo_fR1, mo1_a, mo1_t, mo1_n, mo_fR14, mo14_a, mo14_t, mo14_n, mo_fR15, mo15_a, mo15_t, mo15_n, mo_fR16, mo16_a, mo16_t, mo16_n, mo_fR17, mo17_a, mo17_t, mo17_n, mo_fR18, mo18_a, mo18_t, mo18_n, mo_fR19, mo19_a, mo19_t, mo19_n, mo_fR20, mo20_a, mo20_t, mo20_n, mo_fR21, mo21_a, mo21_t, mo21_n, mo_fR22, mo22_a, mo22_t, mo22_n, mo_fR25, mo25_a, mo25_t, mo25_n, mo_fR26, mo26_a, mo26_t, mo26_n, mo_fR28, mo28_a, mo28_t, mo28_n, mo_fR29, mo29_a, mo29_t, mo29_n, mo_fR30, mo30_a, mo30_t, mo30_n, mo_fR33, mo33_a, mo33_t, mo33_n, mo_fR36, mo36_a, mo36_t, mo36_n, mo_fR37, mo37_a, mo37_t, mo37_n, mo_fR40, mo40_a, mo40_t, mo40_n, i_lit, i_add, nar_0, eq_self, if_true, bd_s, m_wd hm, m_isIn_n]
theorem m_signAt (hm : MR H B I) {b p : Nat} (hb : 12 * b + p < 72) : fX11_signAt N 186 (i32 b) (i32 p) (mk I L r) = some (B (20 + (12 * b + p)), mk I L r) := by
  unfold fX11_signAt
  simp (disch := first | assumption | omega | rfl) only [i_rem, i_pred, i_addn1, i_lit, i_n1, i_add, i_mul, i_sub, i_le, i_lt, i_eq, i_ne1, n1_ne, n1_lt, n1_le, i_lt1, i_le1, bd_s, nar_bi, nar_0, nar_1, if_pos, if_neg, ↓reduceIte, reduceCtorEq, eq_self, if_true, if_false, not_true_eq_false, not_false_eq_true, mo_k, mo_fI, mo_fL, mo_pI, mo_pL, mo_z0, mo_z1, mo_fR1, mo1_a, mo1_t, mo1_n, mo_fR14, mo14_a, mo14_t, mo14_n, mo_fR15, mo15_a, mo15_t, mo15_n, mo_fR16, mo16_a, mo16_t, mo16_n, mo_fR17, mo17_a, mo17_t, mo17_n, mo_fR18, mo18_a, mo18_t, mo18_n, mo_fR19, mo19_a, mo19_t, mo19_n, mo_fR20, mo20_a, mo20_t, mo20_n, mo_fR21, mo21_a, mo21_t, mo21_n, mo_fR22, mo22_a, mo22_t, mo22_n, mo_fR25, mo25_a, mo25_t, mo25_n, mo_fR26, mo26_a, mo26_t, mo26_n, mo_fR28, mo28_a, mo28_t, mo28_n, mo_fR29, mo29_a, mo29_t, mo29_n, mo_fR30, mo30_a, mo30_t, mo30_n, mo_fR33, mo33_a, mo33_t, mo33_n, mo_fR36, mo36_a, mo36_t, mo36_n, mo_fR37, mo37_a, mo37_t, mo37_n, mo_fR40, mo40_a, mo40_t, mo40_n, m_mk hm]
theorem m_longOf (hO : hOk H) (hm : MR H B I) {l : Nat} (hl : l < H 2) : fX11_longOf N 186 (i32 l) (mk I L r) = some (i32 (lg H l), mk I L r) := by
  have o0 := hO.1; have o1 := hO.2.1; have o2 := hO.2.2.1; have o3 := hO.2.2.2.1; have o4 := hO.2.2.2.2.1; have o5 := hO.2.2.2.2.2.1
  have hn := hO.2.2.2.2.2.2.2.2.2 l hl
  unfold fX11_longOf
  by_cases h : H (29 + l) ≤ 99
  · simp (disch := first | assumption | omega | rfl) only [i_rem, i_pred, i_addn1, i_lit, i_n1, i_add, i_mul, i_sub, i_le, i_lt, i_eq, i_ne1, n1_ne, n1_lt, n1_le, i_lt1, i_le1, bd_s, nar_bi, nar_0, nar_1, if_pos, if_neg, ↓reduceIte, reduceCtorEq, eq_self, if_true, if_false, not_true_eq_false, not_false_eq_true, mo_k, mo_fI, mo_fL, mo_pI, mo_pL, mo_z0, mo_z1, mo_fR1, mo1_a, mo1_t, mo1_n, mo_fR14, mo14_a, mo14_t, mo14_n, mo_fR15, mo15_a, mo15_t, mo15_n, mo_fR16, mo16_a, mo16_t, mo16_n, mo_fR17, mo17_a, mo17_t, mo17_n, mo_fR18, mo18_a, mo18_t, mo18_n, mo_fR19, mo19_a, mo19_t, mo19_n, mo_fR20, mo20_a, mo20_t, mo20_n, mo_fR21, mo21_a, mo21_t, mo21_n, mo_fR22, mo22_a, mo22_t, mo22_n, mo_fR25, mo25_a, mo25_t, mo25_n, mo_fR26, mo26_a, mo26_t, mo26_n, mo_fR28, mo28_a, mo28_t, mo28_n, mo_fR29, mo29_a, mo29_t, mo29_n, mo_fR30, mo30_a, mo30_t, mo30_n, mo_fR33, mo33_a, mo33_t, mo33_n, mo_fR36, mo36_a, mo36_t, mo36_n, mo_fR37, mo37_a, mo37_t, mo37_n, mo_fR40, mo40_a, mo40_t, mo40_n, m_ln hm, lg]
  · simp (disch := first | assumption | omega | rfl) only [i_rem, i_pred, i_addn1, i_lit, i_n1, i_add, i_mul, i_sub, i_le, i_lt, i_eq, i_ne1, n1_ne, n1_lt, n1_le, i_lt1, i_le1, bd_s, nar_bi, nar_0, nar_1, if_pos, if_neg, ↓reduceIte, reduceCtorEq, eq_self, if_true, if_false, not_true_eq_false, not_false_eq_true, mo_k, mo_fI, mo_fL, mo_pI, mo_pL, mo_z0, mo_z1, mo_fR1, mo1_a, mo1_t, mo1_n, mo_fR14, mo14_a, mo14_t, mo14_n, mo_fR15, mo15_a, mo15_t, mo15_n, mo_fR16, mo16_a, mo16_t, mo16_n, mo_fR17, mo17_a, mo17_t, mo17_n, mo_fR18, mo18_a, mo18_t, mo18_n, mo_fR19, mo19_a, mo19_t, mo19_n, mo_fR20, mo20_a, mo20_t, mo20_n, mo_fR21, mo21_a, mo21_t, mo21_n, mo_fR22, mo22_a, mo22_t, mo22_n, mo_fR25, mo25_a, mo25_t, mo25_n, mo_fR26, mo26_a, mo26_t, mo26_n, mo_fR28, mo28_a, mo28_t, mo28_n, mo_fR29, mo29_a, mo29_t, mo29_n, mo_fR30, mo30_a, mo30_t, mo30_n, mo_fR33, mo33_a, mo33_t, mo33_n, mo_fR36, mo36_a, mo36_t, mo36_n, mo_fR37, mo37_a, mo37_t, mo37_n, mo_fR40, mo40_a, mo40_t, mo40_n, m_ln hm, lg]
theorem m_signOf_L {k : Nat} {M : Mem} (hk : k < 1000) : ∀ d n x, d < n → d < 1000 → x < 2147483648 → fX11_signOf_L19 N (i32 k) n (i32 x) (i32 (k + d)) M = some (i32 (x / 10 ^ d % 10), M) := by
  intro d
  induction d with
  | zero =>
    intro n x hn hd hx
    obtain ⟨n, rfl⟩ : ∃ n', n = n' + 1 := ⟨n - 1, by omega⟩
    simp (disch := first | assumption | omega | rfl) only [i_rem, i_pred, i_addn1, i_lit, i_n1, i_add, i_mul, i_sub, i_le, i_lt, i_eq, i_ne1, n1_ne, n1_lt, n1_le, i_lt1, i_le1, bd_s, nar_bi, nar_0, nar_1, if_pos, if_neg, ↓reduceIte, reduceCtorEq, eq_self, if_true, if_false, not_true_eq_false, not_false_eq_true, fX11_signOf_L19, Nat.pow_zero, Nat.div_one]
  | succ d ih =>
    intro n x hn hd hx
    obtain ⟨n, rfl⟩ : ∃ n', n = n' + 1 := ⟨n - 1, by omega⟩
    have h10 : x / 10 ≤ x := Nat.div_le_self x 10
    simp (disch := first | assumption | omega | rfl) only [i_rem, i_pred, i_addn1, i_lit, i_n1, i_add, i_mul, i_sub, i_le, i_lt, i_eq, i_ne1, n1_ne, n1_lt, n1_le, i_lt1, i_le1, bd_s, nar_bi, nar_0, nar_1, if_pos, if_neg, ↓reduceIte, reduceCtorEq, eq_self, if_true, if_false, not_true_eq_false, not_false_eq_true, fX11_signOf_L19, i_div]
    rw [show k + (d + 1) - 1 = k + d by omega, ih n (x / 10) (by omega) (by omega) (by omega), Nat.div_div_eq_div_mul, Nat.pow_succ, Nat.mul_comm (10 ^ d)]
theorem m_signOf (hN : 1200 < N) (hO : hOk H) (hm : MR H B I) {l k : Nat} (hl : l < H 2) (hk : k < lg H l) : fX11_signOf N 186 (i32 l) (i32 k) (mk I L r) = some (i32 (sg H l k), mk I L r) := by
  have o0 := hO.1; have o1 := hO.2.1; have o2 := hO.2.2.1; have o3 := hO.2.2.2.1; have o4 := hO.2.2.2.2.1; have o5 := hO.2.2.2.2.2.1; have lg2_l := lg_2 (H := H) (l := l); have lg3_l := lg_3 (H := H) (l := l)
  have hn := hO.2.2.2.2.2.2.2.2.2 l hl
  have e := m_signOf_L (N := N) (k := k) (M := mk I L r) (by omega) (lg H l - 1 - k) N (H (29 + l)) (by omega) (by omega) (by omega)
  rw [show k + (lg H l - 1 - k) = lg H l - 1 by omega] at e
  unfold fX11_signOf
  simp (disch := first | assumption | omega | rfl) only [i_rem, i_pred, i_addn1, i_lit, i_n1, i_add, i_mul, i_sub, i_le, i_lt, i_eq, i_ne1, n1_ne, n1_lt, n1_le, i_lt1, i_le1, bd_s, nar_bi, nar_0, nar_1, if_pos, if_neg, ↓reduceIte, reduceCtorEq, eq_self, if_true, if_false, not_true_eq_false, not_false_eq_true, mo_k, mo_fI, mo_fL, mo_pI, mo_pL, mo_z0, mo_z1, mo_fR1, mo1_a, mo1_t, mo1_n, mo_fR14, mo14_a, mo14_t, mo14_n, mo_fR15, mo15_a, mo15_t, mo15_n, mo_fR16, mo16_a, mo16_t, mo16_n, mo_fR17, mo17_a, mo17_t, mo17_n, mo_fR18, mo18_a, mo18_t, mo18_n, mo_fR19, mo19_a, mo19_t, mo19_n, mo_fR20, mo20_a, mo20_t, mo20_n, mo_fR21, mo21_a, mo21_t, mo21_n, mo_fR22, mo22_a, mo22_t, mo22_n, mo_fR25, mo25_a, mo25_t, mo25_n, mo_fR26, mo26_a, mo26_t, mo26_n, mo_fR28, mo28_a, mo28_t, mo28_n, mo_fR29, mo29_a, mo29_t, mo29_n, mo_fR30, mo30_a, mo30_t, mo30_n, mo_fR33, mo33_a, mo33_t, mo33_n, mo_fR36, mo36_a, mo36_t, mo36_n, mo_fR37, mo37_a, mo37_t, mo37_n, mo_fR40, mo40_a, mo40_t, mo40_n, m_ln hm, m_longOf hO hm, e]
  rfl
theorem m_strokesOf {k : Nat} {M : Mem} (hk : k ≤ 9) : fX11_strokesOf N (i32 k) M = some (i32 (stN k), M) := by
  rcases k with _ | _ | _ | _ | _ | _ | _ | _ | _ | _ | k
  all_goals first | rfl | omega
theorem m_lacks (hN : 1200 < N) (hO : hOk H) (hm : MR H B I) {l b p : Nat} (hl : l < H 2) (hp : 12 * b + p + lg H l ≤ 72) : fX11_lacks N 186 (i32 l) (i32 b) (i32 p) (mk I L r) = some (i32 (lak H B l (12 * b + p)), mk I L r) := by
  have o0 := hO.1; have o1 := hO.2.1; have o2 := hO.2.2.1; have o3 := hO.2.2.2.1; have o4 := hO.2.2.2.2.1; have o5 := hO.2.2.2.2.2.1; have lg2_l := lg_2 (H := H) (l := l); have lg3_l := lg_3 (H := H) (l := l)
  unfold fX11_lacks
  simp only [i_lit]
  rw [lp_fx (F := fun n v s => fX11_lacks_L6 N 186 (i32 l) (i32 b) (i32 p) n (i32 s) v (mk I L r)) (m := lg H l) (fun k s => s ≤ 7 * k) (fun k => ¬ (B (20 + (12 * b + p + k)) = n1 ∨ B (20 + (12 * b + p + k)) = i32 (sg H l k))) (fun k s => if B (20 + (12 * b + p + k)) = i32 (sg H l k) then s else s + stN (sg H l k)) (i32 100000, mk I L r) (fun s => (i32 s, mk I L r)) ?_ ?_ ?_ ?_ (by omega) 0 (by omega)]
  · rw [lak, nag, allb_not]
    have : exb (fun k => decide (¬ (B (20 + (12 * b + p + k)) = n1 ∨ B (20 + (12 * b + p + k)) = i32 (sg H l k)))) (lg H l) = exb (fun k => !decide ((fun q => B (20 + q)) (12 * b + p + k) = n1 ∨ (fun q => B (20 + q)) (12 * b + p + k) = i32 (sg H l k))) (lg H l) := exb_congr (fun k _ => decide_not)
    rw [this]
    cases exb (fun k => !decide ((fun q => B (20 + q)) (12 * b + p + k) = n1 ∨ (fun q => B (20 + q)) (12 * b + p + k) = i32 (sg H l k))) (lg H l) <;> rfl
  · intro n k s hk hs hP
    have e : 12 * b + (p + k) = 12 * b + p + k := by omega
    have p1 : ¬ B (20 + (12 * b + p + k)) = n1 := fun z => hP (Or.inl z)
    have p2 : ¬ B (20 + (12 * b + p + k)) = i32 (sg H l k) := fun z => hP (Or.inr z)
    simp (disch := first | assumption | omega | rfl) only [i_rem, i_pred, i_addn1, i_lit, i_n1, i_add, i_mul, i_sub, i_le, i_lt, i_eq, i_ne1, n1_ne, n1_lt, n1_le, i_lt1, i_le1, bd_s, nar_bi, nar_0, nar_1, if_pos, if_neg, ↓reduceIte, reduceCtorEq, eq_self, if_true, if_false, not_true_eq_false, not_false_eq_true, mo_k, mo_fI, mo_fL, mo_pI, mo_pL, mo_z0, mo_z1, mo_fR1, mo1_a, mo1_t, mo1_n, mo_fR14, mo14_a, mo14_t, mo14_n, mo_fR15, mo15_a, mo15_t, mo15_n, mo_fR16, mo16_a, mo16_t, mo16_n, mo_fR17, mo17_a, mo17_t, mo17_n, mo_fR18, mo18_a, mo18_t, mo18_n, mo_fR19, mo19_a, mo19_t, mo19_n, mo_fR20, mo20_a, mo20_t, mo20_n, mo_fR21, mo21_a, mo21_t, mo21_n, mo_fR22, mo22_a, mo22_t, mo22_n, mo_fR25, mo25_a, mo25_t, mo25_n, mo_fR26, mo26_a, mo26_t, mo26_n, mo_fR28, mo28_a, mo28_t, mo28_n, mo_fR29, mo29_a, mo29_t, mo29_n, mo_fR30, mo30_a, mo30_t, mo30_n, mo_fR33, mo33_a, mo33_t, mo33_n, mo_fR36, mo36_a, mo36_t, mo36_n, mo_fR37, mo37_a, mo37_t, mo37_n, mo_fR40, mo40_a, mo40_t, mo40_n, fX11_lacks_L6, m_longOf hO hm, m_signAt hm, m_signOf hN hO hm, e]
  · intro n k s hk hs hP
    have e : 12 * b + (p + k) = 12 * b + p + k := by omega
    have s9 := sg_9 (H := H) (l := l) (k := k)
    simp (disch := first | assumption | omega | rfl) only [i_rem, i_pred, i_addn1, i_lit, i_n1, i_add, i_mul, i_sub, i_le, i_lt, i_eq, i_ne1, n1_ne, n1_lt, n1_le, i_lt1, i_le1, bd_s, nar_bi, nar_0, nar_1, if_pos, if_neg, ↓reduceIte, reduceCtorEq, eq_self, if_true, if_false, not_true_eq_false, not_false_eq_true, mo_k, mo_fI, mo_fL, mo_pI, mo_pL, mo_z0, mo_z1, mo_fR1, mo1_a, mo1_t, mo1_n, mo_fR14, mo14_a, mo14_t, mo14_n, mo_fR15, mo15_a, mo15_t, mo15_n, mo_fR16, mo16_a, mo16_t, mo16_n, mo_fR17, mo17_a, mo17_t, mo17_n, mo_fR18, mo18_a, mo18_t, mo18_n, mo_fR19, mo19_a, mo19_t, mo19_n, mo_fR20, mo20_a, mo20_t, mo20_n, mo_fR21, mo21_a, mo21_t, mo21_n, mo_fR22, mo22_a, mo22_t, mo22_n, mo_fR25, mo25_a, mo25_t, mo25_n, mo_fR26, mo26_a, mo26_t, mo26_n, mo_fR28, mo28_a, mo28_t, mo28_n, mo_fR29, mo29_a, mo29_t, mo29_n, mo_fR30, mo30_a, mo30_t, mo30_n, mo_fR33, mo33_a, mo33_t, mo33_n, mo_fR36, mo36_a, mo36_t, mo36_n, mo_fR37, mo37_a, mo37_t, mo37_n, mo_fR40, mo40_a, mo40_t, mo40_n, fX11_lacks_L6, m_longOf hO hm, m_signAt hm, m_signOf hN hO hm, e, m_strokesOf]
    by_cases h1 : B (20 + (12 * b + p + k)) = i32 (sg H l k)
    · simp only [h1, ↓reduceIte]
    · have h2 : B (20 + (12 * b + p + k)) = n1 := (Decidable.not_not.mp hP).resolve_right h1
      rw [if_neg h1, if_pos h2, if_neg h1]
  · intro k s hk hs hP
    have := stN_7 (k := sg H l k)
    have hs' : s ≤ 7 * k := hs
    show (if B (20 + (12 * b + p + k)) = i32 (sg H l k) then s else s + stN (sg H l k)) ≤ 7 * (k + 1)
    split <;> omega
  · intro n s hs
    simp (disch := first | assumption | omega | rfl) only [i_rem, i_pred, i_addn1, i_lit, i_n1, i_add, i_mul, i_sub, i_le, i_lt, i_eq, i_ne1, n1_ne, n1_lt, n1_le, i_lt1, i_le1, bd_s, nar_bi, nar_0, nar_1, if_pos, if_neg, ↓reduceIte, reduceCtorEq, eq_self, if_true, if_false, not_true_eq_false, not_false_eq_true, mo_k, mo_fI, mo_fL, mo_pI, mo_pL, mo_z0, mo_z1, mo_fR1, mo1_a, mo1_t, mo1_n, mo_fR14, mo14_a, mo14_t, mo14_n, mo_fR15, mo15_a, mo15_t, mo15_n, mo_fR16, mo16_a, mo16_t, mo16_n, mo_fR17, mo17_a, mo17_t, mo17_n, mo_fR18, mo18_a, mo18_t, mo18_n, mo_fR19, mo19_a, mo19_t, mo19_n, mo_fR20, mo20_a, mo20_t, mo20_n, mo_fR21, mo21_a, mo21_t, mo21_n, mo_fR22, mo22_a, mo22_t, mo22_n, mo_fR25, mo25_a, mo25_t, mo25_n, mo_fR26, mo26_a, mo26_t, mo26_n, mo_fR28, mo28_a, mo28_t, mo28_n, mo_fR29, mo29_a, mo29_t, mo29_n, mo_fR30, mo30_a, mo30_t, mo30_n, mo_fR33, mo33_a, mo33_t, mo33_n, mo_fR36, mo36_a, mo36_t, mo36_n, mo_fR37, mo37_a, mo37_t, mo37_n, mo_fR40, mo40_a, mo40_t, mo40_n, fX11_lacks_L6, m_longOf hO hm]
theorem m_leastLacks (hN : 1200 < N) (hO : hOk H) (hm : MR H B I) {l b : Nat} (hl : l < H 2) (hb : b < H 0) : fX11_leastLacks N 186 (i32 l) (i32 b) (mk I L r) = some (i32 (llk H B l b), mk I L r) := by
  have o0 := hO.1; have o1 := hO.2.1; have o2 := hO.2.2.1; have o3 := hO.2.2.2.1; have o4 := hO.2.2.2.2.1; have o5 := hO.2.2.2.2.2.1; have lg2_l := lg_2 (H := H) (l := l); have lg3_l := lg_3 (H := H) (l := l); have wd_b := hO.2.2.2.2.2.2.1 b (by assumption)
  have hnp := np_d (H := H) (l := l) (b := b)
  unfold fX11_leastLacks
  simp only [i_lit]
  rw [lp_foJ (F := fun n v s => fX11_leastLacks_L6 N 186 (i32 l) (i32 b) n (i32 s) v (mk I L r)) (m := np H l b) (fun k s => s ≤ 100000) (fun p s => if lak H B l (12 * b + p) ≤ s then lak H B l (12 * b + p) else s) (fun s => (i32 s, mk I L r)) ?_ ?_ ?_ (by omega) 100000 (by omega)]
  · rfl
  · intro n k s hk hs
    have hL := lak_le (H := H) (B := B) (l := l) (i := 12 * b + k)
    simp (disch := first | assumption | omega | rfl) only [i_rem, i_pred, i_addn1, i_lit, i_n1, i_add, i_mul, i_sub, i_le, i_lt, i_eq, i_ne1, n1_ne, n1_lt, n1_le, i_lt1, i_le1, bd_s, nar_bi, nar_0, nar_1, if_pos, if_neg, ↓reduceIte, reduceCtorEq, eq_self, if_true, if_false, not_true_eq_false, not_false_eq_true, mo_k, mo_fI, mo_fL, mo_pI, mo_pL, mo_z0, mo_z1, mo_fR1, mo1_a, mo1_t, mo1_n, mo_fR14, mo14_a, mo14_t, mo14_n, mo_fR15, mo15_a, mo15_t, mo15_n, mo_fR16, mo16_a, mo16_t, mo16_n, mo_fR17, mo17_a, mo17_t, mo17_n, mo_fR18, mo18_a, mo18_t, mo18_n, mo_fR19, mo19_a, mo19_t, mo19_n, mo_fR20, mo20_a, mo20_t, mo20_n, mo_fR21, mo21_a, mo21_t, mo21_n, mo_fR22, mo22_a, mo22_t, mo22_n, mo_fR25, mo25_a, mo25_t, mo25_n, mo_fR26, mo26_a, mo26_t, mo26_n, mo_fR28, mo28_a, mo28_t, mo28_n, mo_fR29, mo29_a, mo29_t, mo29_n, mo_fR30, mo30_a, mo30_t, mo30_n, mo_fR33, mo33_a, mo33_t, mo33_n, mo_fR36, mo36_a, mo36_t, mo36_n, mo_fR37, mo37_a, mo37_t, mo37_n, mo_fR40, mo40_a, mo40_t, mo40_n, fX11_leastLacks_L6, m_longOf hO hm, m_wd hm, m_lacks hN hO hm, m_least]
  · intro k s hk hs
    have hL := lak_le (H := H) (B := B) (l := l) (i := 12 * b + k)
    show (if _ then _ else _) ≤ _
    split <;> omega
  · intro n s hs
    simp (disch := first | assumption | omega | rfl) only [i_rem, i_pred, i_addn1, i_lit, i_n1, i_add, i_mul, i_sub, i_le, i_lt, i_eq, i_ne1, n1_ne, n1_lt, n1_le, i_lt1, i_le1, bd_s, nar_bi, nar_0, nar_1, if_pos, if_neg, ↓reduceIte, reduceCtorEq, eq_self, if_true, if_false, not_true_eq_false, not_false_eq_true, mo_k, mo_fI, mo_fL, mo_pI, mo_pL, mo_z0, mo_z1, mo_fR1, mo1_a, mo1_t, mo1_n, mo_fR14, mo14_a, mo14_t, mo14_n, mo_fR15, mo15_a, mo15_t, mo15_n, mo_fR16, mo16_a, mo16_t, mo16_n, mo_fR17, mo17_a, mo17_t, mo17_n, mo_fR18, mo18_a, mo18_t, mo18_n, mo_fR19, mo19_a, mo19_t, mo19_n, mo_fR20, mo20_a, mo20_t, mo20_n, mo_fR21, mo21_a, mo21_t, mo21_n, mo_fR22, mo22_a, mo22_t, mo22_n, mo_fR25, mo25_a, mo25_t, mo25_n, mo_fR26, mo26_a, mo26_t, mo26_n, mo_fR28, mo28_a, mo28_t, mo28_n, mo_fR29, mo29_a, mo29_t, mo29_n, mo_fR30, mo30_a, mo30_t, mo30_n, mo_fR33, mo33_a, mo33_t, mo33_n, mo_fR36, mo36_a, mo36_t, mo36_n, mo_fR37, mo37_a, mo37_t, mo37_n, mo_fR40, mo40_a, mo40_t, mo40_n, fX11_leastLacks_L6, m_longOf hO hm, m_wd hm]
/-- the least of a row of numbers -/
theorem fo_min {f : Nat → Nat} {c : Nat} : ∀ m, (∀ x, (fo (fun p s => if f p ≤ s then f p else s) c m ≤ x ↔ c ≤ x ∨ ∃ p, p < m ∧ f p ≤ x)) := by
  intro m
  induction m with
  | zero => intro x; exact ⟨fun h => Or.inl h, fun h => h.elim id (fun ⟨p, h, _⟩ => absurd h (Nat.not_lt_zero p))⟩
  | succ m ih =>
    intro x
    rw [fo]
    have h := ih x
    have h2 := ih (f m)
    constructor
    · intro hx
      by_cases hc : f m ≤ fo (fun p s => if f p ≤ s then f p else s) c m
      · rw [if_pos hc] at hx; exact Or.inr ⟨m, by omega, hx⟩
      · rw [if_neg hc] at hx
        rcases h.mp hx with z | ⟨p, hp, z⟩
        · exact Or.inl z
        · exact Or.inr ⟨p, by omega, z⟩
    · intro hx
      by_cases hc : f m ≤ fo (fun p s => if f p ≤ s then f p else s) c m
      · rw [if_pos hc]
        rcases hx with z | ⟨p, hp, z⟩
        · have := h.mpr (Or.inl z); omega
        · by_cases hpm : p = m
          · subst hpm; exact z
          · have := h.mpr (Or.inr ⟨p, by omega, z⟩); omega
      · rw [if_neg hc]
        rcases hx with z | ⟨p, hp, z⟩
        · exact h.mpr (Or.inl z)
        · by_cases hpm : p = m
          · subst hpm; omega
          · exact h.mpr (Or.inr ⟨p, by omega, z⟩)
theorem llk_le {H : Nat → Nat} {B : Nat → Int32} {l b x : Nat} : llk H B l b ≤ x ↔ 100000 ≤ x ∨ ∃ p, p < np H l b ∧ lak H B l (12 * b + p) ≤ x := fo_min (f := fun p => lak H B l (12 * b + p)) _ x
theorem lkS_0 {H : Nat → Nat} {B : Nat → Int32} {l i : Nat} : ∀ m, fo (fun k s => if B (20 + (i + k)) = i32 (sg H l k) then s else s + stN (sg H l k)) 0 m = 0 ↔ ∀ k, k < m → B (20 + (i + k)) = i32 (sg H l k) := by
  intro m
  induction m with
  | zero => exact ⟨fun _ k h => absurd h (Nat.not_lt_zero k), fun _ => rfl⟩
  | succ m ih =>
    rw [fo]
    have s1 := stN_1 (k := sg H l m)
    by_cases hm : B (20 + (i + m)) = i32 (sg H l m)
    · rw [if_pos hm, ih]
      refine ⟨fun h k hk => ?_, fun h k hk => h k (by omega)⟩
      by_cases hkm : k = m
      · rw [hkm]; exact hm
      · exact h k (by omega)
    · rw [if_neg hm]
      exact ⟨fun h => by omega, fun h => absurd (h m (by omega)) hm⟩
theorem lak_0 {H : Nat → Nat} {B : Nat → Int32} {l i : Nat} : lak H B l i = 0 ↔ stA H B l i = true := by
  rw [lak, stA, allb_iff]
  have e := lkS_0 (H := H) (B := B) (l := l) (i := i) (lg H l)
  constructor
  · intro h k hk
    by_cases hn : nag H (fun q => B (20 + q)) l i = true
    · rw [if_pos hn] at h; exact decide_eq_true (e.mp h k hk)
    · rw [if_neg hn] at h; omega
  · intro h
    have h2 : ∀ k, k < lg H l → B (20 + (i + k)) = i32 (sg H l k) := fun k hk => of_decide_eq_true (h k hk)
    have hn : nag H (fun q => B (20 + q)) l i = true := allb_iff.mpr (fun k hk => decide_eq_true (Or.inr (h2 k hk)))
    rw [if_pos hn]; exact e.mpr h2
theorem llk_rd {H : Nat → Nat} {B : Nat → Int32} {l b : Nat} : llk H B l b = 0 ↔ rdI H B l b = true := by
  have h := llk_le (H := H) (B := B) (l := l) (b := b) (x := 0)
  rw [rdI, exb_iff]
  constructor
  · intro z
    rcases h.mp (by omega) with q | ⟨p, hp, q⟩
    · omega
    · exact ⟨p, hp, lak_0.mp (by omega)⟩
  · rintro ⟨p, hp, q⟩
    have := h.mpr (Or.inr ⟨p, hp, by rw [lak_0.mpr q]; exact Nat.le_refl _⟩); omega
theorem llk_100 {H : Nat → Nat} {B : Nat → Int32} {l b : Nat} : llk H B l b ≤ 100000 := llk_le.mpr (Or.inl (Nat.le_refl _))
theorem lak_nag {H : Nat → Nat} {B : Nat → Int32} {l i : Nat} : lak H B l i < 100000 ↔ nag H (fun q => B (20 + q)) l i = true := by
  have := lkS_le (H := H) (B := B) (l := l) (i := i) (lg H l)
  have := lg_3 (H := H) (l := l)
  rw [lak, lkS]
  by_cases hn : nag H (fun q => B (20 + q)) l i = true
  · rw [if_pos hn]; exact ⟨fun _ => hn, fun _ => by omega⟩
  · rw [if_neg hn]; exact ⟨fun h => by omega, fun h => absurd h hn⟩
theorem llk_fit {H : Nat → Nat} {B : Nat → Int32} {l b : Nat} : llk H B l b < 100000 ↔ chh H (fun q => B (20 + q)) l (12 * b) (H (11 + b)) = true := by
  have h := llk_le (H := H) (B := B) (l := l) (b := b) (x := 99999)
  rw [chh, exb_iff]
  constructor
  · intro z
    rcases h.mp (by omega) with q | ⟨p, hp, q⟩
    · omega
    · exact ⟨p, hp, lak_nag.mp (by omega)⟩
  · rintro ⟨p, hp, q⟩
    have := h.mpr (Or.inr ⟨p, hp, by have := lak_nag.mpr q; omega⟩); omega
theorem m_isReadIn (hN : 1200 < N) (hO : hOk H) (hm : MR H B I) {l b : Nat} (hl : l < H 2) (hb : b < H 0) : fX11_isReadIn N 186 (i32 l) (i32 b) (mk I L r) = some (bi (rdI H B l b), mk I L r) := by
  have h100 := llk_100 (H := H) (B := B) (l := l) (b := b)
  unfold fX11_isReadIn
  simp (disch := first | assumption | omega | rfl) only [i_rem, i_pred, i_addn1, i_lit, i_n1, i_add, i_mul, i_sub, i_le, i_lt, i_eq, i_ne1, n1_ne, n1_lt, n1_le, i_lt1, i_le1, bd_s, nar_bi, nar_0, nar_1, if_pos, if_neg, ↓reduceIte, reduceCtorEq, eq_self, if_true, if_false, not_true_eq_false, not_false_eq_true, mo_k, mo_fI, mo_fL, mo_pI, mo_pL, mo_z0, mo_z1, mo_fR1, mo1_a, mo1_t, mo1_n, mo_fR14, mo14_a, mo14_t, mo14_n, mo_fR15, mo15_a, mo15_t, mo15_n, mo_fR16, mo16_a, mo16_t, mo16_n, mo_fR17, mo17_a, mo17_t, mo17_n, mo_fR18, mo18_a, mo18_t, mo18_n, mo_fR19, mo19_a, mo19_t, mo19_n, mo_fR20, mo20_a, mo20_t, mo20_n, mo_fR21, mo21_a, mo21_t, mo21_n, mo_fR22, mo22_a, mo22_t, mo22_n, mo_fR25, mo25_a, mo25_t, mo25_n, mo_fR26, mo26_a, mo26_t, mo26_n, mo_fR28, mo28_a, mo28_t, mo28_n, mo_fR29, mo29_a, mo29_t, mo29_n, mo_fR30, mo30_a, mo30_t, mo30_n, mo_fR33, mo33_a, mo33_t, mo33_n, mo_fR36, mo36_a, mo36_t, mo36_n, mo_fR37, mo37_a, mo37_t, mo37_n, mo_fR40, mo40_a, mo40_t, mo40_n, m_leastLacks hN hO hm]
  by_cases h : llk H B l b = 0
  · rw [if_pos h, llk_rd.mp h]; rfl
  · rw [if_neg h]
    cases e : rdI H B l b with
    | true => exact absurd (llk_rd.mpr e) h
    | false => rfl
theorem m_readIn (hN : 1200 < N) (hO : hOk H) (hm : MR H B I) {l : Nat} (hl : l < H 2) : fX11_readIn N 186 (i32 l) (mk I L r) = some (oi (fbO H B l), mk I L r) := by
  have o0 := hO.1; have o1 := hO.2.1; have o2 := hO.2.2.1; have o3 := hO.2.2.2.1; have o4 := hO.2.2.2.2.1; have o5 := hO.2.2.2.2.2.1
  unfold fX11_readIn
  simp only [i_lit]
  rw [lp_fd (F := fun n v => fX11_readIn_L2 N 186 (i32 l) n v (mk I L r)) (m := H 0) (fun b => rdI H B l b = true) (fun k => (i32 k, mk I L r)) (n1, mk I L r) ?_ ?_ ?_ (by omega)]
  · simp only [Bool.decide_eq_true, fbO]
    cases fd (fun b => rdI H B l b) (H 0) <;> rfl
  · intro n k hk hP
    simp (disch := first | assumption | omega | rfl) only [i_rem, i_pred, i_addn1, i_lit, i_n1, i_add, i_mul, i_sub, i_le, i_lt, i_eq, i_ne1, n1_ne, n1_lt, n1_le, i_lt1, i_le1, bd_s, nar_bi, nar_0, nar_1, if_pos, if_neg, ↓reduceIte, reduceCtorEq, eq_self, if_true, if_false, not_true_eq_false, not_false_eq_true, mo_k, mo_fI, mo_fL, mo_pI, mo_pL, mo_z0, mo_z1, mo_fR1, mo1_a, mo1_t, mo1_n, mo_fR14, mo14_a, mo14_t, mo14_n, mo_fR15, mo15_a, mo15_t, mo15_n, mo_fR16, mo16_a, mo16_t, mo16_n, mo_fR17, mo17_a, mo17_t, mo17_n, mo_fR18, mo18_a, mo18_t, mo18_n, mo_fR19, mo19_a, mo19_t, mo19_n, mo_fR20, mo20_a, mo20_t, mo20_n, mo_fR21, mo21_a, mo21_t, mo21_n, mo_fR22, mo22_a, mo22_t, mo22_n, mo_fR25, mo25_a, mo25_t, mo25_n, mo_fR26, mo26_a, mo26_t, mo26_n, mo_fR28, mo28_a, mo28_t, mo28_n, mo_fR29, mo29_a, mo29_t, mo29_n, mo_fR30, mo30_a, mo30_t, mo30_n, mo_fR33, mo33_a, mo33_t, mo33_n, mo_fR36, mo36_a, mo36_t, mo36_n, mo_fR37, mo37_a, mo37_t, mo37_n, mo_fR40, mo40_a, mo40_t, mo40_n, fX11_readIn_L2, m_nb hm, m_isReadIn hN hO hm, hP, bi_z]
  · intro n k hk hP
    simp (disch := first | assumption | omega | rfl) only [i_rem, i_pred, i_addn1, i_lit, i_n1, i_add, i_mul, i_sub, i_le, i_lt, i_eq, i_ne1, n1_ne, n1_lt, n1_le, i_lt1, i_le1, bd_s, nar_bi, nar_0, nar_1, if_pos, if_neg, ↓reduceIte, reduceCtorEq, eq_self, if_true, if_false, not_true_eq_false, not_false_eq_true, mo_k, mo_fI, mo_fL, mo_pI, mo_pL, mo_z0, mo_z1, mo_fR1, mo1_a, mo1_t, mo1_n, mo_fR14, mo14_a, mo14_t, mo14_n, mo_fR15, mo15_a, mo15_t, mo15_n, mo_fR16, mo16_a, mo16_t, mo16_n, mo_fR17, mo17_a, mo17_t, mo17_n, mo_fR18, mo18_a, mo18_t, mo18_n, mo_fR19, mo19_a, mo19_t, mo19_n, mo_fR20, mo20_a, mo20_t, mo20_n, mo_fR21, mo21_a, mo21_t, mo21_n, mo_fR22, mo22_a, mo22_t, mo22_n, mo_fR25, mo25_a, mo25_t, mo25_n, mo_fR26, mo26_a, mo26_t, mo26_n, mo_fR28, mo28_a, mo28_t, mo28_n, mo_fR29, mo29_a, mo29_t, mo29_n, mo_fR30, mo30_a, mo30_t, mo30_n, mo_fR33, mo33_a, mo33_t, mo33_n, mo_fR36, mo36_a, mo36_t, mo36_n, mo_fR37, mo37_a, mo37_t, mo37_n, mo_fR40, mo40_a, mo40_t, mo40_n, fX11_readIn_L2, m_nb hm, m_isReadIn hN hO hm, hP, bi_z]
  · intro n
    simp (disch := first | assumption | omega | rfl) only [i_rem, i_pred, i_addn1, i_lit, i_n1, i_add, i_mul, i_sub, i_le, i_lt, i_eq, i_ne1, n1_ne, n1_lt, n1_le, i_lt1, i_le1, bd_s, nar_bi, nar_0, nar_1, if_pos, if_neg, ↓reduceIte, reduceCtorEq, eq_self, if_true, if_false, not_true_eq_false, not_false_eq_true, mo_k, mo_fI, mo_fL, mo_pI, mo_pL, mo_z0, mo_z1, mo_fR1, mo1_a, mo1_t, mo1_n, mo_fR14, mo14_a, mo14_t, mo14_n, mo_fR15, mo15_a, mo15_t, mo15_n, mo_fR16, mo16_a, mo16_t, mo16_n, mo_fR17, mo17_a, mo17_t, mo17_n, mo_fR18, mo18_a, mo18_t, mo18_n, mo_fR19, mo19_a, mo19_t, mo19_n, mo_fR20, mo20_a, mo20_t, mo20_n, mo_fR21, mo21_a, mo21_t, mo21_n, mo_fR22, mo22_a, mo22_t, mo22_n, mo_fR25, mo25_a, mo25_t, mo25_n, mo_fR26, mo26_a, mo26_t, mo26_n, mo_fR28, mo28_a, mo28_t, mo28_n, mo_fR29, mo29_a, mo29_t, mo29_n, mo_fR30, mo30_a, mo30_t, mo30_n, mo_fR33, mo33_a, mo33_t, mo33_n, mo_fR36, mo36_a, mo36_t, mo36_n, mo_fR37, mo37_a, mo37_t, mo37_n, mo_fR40, mo40_a, mo40_t, mo40_n, fX11_readIn_L2, m_nb hm]
theorem cnt_add {P : Nat → Bool} {m : Nat} : ∀ d, (∀ k, m ≤ k → k < m + d → P k = false) → cnt P (m + d) = cnt P m := by
  intro d
  induction d with
  | zero => intro _; rfl
  | succ d ih =>
    intro h
    rw [← Nat.add_assoc, cnt_s, h (m + d) (by omega) (by omega), ih (fun k h1 h2 => h k h1 (by omega))]; rfl
theorem m_signsOf (hN : 1200 < N) (hO : hOk H) (hB : bOk H B) (hm : MR H B I) {b : Nat} (hb : b < H 0) : fX11_signsOf N 186 (i32 b) (mk I L r) = some (i32 (cn B b), mk I L r) := by
  have o0 := hO.1; have o1 := hO.2.1; have o2 := hO.2.2.1; have o3 := hO.2.2.2.1; have o4 := hO.2.2.2.2.1; have o5 := hO.2.2.2.2.2.1; have wd_b := hO.2.2.2.2.2.2.1 b (by assumption)
  unfold fX11_signsOf
  simp only [i_lit]
  rw [lp_fo (F := fun n v s => fX11_signsOf_L4 N 186 (i32 b) n (i32 s) v (mk I L r)) (m := H (11 + b)) (fun p s => if !decide (B (20 + (12 * b + p)) = n1) then s + 1 else s) (fun s => (i32 s, mk I L r)) ?_ ?_ (by omega) 0]
  · have := cnt_add (P := fun p => !decide (B (20 + (12 * b + p)) = n1)) (m := H (11 + b)) (12 - H (11 + b)) (fun k h1 h2 => by
      have := (hB.2.2 b k (by omega) (by omega) (fun _ => h1)).1
      simp [this])
    rw [show H (11 + b) + (12 - H (11 + b)) = 12 by omega] at this
    rw [cn_cnt, this]; rfl
  · intro n k s hk
    simp (disch := first | assumption | omega | rfl) only [i_rem, i_pred, i_addn1, i_lit, i_n1, i_add, i_mul, i_sub, i_le, i_lt, i_eq, i_ne1, n1_ne, n1_lt, n1_le, i_lt1, i_le1, bd_s, nar_bi, nar_0, nar_1, if_pos, if_neg, ↓reduceIte, reduceCtorEq, eq_self, if_true, if_false, not_true_eq_false, not_false_eq_true, mo_k, mo_fI, mo_fL, mo_pI, mo_pL, mo_z0, mo_z1, mo_fR1, mo1_a, mo1_t, mo1_n, mo_fR14, mo14_a, mo14_t, mo14_n, mo_fR15, mo15_a, mo15_t, mo15_n, mo_fR16, mo16_a, mo16_t, mo16_n, mo_fR17, mo17_a, mo17_t, mo17_n, mo_fR18, mo18_a, mo18_t, mo18_n, mo_fR19, mo19_a, mo19_t, mo19_n, mo_fR20, mo20_a, mo20_t, mo20_n, mo_fR21, mo21_a, mo21_t, mo21_n, mo_fR22, mo22_a, mo22_t, mo22_n, mo_fR25, mo25_a, mo25_t, mo25_n, mo_fR26, mo26_a, mo26_t, mo26_n, mo_fR28, mo28_a, mo28_t, mo28_n, mo_fR29, mo29_a, mo29_t, mo29_n, mo_fR30, mo30_a, mo30_t, mo30_n, mo_fR33, mo33_a, mo33_t, mo33_n, mo_fR36, mo36_a, mo36_t, mo36_n, mo_fR37, mo37_a, mo37_t, mo37_n, mo_fR40, mo40_a, mo40_t, mo40_n, fX11_signsOf_L4, m_wd hm, m_signAt hm]
    by_cases h : B (20 + (12 * b + k)) = n1 <;> simp [h]
  · intro n s
    simp (disch := first | assumption | omega | rfl) only [i_rem, i_pred, i_addn1, i_lit, i_n1, i_add, i_mul, i_sub, i_le, i_lt, i_eq, i_ne1, n1_ne, n1_lt, n1_le, i_lt1, i_le1, bd_s, nar_bi, nar_0, nar_1, if_pos, if_neg, ↓reduceIte, reduceCtorEq, eq_self, if_true, if_false, not_true_eq_false, not_false_eq_true, mo_k, mo_fI, mo_fL, mo_pI, mo_pL, mo_z0, mo_z1, mo_fR1, mo1_a, mo1_t, mo1_n, mo_fR14, mo14_a, mo14_t, mo14_n, mo_fR15, mo15_a, mo15_t, mo15_n, mo_fR16, mo16_a, mo16_t, mo16_n, mo_fR17, mo17_a, mo17_t, mo17_n, mo_fR18, mo18_a, mo18_t, mo18_n, mo_fR19, mo19_a, mo19_t, mo19_n, mo_fR20, mo20_a, mo20_t, mo20_n, mo_fR21, mo21_a, mo21_t, mo21_n, mo_fR22, mo22_a, mo22_t, mo22_n, mo_fR25, mo25_a, mo25_t, mo25_n, mo_fR26, mo26_a, mo26_t, mo26_n, mo_fR28, mo28_a, mo28_t, mo28_n, mo_fR29, mo29_a, mo29_t, mo29_n, mo_fR30, mo30_a, mo30_t, mo30_n, mo_fR33, mo33_a, mo33_t, mo33_n, mo_fR36, mo36_a, mo36_t, mo36_n, mo_fR37, mo37_a, mo37_t, mo37_n, mo_fR40, mo40_a, mo40_t, mo40_n, fX11_signsOf_L4, m_wd hm]
theorem m_tideAt (hO : hOk H) (hm : MR H B I) {h k : Nat} (hh : B 0 = i32 h) (h4 : h ≤ 400) (hk : k < 10000) : fX11_tideAt N 186 (i32 k) (mk I L r) = some (tdA H (h + k), mk I L r) := by
  have o0 := hO.1; have o1 := hO.2.1; have o2 := hO.2.2.1; have o3 := hO.2.2.2.1; have o4 := hO.2.2.2.2.1; have o5 := hO.2.2.2.2.2.1
  unfold fX11_tideAt
  by_cases h0 : H 3 = 0
  · simp (disch := first | assumption | omega | rfl) only [i_rem, i_pred, i_addn1, i_lit, i_n1, i_add, i_mul, i_sub, i_le, i_lt, i_eq, i_ne1, n1_ne, n1_lt, n1_le, i_lt1, i_le1, bd_s, nar_bi, nar_0, nar_1, if_pos, if_neg, ↓reduceIte, reduceCtorEq, eq_self, if_true, if_false, not_true_eq_false, not_false_eq_true, mo_k, mo_fI, mo_fL, mo_pI, mo_pL, mo_z0, mo_z1, mo_fR1, mo1_a, mo1_t, mo1_n, mo_fR14, mo14_a, mo14_t, mo14_n, mo_fR15, mo15_a, mo15_t, mo15_n, mo_fR16, mo16_a, mo16_t, mo16_n, mo_fR17, mo17_a, mo17_t, mo17_n, mo_fR18, mo18_a, mo18_t, mo18_n, mo_fR19, mo19_a, mo19_t, mo19_n, mo_fR20, mo20_a, mo20_t, mo20_n, mo_fR21, mo21_a, mo21_t, mo21_n, mo_fR22, mo22_a, mo22_t, mo22_n, mo_fR25, mo25_a, mo25_t, mo25_n, mo_fR26, mo26_a, mo26_t, mo26_n, mo_fR28, mo28_a, mo28_t, mo28_n, mo_fR29, mo29_a, mo29_t, mo29_n, mo_fR30, mo30_a, mo30_t, mo30_n, mo_fR33, mo33_a, mo33_t, mo33_n, mo_fR36, mo36_a, mo36_t, mo36_n, mo_fR37, mo37_a, mo37_t, mo37_n, mo_fR40, mo40_a, mo40_t, mo40_n, m_nt hm, tdA]
  · have := Nat.mod_lt (h + k) (show H 3 > 0 by omega)
    simp (disch := first | assumption | omega | rfl) only [i_rem, i_pred, i_addn1, i_lit, i_n1, i_add, i_mul, i_sub, i_le, i_lt, i_eq, i_ne1, n1_ne, n1_lt, n1_le, i_lt1, i_le1, bd_s, nar_bi, nar_0, nar_1, if_pos, if_neg, ↓reduceIte, reduceCtorEq, eq_self, if_true, if_false, not_true_eq_false, not_false_eq_true, mo_k, mo_fI, mo_fL, mo_pI, mo_pL, mo_z0, mo_z1, mo_fR1, mo1_a, mo1_t, mo1_n, mo_fR14, mo14_a, mo14_t, mo14_n, mo_fR15, mo15_a, mo15_t, mo15_n, mo_fR16, mo16_a, mo16_t, mo16_n, mo_fR17, mo17_a, mo17_t, mo17_n, mo_fR18, mo18_a, mo18_t, mo18_n, mo_fR19, mo19_a, mo19_t, mo19_n, mo_fR20, mo20_a, mo20_t, mo20_n, mo_fR21, mo21_a, mo21_t, mo21_n, mo_fR22, mo22_a, mo22_t, mo22_n, mo_fR25, mo25_a, mo25_t, mo25_n, mo_fR26, mo26_a, mo26_t, mo26_n, mo_fR28, mo28_a, mo28_t, mo28_n, mo_fR29, mo29_a, mo29_t, mo29_n, mo_fR30, mo30_a, mo30_t, mo30_n, mo_fR33, mo33_a, mo33_t, mo33_n, mo_fR36, mo36_a, mo36_t, mo36_n, mo_fR37, mo37_a, mo37_t, mo37_n, mo_fR40, mo40_a, mo40_t, mo40_n, m_nt hm, tdA, m_hr hm, hh, m_td hm]
theorem m_isWashed (hO : hOk H) (hm : MR H B I) {h b k : Nat} (hh : B 0 = i32 h) (h4 : h ≤ 400) (hk : k < 10000) (hb : b < H 0) : fX11_isWashed N 186 (i32 b) (i32 k) (mk I L r) = some (bi (!decide (tdA H (h + k) < i32 (H (5 + b)))), mk I L r) := by
  have o0 := hO.1; have o1 := hO.2.1; have o2 := hO.2.2.1; have o3 := hO.2.2.2.1; have o4 := hO.2.2.2.2.1; have o5 := hO.2.2.2.2.2.1
  unfold fX11_isWashed
  simp (disch := first | assumption | omega | rfl) only [i_rem, i_pred, i_addn1, i_lit, i_n1, i_add, i_mul, i_sub, i_le, i_lt, i_eq, i_ne1, n1_ne, n1_lt, n1_le, i_lt1, i_le1, bd_s, nar_bi, nar_0, nar_1, if_pos, if_neg, ↓reduceIte, reduceCtorEq, eq_self, if_true, if_false, not_true_eq_false, not_false_eq_true, mo_k, mo_fI, mo_fL, mo_pI, mo_pL, mo_z0, mo_z1, mo_fR1, mo1_a, mo1_t, mo1_n, mo_fR14, mo14_a, mo14_t, mo14_n, mo_fR15, mo15_a, mo15_t, mo15_n, mo_fR16, mo16_a, mo16_t, mo16_n, mo_fR17, mo17_a, mo17_t, mo17_n, mo_fR18, mo18_a, mo18_t, mo18_n, mo_fR19, mo19_a, mo19_t, mo19_n, mo_fR20, mo20_a, mo20_t, mo20_n, mo_fR21, mo21_a, mo21_t, mo21_n, mo_fR22, mo22_a, mo22_t, mo22_n, mo_fR25, mo25_a, mo25_t, mo25_n, mo_fR26, mo26_a, mo26_t, mo26_n, mo_fR28, mo28_a, mo28_t, mo28_n, mo_fR29, mo29_a, mo29_t, mo29_n, mo_fR30, mo30_a, mo30_t, mo30_n, mo_fR33, mo33_a, mo33_t, mo33_n, mo_fR36, mo36_a, mo36_t, mo36_n, mo_fR37, mo37_a, mo37_t, mo37_n, mo_fR40, mo40_a, mo40_t, mo40_n, m_ht hm, m_tideAt hO hm hh h4]
  by_cases hc : tdA H (h + k) < i32 (H (5 + b)) <;> simp [hc, bi]
theorem m_fitsOf (hN : 1200 < N) (hO : hOk H) (hm : MR H B I) {b : Nat} (hb : b < H 0) : fX11_fitsOf N 186 (i32 b) (mk I L r) = some (fitS H (fun q => B (20 + q)) (12 * b) (H (11 + b)), mk I L r) := by
  have o0 := hO.1; have o1 := hO.2.1; have o2 := hO.2.2.1; have o3 := hO.2.2.2.1; have o4 := hO.2.2.2.2.1; have o5 := hO.2.2.2.2.2.1
  unfold fX11_fitsOf
  simp only [i_lit]
  rw [lp_fo (F := fun n v s => fX11_fitsOf_L4 N 186 (i32 b) n s v (mk I L r)) (m := H 2) (fun l s => if chh H (fun q => B (20 + q)) l (12 * b) (H (11 + b)) then s ||| (i32 1 <<< (i32 l &&& i32 31)) else s) (fun s => (s, mk I L r)) ?_ ?_ (by omega)]
  · rfl
  · intro n k s hk
    have h100 := llk_100 (H := H) (B := B) (l := k) (b := b)
    simp (disch := first | assumption | omega | rfl) only [i_rem, i_pred, i_addn1, i_lit, i_n1, i_add, i_mul, i_sub, i_le, i_lt, i_eq, i_ne1, n1_ne, n1_lt, n1_le, i_lt1, i_le1, bd_s, nar_bi, nar_0, nar_1, if_pos, if_neg, ↓reduceIte, reduceCtorEq, eq_self, if_true, if_false, not_true_eq_false, not_false_eq_true, mo_k, mo_fI, mo_fL, mo_pI, mo_pL, mo_z0, mo_z1, mo_fR1, mo1_a, mo1_t, mo1_n, mo_fR14, mo14_a, mo14_t, mo14_n, mo_fR15, mo15_a, mo15_t, mo15_n, mo_fR16, mo16_a, mo16_t, mo16_n, mo_fR17, mo17_a, mo17_t, mo17_n, mo_fR18, mo18_a, mo18_t, mo18_n, mo_fR19, mo19_a, mo19_t, mo19_n, mo_fR20, mo20_a, mo20_t, mo20_n, mo_fR21, mo21_a, mo21_t, mo21_n, mo_fR22, mo22_a, mo22_t, mo22_n, mo_fR25, mo25_a, mo25_t, mo25_n, mo_fR26, mo26_a, mo26_t, mo26_n, mo_fR28, mo28_a, mo28_t, mo28_n, mo_fR29, mo29_a, mo29_t, mo29_n, mo_fR30, mo30_a, mo30_t, mo30_n, mo_fR33, mo33_a, mo33_t, mo33_n, mo_fR36, mo36_a, mo36_t, mo36_n, mo_fR37, mo37_a, mo37_t, mo37_n, mo_fR40, mo40_a, mo40_t, mo40_n, fX11_fitsOf_L4, m_nl hm, m_leastLacks hN hO hm]
    by_cases h : llk H B k b < 100000
    · rw [llk_fit.mp h, if_neg (by omega)]; rfl
    · rw [if_pos (by omega)]
      cases e : chh H (fun q => B (20 + q)) k (12 * b) (H (11 + b)) with
      | true => exact absurd (llk_fit.mpr e) h
      | false => rfl
  · intro n s
    simp (disch := first | assumption | omega | rfl) only [i_rem, i_pred, i_addn1, i_lit, i_n1, i_add, i_mul, i_sub, i_le, i_lt, i_eq, i_ne1, n1_ne, n1_lt, n1_le, i_lt1, i_le1, bd_s, nar_bi, nar_0, nar_1, if_pos, if_neg, ↓reduceIte, reduceCtorEq, eq_self, if_true, if_false, not_true_eq_false, not_false_eq_true, mo_k, mo_fI, mo_fL, mo_pI, mo_pL, mo_z0, mo_z1, mo_fR1, mo1_a, mo1_t, mo1_n, mo_fR14, mo14_a, mo14_t, mo14_n, mo_fR15, mo15_a, mo15_t, mo15_n, mo_fR16, mo16_a, mo16_t, mo16_n, mo_fR17, mo17_a, mo17_t, mo17_n, mo_fR18, mo18_a, mo18_t, mo18_n, mo_fR19, mo19_a, mo19_t, mo19_n, mo_fR20, mo20_a, mo20_t, mo20_n, mo_fR21, mo21_a, mo21_t, mo21_n, mo_fR22, mo22_a, mo22_t, mo22_n, mo_fR25, mo25_a, mo25_t, mo25_n, mo_fR26, mo26_a, mo26_t, mo26_n, mo_fR28, mo28_a, mo28_t, mo28_n, mo_fR29, mo29_a, mo29_t, mo29_n, mo_fR30, mo30_a, mo30_t, mo30_n, mo_fR33, mo33_a, mo33_t, mo33_n, mo_fR36, mo36_a, mo36_t, mo36_n, mo_fR37, mo37_a, mo37_t, mo37_n, mo_fR40, mo40_a, mo40_t, mo40_n, fX11_fitsOf_L4, m_nl hm]
theorem m_hasHand (hN : 1200 < N) (hm : MR H B I) {b : Nat} {w : Int32} (hb : b < 6) : fX11_hasHand N 186 (i32 b) w (mk I L r) = some (bi (exb (fun p => decide (B (92 + (12 * b + p)) = w)) 12), mk I L r) := by
  unfold fX11_hasHand
  simp only [i_lit]
  rw [lp_ex (F := fun n v => fX11_hasHand_L2 N 186 (i32 b) w n v (mk I L r)) (m := 12) (fun p => B (92 + (12 * b + p)) = w) (i32 1, mk I L r) (i32 0, mk I L r) ?_ ?_ ?_ (by omega)]
  · rw [bi_if']; rfl
  · intro n k hk hP
    simp (disch := first | assumption | omega | rfl) only [i_rem, i_pred, i_addn1, i_lit, i_n1, i_add, i_mul, i_sub, i_le, i_lt, i_eq, i_ne1, n1_ne, n1_lt, n1_le, i_lt1, i_le1, bd_s, nar_bi, nar_0, nar_1, if_pos, if_neg, ↓reduceIte, reduceCtorEq, eq_self, if_true, if_false, not_true_eq_false, not_false_eq_true, mo_k, mo_fI, mo_fL, mo_pI, mo_pL, mo_z0, mo_z1, mo_fR1, mo1_a, mo1_t, mo1_n, mo_fR14, mo14_a, mo14_t, mo14_n, mo_fR15, mo15_a, mo15_t, mo15_n, mo_fR16, mo16_a, mo16_t, mo16_n, mo_fR17, mo17_a, mo17_t, mo17_n, mo_fR18, mo18_a, mo18_t, mo18_n, mo_fR19, mo19_a, mo19_t, mo19_n, mo_fR20, mo20_a, mo20_t, mo20_n, mo_fR21, mo21_a, mo21_t, mo21_n, mo_fR22, mo22_a, mo22_t, mo22_n, mo_fR25, mo25_a, mo25_t, mo25_n, mo_fR26, mo26_a, mo26_t, mo26_n, mo_fR28, mo28_a, mo28_t, mo28_n, mo_fR29, mo29_a, mo29_t, mo29_n, mo_fR30, mo30_a, mo30_t, mo30_n, mo_fR33, mo33_a, mo33_t, mo33_n, mo_fR36, mo36_a, mo36_t, mo36_n, mo_fR37, mo37_a, mo37_t, mo37_n, mo_fR40, mo40_a, mo40_t, mo40_n, fX11_hasHand_L2, m_hd hm]
  · intro n k hk hP
    simp (disch := first | assumption | omega | rfl) only [i_rem, i_pred, i_addn1, i_lit, i_n1, i_add, i_mul, i_sub, i_le, i_lt, i_eq, i_ne1, n1_ne, n1_lt, n1_le, i_lt1, i_le1, bd_s, nar_bi, nar_0, nar_1, if_pos, if_neg, ↓reduceIte, reduceCtorEq, eq_self, if_true, if_false, not_true_eq_false, not_false_eq_true, mo_k, mo_fI, mo_fL, mo_pI, mo_pL, mo_z0, mo_z1, mo_fR1, mo1_a, mo1_t, mo1_n, mo_fR14, mo14_a, mo14_t, mo14_n, mo_fR15, mo15_a, mo15_t, mo15_n, mo_fR16, mo16_a, mo16_t, mo16_n, mo_fR17, mo17_a, mo17_t, mo17_n, mo_fR18, mo18_a, mo18_t, mo18_n, mo_fR19, mo19_a, mo19_t, mo19_n, mo_fR20, mo20_a, mo20_t, mo20_n, mo_fR21, mo21_a, mo21_t, mo21_n, mo_fR22, mo22_a, mo22_t, mo22_n, mo_fR25, mo25_a, mo25_t, mo25_n, mo_fR26, mo26_a, mo26_t, mo26_n, mo_fR28, mo28_a, mo28_t, mo28_n, mo_fR29, mo29_a, mo29_t, mo29_n, mo_fR30, mo30_a, mo30_t, mo30_n, mo_fR33, mo33_a, mo33_t, mo33_n, mo_fR36, mo36_a, mo36_t, mo36_n, mo_fR37, mo37_a, mo37_t, mo37_n, mo_fR40, mo40_a, mo40_t, mo40_n, fX11_hasHand_L2, m_hd hm]
  · intro n
    simp (disch := first | assumption | omega | rfl) only [i_rem, i_pred, i_addn1, i_lit, i_n1, i_add, i_mul, i_sub, i_le, i_lt, i_eq, i_ne1, n1_ne, n1_lt, n1_le, i_lt1, i_le1, bd_s, nar_bi, nar_0, nar_1, if_pos, if_neg, ↓reduceIte, reduceCtorEq, eq_self, if_true, if_false, not_true_eq_false, not_false_eq_true, mo_k, mo_fI, mo_fL, mo_pI, mo_pL, mo_z0, mo_z1, mo_fR1, mo1_a, mo1_t, mo1_n, mo_fR14, mo14_a, mo14_t, mo14_n, mo_fR15, mo15_a, mo15_t, mo15_n, mo_fR16, mo16_a, mo16_t, mo16_n, mo_fR17, mo17_a, mo17_t, mo17_n, mo_fR18, mo18_a, mo18_t, mo18_n, mo_fR19, mo19_a, mo19_t, mo19_n, mo_fR20, mo20_a, mo20_t, mo20_n, mo_fR21, mo21_a, mo21_t, mo21_n, mo_fR22, mo22_a, mo22_t, mo22_n, mo_fR25, mo25_a, mo25_t, mo25_n, mo_fR26, mo26_a, mo26_t, mo26_n, mo_fR28, mo28_a, mo28_t, mo28_n, mo_fR29, mo29_a, mo29_t, mo29_n, mo_fR30, mo30_a, mo30_t, mo30_n, mo_fR33, mo33_a, mo33_t, mo33_n, mo_fR36, mo36_a, mo36_t, mo36_n, mo_fR37, mo37_a, mo37_t, mo37_n, mo_fR40, mo40_a, mo40_t, mo40_n, fX11_hasHand_L2]
theorem m_washedBy (hN : 1200 < N) (hO : hOk H) (hm : MR H B I) {h b i m : Nat} (hh : B 0 = i32 h) (h4 : h ≤ 400) (hi : i + m < 1000) (hb : b < H 0) : fX11_washedBy N 186 (i32 b) (i32 i) (i32 (i + m)) (mk I L r) = some (i32 (match fd (fun k => decide (¬ tdA H (h + (i + k)) < i32 (H (5 + b)))) m with | some k => i + k | none => i + m), mk I L r) := by
  have o0 := hO.1; have o1 := hO.2.1; have o2 := hO.2.2.1; have o3 := hO.2.2.2.1; have o4 := hO.2.2.2.2.1; have o5 := hO.2.2.2.2.2.1
  unfold fX11_washedBy
  rw [lp_fdF (F := fun n v => fX11_washedBy_L3 N 186 (i32 b) (i32 (i + m)) n v (mk I L r)) (m := m) (i := i) (fun k => ¬ tdA H (h + (i + k)) < i32 (H (5 + b))) (fun k => (i32 (i + k), mk I L r)) (i32 (i + m), mk I L r) ?_ ?_ ?_ (by omega)]
  · cases fd (fun k => decide (¬ tdA H (h + (i + k)) < i32 (H (5 + b)))) m <;> rfl
  · intro n k hk hP
    simp (disch := first | assumption | omega | rfl) only [i_rem, i_pred, i_addn1, i_lit, i_n1, i_add, i_mul, i_sub, i_le, i_lt, i_eq, i_ne1, n1_ne, n1_lt, n1_le, i_lt1, i_le1, bd_s, nar_bi, nar_0, nar_1, if_pos, if_neg, ↓reduceIte, reduceCtorEq, eq_self, if_true, if_false, not_true_eq_false, not_false_eq_true, mo_k, mo_fI, mo_fL, mo_pI, mo_pL, mo_z0, mo_z1, mo_fR1, mo1_a, mo1_t, mo1_n, mo_fR14, mo14_a, mo14_t, mo14_n, mo_fR15, mo15_a, mo15_t, mo15_n, mo_fR16, mo16_a, mo16_t, mo16_n, mo_fR17, mo17_a, mo17_t, mo17_n, mo_fR18, mo18_a, mo18_t, mo18_n, mo_fR19, mo19_a, mo19_t, mo19_n, mo_fR20, mo20_a, mo20_t, mo20_n, mo_fR21, mo21_a, mo21_t, mo21_n, mo_fR22, mo22_a, mo22_t, mo22_n, mo_fR25, mo25_a, mo25_t, mo25_n, mo_fR26, mo26_a, mo26_t, mo26_n, mo_fR28, mo28_a, mo28_t, mo28_n, mo_fR29, mo29_a, mo29_t, mo29_n, mo_fR30, mo30_a, mo30_t, mo30_n, mo_fR33, mo33_a, mo33_t, mo33_n, mo_fR36, mo36_a, mo36_t, mo36_n, mo_fR37, mo37_a, mo37_t, mo37_n, mo_fR40, mo40_a, mo40_t, mo40_n, fX11_washedBy_L3, m_isWashed hO hm hh h4, hP, decide_false, bi_z, Bool.not_false]
  · intro n k hk hP
    have hP' := Decidable.not_not.mp hP
    simp (disch := first | assumption | omega | rfl) only [i_rem, i_pred, i_addn1, i_lit, i_n1, i_add, i_mul, i_sub, i_le, i_lt, i_eq, i_ne1, n1_ne, n1_lt, n1_le, i_lt1, i_le1, bd_s, nar_bi, nar_0, nar_1, if_pos, if_neg, ↓reduceIte, reduceCtorEq, eq_self, if_true, if_false, not_true_eq_false, not_false_eq_true, mo_k, mo_fI, mo_fL, mo_pI, mo_pL, mo_z0, mo_z1, mo_fR1, mo1_a, mo1_t, mo1_n, mo_fR14, mo14_a, mo14_t, mo14_n, mo_fR15, mo15_a, mo15_t, mo15_n, mo_fR16, mo16_a, mo16_t, mo16_n, mo_fR17, mo17_a, mo17_t, mo17_n, mo_fR18, mo18_a, mo18_t, mo18_n, mo_fR19, mo19_a, mo19_t, mo19_n, mo_fR20, mo20_a, mo20_t, mo20_n, mo_fR21, mo21_a, mo21_t, mo21_n, mo_fR22, mo22_a, mo22_t, mo22_n, mo_fR25, mo25_a, mo25_t, mo25_n, mo_fR26, mo26_a, mo26_t, mo26_n, mo_fR28, mo28_a, mo28_t, mo28_n, mo_fR29, mo29_a, mo29_t, mo29_n, mo_fR30, mo30_a, mo30_t, mo30_n, mo_fR33, mo33_a, mo33_t, mo33_n, mo_fR36, mo36_a, mo36_t, mo36_n, mo_fR37, mo37_a, mo37_t, mo37_n, mo_fR40, mo40_a, mo40_t, mo40_n, fX11_washedBy_L3, m_isWashed hO hm hh h4, hP', decide_true, bi_z, Bool.not_true]
  · intro n
    simp (disch := first | assumption | omega | rfl) only [i_rem, i_pred, i_addn1, i_lit, i_n1, i_add, i_mul, i_sub, i_le, i_lt, i_eq, i_ne1, n1_ne, n1_lt, n1_le, i_lt1, i_le1, bd_s, nar_bi, nar_0, nar_1, if_pos, if_neg, ↓reduceIte, reduceCtorEq, eq_self, if_true, if_false, not_true_eq_false, not_false_eq_true, mo_k, mo_fI, mo_fL, mo_pI, mo_pL, mo_z0, mo_z1, mo_fR1, mo1_a, mo1_t, mo1_n, mo_fR14, mo14_a, mo14_t, mo14_n, mo_fR15, mo15_a, mo15_t, mo15_n, mo_fR16, mo16_a, mo16_t, mo16_n, mo_fR17, mo17_a, mo17_t, mo17_n, mo_fR18, mo18_a, mo18_t, mo18_n, mo_fR19, mo19_a, mo19_t, mo19_n, mo_fR20, mo20_a, mo20_t, mo20_n, mo_fR21, mo21_a, mo21_t, mo21_n, mo_fR22, mo22_a, mo22_t, mo22_n, mo_fR25, mo25_a, mo25_t, mo25_n, mo_fR26, mo26_a, mo26_t, mo26_n, mo_fR28, mo28_a, mo28_t, mo28_n, mo_fR29, mo29_a, mo29_t, mo29_n, mo_fR30, mo30_a, mo30_t, mo30_n, mo_fR33, mo33_a, mo33_t, mo33_n, mo_fR36, mo36_a, mo36_t, mo36_n, mo_fR37, mo37_a, mo37_t, mo37_n, mo_fR40, mo40_a, mo40_t, mo40_n, fX11_washedBy_L3]
end
