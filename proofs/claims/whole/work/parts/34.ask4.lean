/-! ===== HOW MANY BITS ===== -/
def bcE (x : Int32) : Int32 := match fJ6_bitCount_0f7a4 0 x M00 with
  | some q => q.1
  | none => 0
def btL : Nat → Int32 → Int32 → Option Int32
  | 0, _, _ => none
  | n + 1, a, b => if b = i32 0 then some a else btL n (a + i32 1) (b &&& (b - i32 1))
theorem bc_E {N : Nat} {x : Int32} {M : Mem} : fJ6_bitCount_0f7a4 N x M = some (bcE x, M) := rfl
theorem bt_L {N : Nat} {M : Mem} : ∀ n a b, fX11_bits_L4 N n a b M = (btL n a b).map (fun y => (y, M)) := by
  intro n
  induction n with
  | zero => intro a b; rfl
  | succ n ih =>
    intro a b
    simp only [fX11_bits_L4, btL, i_lit]
    by_cases h : b = i32 0
    · simp only [h, ↓reduceIte]; rfl
    · simp only [h, ↓reduceIte]; exact ih _ _
theorem bt_m {y : Int32} : ∀ n d a b, btL n a b = some y → btL (n + d) a b = some y := by
  intro n
  induction n with
  | zero => intro d a b h; cases h
  | succ n ih =>
    intro d a b h
    rw [show n + 1 + d = n + d + 1 by omega]
    rw [btL] at h ⊢
    by_cases hb : b = i32 0
    · rw [if_pos hb] at h ⊢; exact h
    · rw [if_neg hb] at h ⊢; exact ih d _ _ h
theorem bc6 (Q : Nat → Bool) : bcE (bset Q 6) = i32 (cnt Q 6) ∧ btL 7 (i32 0) (bset Q 6) = some (i32 (cnt Q 6)) := by
  simp only [bset, cnt, fo]
  generalize Q 0 = b0
  generalize Q 1 = b1
  generalize Q 2 = b2
  generalize Q 3 = b3
  generalize Q 4 = b4
  generalize Q 5 = b5
  revert b0 b1 b2 b3 b4 b5
  decide +kernel
theorem bset_6 {P : Nat → Bool} {m : Nat} (hm : m ≤ 6) : bset P m = bset (fun k => decide (k < m) && P k) 6 := by
  refine i_ext (fun i hi => ?_)
  rw [bset_bit (by omega), bset_bit (by omega)]
  by_cases h1 : i < m
  · simp [h1, show i < 6 by omega]
  · simp [h1]
theorem cnt_6 {P : Nat → Bool} {m : Nat} (hm : m ≤ 6) : cnt P m = cnt (fun k => decide (k < m) && P k) 6 := by
  have := cnt_add (P := fun k => decide (k < m) && P k) (m := m) (6 - m) (fun k h1 h2 => by simp [show ¬ k < m by omega])
  rw [show m + (6 - m) = 6 by omega] at this
  rw [this]
  exact cnt_congr (fun k hk => by simp [hk])
theorem c_bc {N m : Nat} {P : Nat → Bool} {M : Mem} (hm : m ≤ 6) : fJ6_bitCount_0f7a4 N (bset P m) M = some (i32 (cnt P m), M) := by
  rw [bc_E, bset_6 hm, cnt_6 hm, (bc6 _).1]
theorem m_bits {N m : Nat} {P : Nat → Bool} {M : Mem} (hN : 1200 < N) (hm : m ≤ 6) : fX11_bits N (bset P m) M = some (i32 (cnt P m), M) := by
  have h := bt_m 7 (N - 7) (i32 0) _ (bc6 (fun k => decide (k < m) && P k)).2
  rw [show 7 + (N - 7) = N by omega] at h
  unfold fX11_bits
  simp only [i_lit]
  rw [bt_L, bset_6 hm, h, cnt_6 hm]; rfl
theorem bset_set {P : Nat → Bool} {b : Nat} (hb : b < 6) : bset P 6 ||| (i32 1 <<< (i32 b &&& i32 31)) = bset (fun k => P k || decide (k = b)) 6 := by
  refine i_ext (fun i hi => ?_)
  rw [tb_or, BitVec.getLsbD_or, bset_bit (by omega), bset_bit (by omega), tp_bit (by omega)]
  by_cases h1 : i = b
  · subst h1; simp [hb]
  · simp [h1]
/-! ===== WHICH PLACE TO ASK FOR ===== -/
def gsr (B : Nat → Int32) (b p s : Nat) : Nat → Int32 := fun q => if q = p then i32 s else B (20 + (12 * b + q))
def lbc (H : Nat → Nat) (B : Nat → Int32) (b p s : Nat) : Nat := cnt (fun l => chh H (gsr B b p s) l 0 (H (11 + b))) (H 2)
def lbm (H : Nat → Nat) (B : Nat → Int32) (b p m : Nat) : Nat := fo (fun s c => if c < lbc H B b p s then lbc H B b p s else c) 0 m
section
variable {H : Nat → Nat} {B : Nat → Int32} {I : Nat → Nat → Int32} {L : Nat → Nat → Int64} {r : Bool} {N a : Nat}
theorem lbc_6 (hO : hOk H) {b p s : Nat} : lbc H B b p s ≤ 6 := Nat.le_trans cnt_le hO.2.2.1
theorem lbm_s {b p m : Nat} : lbm H B b p (m + 1) = if lbm H B b p m < lbc H B b p m then lbc H B b p m else lbm H B b p m := rfl
theorem lbm_6 (hO : hOk H) {b p : Nat} : ∀ m, lbm H B b p m ≤ 6 := by
  intro m
  induction m with
  | zero => exact Nat.zero_le _
  | succ m ih => rw [lbm_s]; split
                 · exact lbc_6 hO
                 · exact ih
theorem c_mostLeft (hN : 1200 < N) (hO : hOk H) (hs : RS 4 H I) (ha : isBe a = true) {b p : Nat} (hbb : b < H 0) (hp : p < H (11 + b)) (h0 : B (20 + (12 * b + p)) = n1) (hr : ∀ k, k < 12 → I (a + 7) k = B (20 + (12 * b + k))) : ∃ J, fX0_mostLeftByAsking N a (i32 p) (i32 (H (11 + b))) (mk I L r) = some (i32 (lbm H B b p 10), mk J L r) ∧ (∀ k, k < 12 → J (a + 7) k = B (20 + (12 * b + k))) ∧ ∀ q, q ≠ a + 7 → J q = I q := by
  have o0 := hO.1; have o1 := hO.2.1; have o2 := hO.2.2.1; have o3 := hO.2.2.2.1; have o4 := hO.2.2.2.2.1; have o5 := hO.2.2.2.2.2.1; have wd_b := hO.2.2.2.2.2.2.1 b (by assumption)
  have hr2 := isBe_r ha
  obtain ⟨s, e, g1, g2, g3⟩ := lp_st (F := fun n' v (s : Nat × (Nat → Nat → Int32)) => fX0_mostLeftByAsking_L5 N a (i32 p) (i32 (H (11 + b))) n' (i32 s.1) v (mk s.2 L r)) (m := 10) (fun k s => s.1 = lbm H B b p k ∧ (∀ j, j < 12 → j ≠ p → s.2 (a + 7) j = B (20 + (12 * b + j))) ∧ ∀ q, q ≠ a + 7 → s.2 q = I q) (fun s => (i32 s.1, mk s.2 L r)) (fun n' k s hk hJ => by
    obtain ⟨c, J⟩ := s
    obtain ⟨h1, h2, h3⟩ := hJ
    dsimp only at h1 h2 h3 ⊢
    subst h1
    have hsK : RS 4 H (up J (a + 7) p (i32 k)) := RS_of (fun q z1 z2 => by rw [up_row (by omega)]; exact h3 q (by omega)) hs
    have e1 := c_lawsFitting (N := N) (L := L) (r := r) hN hO hsK (q := a + 7) (n := 12) (i := 0) (m := H (11 + b)) (fun j hj => be7_a ha hj) (by omega) (by omega)
    have e2 : fitS H ((up J (a + 7) p (i32 k)) (a + 7)) 0 (H (11 + b)) = bset (fun l => chh H (gsr B b p k) l 0 (H (11 + b))) (H 2) := fit_congr (fun j hj => by
      rw [Nat.zero_add, gsr, up_at]
      by_cases hjp : j = p
      · rw [if_pos hjp, if_pos hjp]
      · rw [if_neg hjp, if_neg hjp]; exact h2 j (by omega) hjp)
    have e3 : fJ6_bitCount_0f7a4 N (bset (fun l => chh H (gsr B b p k) l 0 (H (11 + b))) (H 2)) (mk (up J (a + 7) p (i32 k)) L r) = some (i32 (lbc H B b p k), mk (up J (a + 7) p (i32 k)) L r) := c_bc o2
    rw [e2] at e1
    have c6 := lbc_6 (B := B) hO (b := b) (p := p) (s := k)
    have m6 := lbm_6 (B := B) hO (b := b) (p := p) k
    refine ⟨(lbm H B b p (k + 1), up J (a + 7) p (i32 k)), ?_, rfl, fun j hj hjp => ?_, fun q hq => ?_⟩
    · simp (disch := first | assumption | omega | rfl) only [i_rem, i_pred, i_addn1, i_lit, i_n1, i_add, i_mul, i_sub, i_le, i_lt, i_eq, i_ne1, n1_ne, n1_lt, n1_le, i_lt1, i_le1, bd_s, nar_bi, nar_0, nar_1, if_pos, if_neg, ↓reduceIte, reduceCtorEq, eq_self, if_true, if_false, not_true_eq_false, not_false_eq_true, be_k, be_fI, be_fL, be_pI, be_pL, be_z0, be_z1, be_fR0, be_fR1, be1_a, be1_t, be1_n, be_fR2, be2_a, be2_t, be2_n, be_fR3, be3_a, be3_t, be3_n, be_fR4, be4_a, be4_t, be4_n, be_fR5, be5_a, be5_t, be5_n, be_fR6, be6_a, be6_t, be6_n, be_fR7, be7_a, be7_t, be7_n, s4_k, s4_fI, s4_fL, s4_pI, s4_pL, s4_z0, s4_z1, s4_fR1, s41_a, s41_t, s41_n, s4_fR2, s42_a, s42_t, s42_n, s4_fR3, s43_a, s43_t, s43_n, s4_fR5, s45_a, s45_t, s45_n, s4_fR7, s47_a, s47_t, s47_n, s4_fR8, s48_a, s48_t, s48_n, s4_fR10, s410_a, s410_t, s410_n, s4_fR11, s411_a, s411_t, s411_n, s4_fR12, s412_a, s412_t, s412_n, s4_fR13, s413_a, s413_t, s413_n, fX0_mostLeftByAsking_L5, e1, e3]
      rw [lbm_s]
      by_cases hlt : lbm H B b p k < lbc H B b p k
      · simp only [hlt, ↓reduceIte]
      · simp only [hlt, ↓reduceIte]
    · dsimp only; rw [up_ofk hjp]; exact h2 j hj hjp
    · dsimp only; rw [up_row hq]; exact h3 q hq) (fun n' s _ => by
    simp (disch := first | assumption | omega | rfl) only [i_rem, i_pred, i_addn1, i_lit, i_n1, i_add, i_mul, i_sub, i_le, i_lt, i_eq, i_ne1, n1_ne, n1_lt, n1_le, i_lt1, i_le1, bd_s, nar_bi, nar_0, nar_1, if_pos, if_neg, ↓reduceIte, reduceCtorEq, eq_self, if_true, if_false, not_true_eq_false, not_false_eq_true, fX0_mostLeftByAsking_L5]) (n := N) (by omega) (s := (0, I)) ⟨rfl, fun j hj _ => hr j hj, fun _ _ => rfl⟩
  dsimp only at e
  rw [g1] at e
  refine ⟨up s.2 (a + 7) p n1, ?_, fun k hk => ?_, fun q hq => ?_⟩
  · unfold fX0_mostLeftByAsking
    simp (disch := first | assumption | omega | rfl) only [i_rem, i_pred, i_addn1, i_lit, i_n1, i_add, i_mul, i_sub, i_le, i_lt, i_eq, i_ne1, n1_ne, n1_lt, n1_le, i_lt1, i_le1, bd_s, nar_bi, nar_0, nar_1, if_pos, if_neg, ↓reduceIte, reduceCtorEq, eq_self, if_true, if_false, not_true_eq_false, not_false_eq_true, be_k, be_fI, be_fL, be_pI, be_pL, be_z0, be_z1, be_fR0, be_fR1, be1_a, be1_t, be1_n, be_fR2, be2_a, be2_t, be2_n, be_fR3, be3_a, be3_t, be3_n, be_fR4, be4_a, be4_t, be4_n, be_fR5, be5_a, be5_t, be5_n, be_fR6, be6_a, be6_t, be6_n, be_fR7, be7_a, be7_t, be7_n, e]
  · rw [up_at]
    by_cases hkp : k = p
    · rw [if_pos hkp, hkp, h0]
    · rw [if_neg hkp]; exact g2 k hk hkp
  · rw [up_row hq]; exact g3 q hq
/-- the best place so far, and how many laws it leaves at the most -/
def asT (H : Nat → Nat) (B : Nat → Int32) (b p : Nat) (s : Option (Nat × Nat)) : Option (Nat × Nat) := if B (20 + (12 * b + p)) = n1 then (match s with
  | none => some (p, lbm H B b p 10)
  | some x => if lbm H B b p 10 < x.2 then some (p, lbm H B b p 10) else some x) else s
def asS (H : Nat → Nat) (B : Nat → Int32) (b m : Nat) : Option (Nat × Nat) := fo (fun p s => asT H B b p s) none m
def as1 (s : Option (Nat × Nat)) : Int32 := match s with
  | none => n1
  | some x => i32 x.1
def as2 (c : Nat) (s : Option (Nat × Nat)) : Int32 := match s with
  | none => i32 c
  | some x => i32 x.2
theorem asS_6 (hO : hOk H) {b : Nat} : ∀ m x, asS H B b m = some x → x.1 < m ∧ x.2 ≤ 6 := by
  intro m
  induction m with
  | zero => intro x h; cases h
  | succ m ih =>
    intro x h
    have e : asS H B b (m + 1) = asT H B b m (asS H B b m) := rfl
    rw [e] at h
    unfold asT at h
    have l6 := lbm_6 (B := B) hO (b := b) (p := m) 10
    by_cases hc : B (20 + (12 * b + m)) = n1
    · rw [if_pos hc] at h
      cases hs : asS H B b m with
      | none => rw [hs] at h; cases h; exact ⟨by dsimp only; omega, l6⟩
      | some y =>
        rw [hs] at h
        dsimp only at h
        have := ih y hs
        by_cases hl : lbm H B b m 10 < y.2
        · rw [if_pos hl] at h; cases h; exact ⟨by dsimp only; omega, l6⟩
        · rw [if_neg hl] at h; cases h; omega
    · rw [if_neg hc] at h
      have := ih x h
      omega
theorem c_best (hN : 1200 < N) (hO : hOk H) (hs : RS 4 H I) (ha : isBe a = true) (hb : BR a B I) {b : Nat} (hbb : b < H 0) : ∃ J, fX0_bestPlaceToAsk N a (i32 b) (mk I L r) = some (if fitS H (fun q => B (20 + q)) (12 * b) (H (11 + b)) = i32 0 then n1 else as1 (asS H B b (H (11 + b))), mk J L r) ∧ ∀ q, q ≠ a + 7 → J q = I q := by
  have o0 := hO.1; have o1 := hO.2.1; have o2 := hO.2.2.1; have o3 := hO.2.2.2.1; have o4 := hO.2.2.2.2.1; have o5 := hO.2.2.2.2.2.1; have wd_b := hO.2.2.2.2.2.2.1 b (by assumption)
  have hr2 := isBe_r ha
  have e1 := c_lawsFitting (N := N) (L := L) (r := r) hN hO hs (q := a + 1) (n := 72) (i := 12 * b) (m := H (11 + b)) (fun j hj => be1_a ha hj) (by omega) (by omega)
  have e2 : fitS H (I (a + 1)) (12 * b) (H (11 + b)) = fitS H (fun q => B (20 + q)) (12 * b) (H (11 + b)) := fit_congr (fun j hj => be_mk hb (by omega))
  rw [e2] at e1
  by_cases hf : fitS H (fun q => B (20 + q)) (12 * b) (H (11 + b)) = i32 0
  · refine ⟨I, ?_, fun _ _ => rfl⟩
    unfold fX0_bestPlaceToAsk
    simp (disch := first | assumption | omega | rfl) only [i_rem, i_pred, i_addn1, i_lit, i_n1, i_add, i_mul, i_sub, i_le, i_lt, i_eq, i_ne1, n1_ne, n1_lt, n1_le, i_lt1, i_le1, bd_s, nar_bi, nar_0, nar_1, if_pos, if_neg, ↓reduceIte, reduceCtorEq, eq_self, if_true, if_false, not_true_eq_false, not_false_eq_true, be_k, be_fI, be_fL, be_pI, be_pL, be_z0, be_z1, be_fR0, be_fR1, be1_a, be1_t, be1_n, be_fR2, be2_a, be2_t, be2_n, be_fR3, be3_a, be3_t, be3_n, be_fR4, be4_a, be4_t, be4_n, be_fR5, be5_a, be5_t, be5_n, be_fR6, be6_a, be6_t, be6_n, be_fR7, be7_a, be7_t, be7_n, s4_k, s4_fI, s4_fL, s4_pI, s4_pL, s4_z0, s4_z1, s4_fR1, s41_a, s41_t, s41_n, s4_fR2, s42_a, s42_t, s42_n, s4_fR3, s43_a, s43_t, s43_n, s4_fR5, s45_a, s45_t, s45_n, s4_fR7, s47_a, s47_t, s47_n, s4_fR8, s48_a, s48_t, s48_n, s4_fR10, s410_a, s410_t, s410_n, s4_fR11, s411_a, s411_t, s411_n, s4_fR12, s412_a, s412_t, s412_n, s4_fR13, s413_a, s413_t, s413_n, c_placeIndex, Nat.add_zero, s4_wd hs, e1, hf]
  · have e3 := mk_cI (I := I) (L := L) (r := r) (a0 := a + 1) (a1 := a + 7) (sp := 12 * b) (dp := 0) (n := 12) (be1_K ha) (be7_K ha) (be1_N ha) (be7_N ha) (by omega) (by omega) (by omega) (by omega)
    have hr : ∀ k, k < 12 → cpy I (a + 1) (12 * b) (a + 7) 0 12 (a + 7) k = B (20 + (12 * b + k)) := fun k hk => by
      rw [cpy_in (by omega), Nat.sub_zero]; exact be_mk hb (by omega)
    obtain ⟨s, e, g1, g2, g3⟩ := lp_st (F := fun n' v (s : Option (Nat × Nat) × (Nat → Nat → Int32)) => fX0_bestPlaceToAsk_L57 N a (i32 b) n' (as1 s.1) (as2 7 s.1) v (mk s.2 L r)) (m := H (11 + b)) (fun k s => s.1 = asS H B b k ∧ (∀ j, j < 12 → s.2 (a + 7) j = B (20 + (12 * b + j))) ∧ ∀ q, q ≠ a + 7 → s.2 q = I q) (fun s => (as1 s.1, mk s.2 L r)) (fun n' k s hk hJ => by
      obtain ⟨c, J⟩ := s
      obtain ⟨h1, h2, h3⟩ := hJ
      dsimp only at h1 h2 h3 ⊢
      subst h1
      have hsJ : RS 4 H J := RS_of (fun q z1 z2 => h3 q (by omega)) hs
      by_cases hc : B (20 + (12 * b + k)) = n1
      · obtain ⟨J2, f1, f2, f3⟩ := c_mostLeft (N := N) (L := L) (r := r) hN hO hsJ ha hbb hk hc h2
        have l6 := lbm_6 (B := B) hO (b := b) (p := k) 10
        have a6 := asS_6 (B := B) hO (b := b) k
        refine ⟨(asS H B b (k + 1), J2), ?_, rfl, f2, fun q hq => (f3 q hq).trans (h3 q hq)⟩
        have e4 : asS H B b (k + 1) = asT H B b k (asS H B b k) := rfl
        dsimp only
        rw [e4]
        cases hS : asS H B b k with
        | none =>
          simp (disch := first | assumption | omega | rfl) only [i_rem, i_pred, i_addn1, i_lit, i_n1, i_add, i_mul, i_sub, i_le, i_lt, i_eq, i_ne1, n1_ne, n1_lt, n1_le, i_lt1, i_le1, bd_s, nar_bi, nar_0, nar_1, if_pos, if_neg, ↓reduceIte, reduceCtorEq, eq_self, if_true, if_false, not_true_eq_false, not_false_eq_true, be_k, be_fI, be_fL, be_pI, be_pL, be_z0, be_z1, be_fR0, be_fR1, be1_a, be1_t, be1_n, be_fR2, be2_a, be2_t, be2_n, be_fR3, be3_a, be3_t, be3_n, be_fR4, be4_a, be4_t, be4_n, be_fR5, be5_a, be5_t, be5_n, be_fR6, be6_a, be6_t, be6_n, be_fR7, be7_a, be7_t, be7_n, s4_k, s4_fI, s4_fL, s4_pI, s4_pL, s4_z0, s4_z1, s4_fR1, s41_a, s41_t, s41_n, s4_fR2, s42_a, s42_t, s42_n, s4_fR3, s43_a, s43_t, s43_n, s4_fR5, s45_a, s45_t, s45_n, s4_fR7, s47_a, s47_t, s47_n, s4_fR8, s48_a, s48_t, s48_n, s4_fR10, s410_a, s410_t, s410_n, s4_fR11, s411_a, s411_t, s411_n, s4_fR12, s412_a, s412_t, s412_n, s4_fR13, s413_a, s413_t, s413_n, fX0_bestPlaceToAsk_L57, s4_wd hsJ, h2, hc, f1, as1, as2, asT]
        | some x =>
          have x6 := a6 x hS
          by_cases hl : lbm H B b k 10 < x.2
          · simp (disch := first | assumption | omega | rfl) only [i_rem, i_pred, i_addn1, i_lit, i_n1, i_add, i_mul, i_sub, i_le, i_lt, i_eq, i_ne1, n1_ne, n1_lt, n1_le, i_lt1, i_le1, bd_s, nar_bi, nar_0, nar_1, if_pos, if_neg, ↓reduceIte, reduceCtorEq, eq_self, if_true, if_false, not_true_eq_false, not_false_eq_true, be_k, be_fI, be_fL, be_pI, be_pL, be_z0, be_z1, be_fR0, be_fR1, be1_a, be1_t, be1_n, be_fR2, be2_a, be2_t, be2_n, be_fR3, be3_a, be3_t, be3_n, be_fR4, be4_a, be4_t, be4_n, be_fR5, be5_a, be5_t, be5_n, be_fR6, be6_a, be6_t, be6_n, be_fR7, be7_a, be7_t, be7_n, s4_k, s4_fI, s4_fL, s4_pI, s4_pL, s4_z0, s4_z1, s4_fR1, s41_a, s41_t, s41_n, s4_fR2, s42_a, s42_t, s42_n, s4_fR3, s43_a, s43_t, s43_n, s4_fR5, s45_a, s45_t, s45_n, s4_fR7, s47_a, s47_t, s47_n, s4_fR8, s48_a, s48_t, s48_n, s4_fR10, s410_a, s410_t, s410_n, s4_fR11, s411_a, s411_t, s411_n, s4_fR12, s412_a, s412_t, s412_n, s4_fR13, s413_a, s413_t, s413_n, fX0_bestPlaceToAsk_L57, s4_wd hsJ, h2, hc, f1, as1, as2, asT]
          · simp (disch := first | assumption | omega | rfl) only [i_rem, i_pred, i_addn1, i_lit, i_n1, i_add, i_mul, i_sub, i_le, i_lt, i_eq, i_ne1, n1_ne, n1_lt, n1_le, i_lt1, i_le1, bd_s, nar_bi, nar_0, nar_1, if_pos, if_neg, ↓reduceIte, reduceCtorEq, eq_self, if_true, if_false, not_true_eq_false, not_false_eq_true, be_k, be_fI, be_fL, be_pI, be_pL, be_z0, be_z1, be_fR0, be_fR1, be1_a, be1_t, be1_n, be_fR2, be2_a, be2_t, be2_n, be_fR3, be3_a, be3_t, be3_n, be_fR4, be4_a, be4_t, be4_n, be_fR5, be5_a, be5_t, be5_n, be_fR6, be6_a, be6_t, be6_n, be_fR7, be7_a, be7_t, be7_n, s4_k, s4_fI, s4_fL, s4_pI, s4_pL, s4_z0, s4_z1, s4_fR1, s41_a, s41_t, s41_n, s4_fR2, s42_a, s42_t, s42_n, s4_fR3, s43_a, s43_t, s43_n, s4_fR5, s45_a, s45_t, s45_n, s4_fR7, s47_a, s47_t, s47_n, s4_fR8, s48_a, s48_t, s48_n, s4_fR10, s410_a, s410_t, s410_n, s4_fR11, s411_a, s411_t, s411_n, s4_fR12, s412_a, s412_t, s412_n, s4_fR13, s413_a, s413_t, s413_n, fX0_bestPlaceToAsk_L57, s4_wd hsJ, h2, hc, f1, as1, as2, asT]
      · refine ⟨(asS H B b (k + 1), J), ?_, rfl, h2, h3⟩
        have e4 : asS H B b (k + 1) = asT H B b k (asS H B b k) := rfl
        have e5 : asT H B b k (asS H B b k) = asS H B b k := by unfold asT; rw [if_neg hc]
        dsimp only
        rw [e4, e5]
        simp (disch := first | assumption | omega | rfl) only [i_rem, i_pred, i_addn1, i_lit, i_n1, i_add, i_mul, i_sub, i_le, i_lt, i_eq, i_ne1, n1_ne, n1_lt, n1_le, i_lt1, i_le1, bd_s, nar_bi, nar_0, nar_1, if_pos, if_neg, ↓reduceIte, reduceCtorEq, eq_self, if_true, if_false, not_true_eq_false, not_false_eq_true, be_k, be_fI, be_fL, be_pI, be_pL, be_z0, be_z1, be_fR0, be_fR1, be1_a, be1_t, be1_n, be_fR2, be2_a, be2_t, be2_n, be_fR3, be3_a, be3_t, be3_n, be_fR4, be4_a, be4_t, be4_n, be_fR5, be5_a, be5_t, be5_n, be_fR6, be6_a, be6_t, be6_n, be_fR7, be7_a, be7_t, be7_n, s4_k, s4_fI, s4_fL, s4_pI, s4_pL, s4_z0, s4_z1, s4_fR1, s41_a, s41_t, s41_n, s4_fR2, s42_a, s42_t, s42_n, s4_fR3, s43_a, s43_t, s43_n, s4_fR5, s45_a, s45_t, s45_n, s4_fR7, s47_a, s47_t, s47_n, s4_fR8, s48_a, s48_t, s48_n, s4_fR10, s410_a, s410_t, s410_n, s4_fR11, s411_a, s411_t, s411_n, s4_fR12, s412_a, s412_t, s412_n, s4_fR13, s413_a, s413_t, s413_n, fX0_bestPlaceToAsk_L57, s4_wd hsJ, h2, hc]) (fun n' s hJ => by
      obtain ⟨c, J⟩ := s
      obtain ⟨h1, h2, h3⟩ := hJ
      dsimp only at h1 h2 h3 ⊢
      have hsJ : RS 4 H J := RS_of (fun q z1 z2 => h3 q (by omega)) hs
      simp (disch := first | assumption | omega | rfl) only [i_rem, i_pred, i_addn1, i_lit, i_n1, i_add, i_mul, i_sub, i_le, i_lt, i_eq, i_ne1, n1_ne, n1_lt, n1_le, i_lt1, i_le1, bd_s, nar_bi, nar_0, nar_1, if_pos, if_neg, ↓reduceIte, reduceCtorEq, eq_self, if_true, if_false, not_true_eq_false, not_false_eq_true, be_k, be_fI, be_fL, be_pI, be_pL, be_z0, be_z1, be_fR0, be_fR1, be1_a, be1_t, be1_n, be_fR2, be2_a, be2_t, be2_n, be_fR3, be3_a, be3_t, be3_n, be_fR4, be4_a, be4_t, be4_n, be_fR5, be5_a, be5_t, be5_n, be_fR6, be6_a, be6_t, be6_n, be_fR7, be7_a, be7_t, be7_n, s4_k, s4_fI, s4_fL, s4_pI, s4_pL, s4_z0, s4_z1, s4_fR1, s41_a, s41_t, s41_n, s4_fR2, s42_a, s42_t, s42_n, s4_fR3, s43_a, s43_t, s43_n, s4_fR5, s45_a, s45_t, s45_n, s4_fR7, s47_a, s47_t, s47_n, s4_fR8, s48_a, s48_t, s48_n, s4_fR10, s410_a, s410_t, s410_n, s4_fR11, s411_a, s411_t, s411_n, s4_fR12, s412_a, s412_t, s412_n, s4_fR13, s413_a, s413_t, s413_n, fX0_bestPlaceToAsk_L57, s4_wd hsJ]) (n := N) (by omega) (s := (none, cpy I (a + 1) (12 * b) (a + 7) 0 12)) ⟨rfl, hr, fun q hq => cpy_row hq⟩
    dsimp only at e
    rw [g1] at e
    have e' : fX0_bestPlaceToAsk_L57 N a (i32 b) N n1 (i32 7) (i32 0) (mk (cpy I (a + 1) (12 * b) (a + 7) 0 12) L r) = some (as1 (asS H B b (H (11 + b))), mk s.2 L r) := e
    refine ⟨s.2, ?_, g3⟩
    rw [if_neg hf]
    unfold fX0_bestPlaceToAsk
    simp (disch := first | assumption | omega | rfl) only [i_rem, i_pred, i_addn1, i_lit, i_n1, i_add, i_mul, i_sub, i_le, i_lt, i_eq, i_ne1, n1_ne, n1_lt, n1_le, i_lt1, i_le1, bd_s, nar_bi, nar_0, nar_1, if_pos, if_neg, ↓reduceIte, reduceCtorEq, eq_self, if_true, if_false, not_true_eq_false, not_false_eq_true, be_k, be_fI, be_fL, be_pI, be_pL, be_z0, be_z1, be_fR0, be_fR1, be1_a, be1_t, be1_n, be_fR2, be2_a, be2_t, be2_n, be_fR3, be3_a, be3_t, be3_n, be_fR4, be4_a, be4_t, be4_n, be_fR5, be5_a, be5_t, be5_n, be_fR6, be6_a, be6_t, be6_n, be_fR7, be7_a, be7_t, be7_n, s4_k, s4_fI, s4_fL, s4_pI, s4_pL, s4_z0, s4_z1, s4_fR1, s41_a, s41_t, s41_n, s4_fR2, s42_a, s42_t, s42_n, s4_fR3, s43_a, s43_t, s43_n, s4_fR5, s45_a, s45_t, s45_n, s4_fR7, s47_a, s47_t, s47_n, s4_fR8, s48_a, s48_t, s48_n, s4_fR10, s410_a, s410_t, s410_n, s4_fR11, s411_a, s411_t, s411_n, s4_fR12, s412_a, s412_t, s412_n, s4_fR13, s413_a, s413_t, s413_n, c_placeIndex, Nat.add_zero, s4_wd hs, e1, hf, e3, e']
theorem m_leftBy (hN : 1200 < N) (hO : hOk H) (hm : MR H B I) {b p : Nat} (hbb : b < H 0) (hp : p < H (11 + b)) (h0 : B (20 + (12 * b + p)) = n1) : ∃ J, fX11_leftBy N 186 (i32 b) (i32 p) (mk I L r) = some (i32 (lbm H B b p 10), mk J L r) ∧ MR H B J ∧ Fq 188 I J := by
  have o0 := hO.1; have o1 := hO.2.1; have o2 := hO.2.2.1; have o3 := hO.2.2.2.1; have o4 := hO.2.2.2.2.1; have o5 := hO.2.2.2.2.2.1; have wd_b := hO.2.2.2.2.2.2.1 b (by assumption)
  obtain ⟨s, e, g1, ⟨C, g2, g4⟩, g3⟩ := lp_st (F := fun n' v (s : Nat × (Nat → Nat → Int32)) => fX11_leftBy_L16 N 186 (i32 b) (i32 (55 + 12 * b + p)) n' (i32 s.1) v (mk s.2 L r)) (m := 10) (fun k s => s.1 = lbm H B b p k ∧ (∃ C, MR H C s.2 ∧ ∀ j, j < 164 → j ≠ 20 + (12 * b + p) → C j = B j) ∧ Fq 188 I s.2) (fun s => (i32 s.1, mk s.2 L r)) (fun n' k s hk hJ => by
    obtain ⟨c, J⟩ := s
    obtain ⟨h1, ⟨C, h2, h4⟩, h3⟩ := hJ
    dsimp only at h1 h2 h3 ⊢
    subst h1
    have hm2 : MR H (b1 C (20 + (12 * b + p)) (i32 k)) (up J 188 (55 + 12 * b + p) (i32 k)) := MR_up hO h2 (by omega)
    have e1 := m_fitsOf (N := N) (L := L) (r := r) hN hO hm2 hbb
    have e2 : fitS H (fun q => b1 C (20 + (12 * b + p)) (i32 k) (20 + q)) (12 * b) (H (11 + b)) = bset (fun l => chh H (gsr B b p k) l 0 (H (11 + b))) (H 2) := fit_congr (fun j hj => by
      rw [Nat.zero_add, gsr, b1]
      by_cases hjp : j = p
      · rw [if_pos (by omega), if_pos hjp]
      · rw [if_neg (by omega), if_neg hjp]; exact h4 _ (by omega) (by omega))
    have e3 : fX11_bits N (bset (fun l => chh H (gsr B b p k) l 0 (H (11 + b))) (H 2)) (mk (up J 188 (55 + 12 * b + p) (i32 k)) L r) = some (i32 (lbc H B b p k), mk (up J 188 (55 + 12 * b + p) (i32 k)) L r) := m_bits hN o2
    rw [e2] at e1
    have c6 := lbc_6 (B := B) hO (b := b) (p := p) (s := k)
    have m6 := lbm_6 (B := B) hO (b := b) (p := p) k
    refine ⟨(lbm H B b p (k + 1), up J 188 (55 + 12 * b + p) (i32 k)), ?_, rfl, ⟨_, hm2, fun j hj hjp => ?_⟩, h3.tr (Fq_xp (by omega))⟩
    · simp (disch := first | assumption | omega | rfl) only [i_rem, i_pred, i_addn1, i_lit, i_n1, i_add, i_mul, i_sub, i_le, i_lt, i_eq, i_ne1, n1_ne, n1_lt, n1_le, i_lt1, i_le1, bd_s, nar_bi, nar_0, nar_1, if_pos, if_neg, ↓reduceIte, reduceCtorEq, eq_self, if_true, if_false, not_true_eq_false, not_false_eq_true, mo_k, mo_fI, mo_fL, mo_pI, mo_pL, mo_z0, mo_z1, mo_fR1, mo1_a, mo1_t, mo1_n, mo_fR14, mo14_a, mo14_t, mo14_n, mo_fR15, mo15_a, mo15_t, mo15_n, mo_fR16, mo16_a, mo16_t, mo16_n, mo_fR17, mo17_a, mo17_t, mo17_n, mo_fR18, mo18_a, mo18_t, mo18_n, mo_fR19, mo19_a, mo19_t, mo19_n, mo_fR20, mo20_a, mo20_t, mo20_n, mo_fR21, mo21_a, mo21_t, mo21_n, mo_fR22, mo22_a, mo22_t, mo22_n, mo_fR25, mo25_a, mo25_t, mo25_n, mo_fR26, mo26_a, mo26_t, mo26_n, mo_fR28, mo28_a, mo28_t, mo28_n, mo_fR29, mo29_a, mo29_t, mo29_n, mo_fR30, mo30_a, mo30_t, mo30_n, mo_fR33, mo33_a, mo33_t, mo33_n, mo_fR36, mo36_a, mo36_t, mo36_n, mo_fR37, mo37_a, mo37_t, mo37_n, mo_fR40, mo40_a, mo40_t, mo40_n, fX11_leftBy_L16, e1, e3]
      rw [lbm_s]
      by_cases hlt : lbm H B b p k < lbc H B b p k
      · rw [if_neg (by omega), if_pos hlt]
      · rw [if_pos (by omega), if_neg hlt]
    · rw [b1, if_neg hjp]; exact h4 j hj hjp) (fun n' s _ => by
    simp (disch := first | assumption | omega | rfl) only [i_rem, i_pred, i_addn1, i_lit, i_n1, i_add, i_mul, i_sub, i_le, i_lt, i_eq, i_ne1, n1_ne, n1_lt, n1_le, i_lt1, i_le1, bd_s, nar_bi, nar_0, nar_1, if_pos, if_neg, ↓reduceIte, reduceCtorEq, eq_self, if_true, if_false, not_true_eq_false, not_false_eq_true, fX11_leftBy_L16]) (n := N) (by omega) (s := (0, I)) ⟨rfl, ⟨B, hm, fun _ _ _ => rfl⟩, Fq.rf⟩
  dsimp only at e
  rw [g1] at e
  refine ⟨up s.2 188 (55 + 12 * b + p) n1, ?_, ?_, g3.tr (Fq_xp (by omega))⟩
  · unfold fX11_leftBy
    simp (disch := first | assumption | omega | rfl) only [i_rem, i_pred, i_addn1, i_lit, i_n1, i_add, i_mul, i_sub, i_le, i_lt, i_eq, i_ne1, n1_ne, n1_lt, n1_le, i_lt1, i_le1, bd_s, nar_bi, nar_0, nar_1, if_pos, if_neg, ↓reduceIte, reduceCtorEq, eq_self, if_true, if_false, not_true_eq_false, not_false_eq_true, mo_k, mo_fI, mo_fL, mo_pI, mo_pL, mo_z0, mo_z1, mo_fR1, mo1_a, mo1_t, mo1_n, mo_fR14, mo14_a, mo14_t, mo14_n, mo_fR15, mo15_a, mo15_t, mo15_n, mo_fR16, mo16_a, mo16_t, mo16_n, mo_fR17, mo17_a, mo17_t, mo17_n, mo_fR18, mo18_a, mo18_t, mo18_n, mo_fR19, mo19_a, mo19_t, mo19_n, mo_fR20, mo20_a, mo20_t, mo20_n, mo_fR21, mo21_a, mo21_t, mo21_n, mo_fR22, mo22_a, mo22_t, mo22_n, mo_fR25, mo25_a, mo25_t, mo25_n, mo_fR26, mo26_a, mo26_t, mo26_n, mo_fR28, mo28_a, mo28_t, mo28_n, mo_fR29, mo29_a, mo29_t, mo29_n, mo_fR30, mo30_a, mo30_t, mo30_n, mo_fR33, mo33_a, mo33_t, mo33_n, mo_fR36, mo36_a, mo36_t, mo36_n, mo_fR37, mo37_a, mo37_t, mo37_n, mo_fR40, mo40_a, mo40_t, mo40_n, e]
  · refine MR_c (MR_up (k := 20 + (12 * b + p)) (v := n1) hO g2 (by omega)) (fun k hk => ?_)
    rw [b1]
    by_cases hk2 : k = 20 + (12 * b + p)
    · rw [if_pos hk2, hk2, h0]
    · rw [if_neg hk2, g4 k hk hk2]
theorem m_askL (hN : 1200 < N) (hO : hOk H) (hm : MR H B I) {b : Nat} (hbb : b < H 0) : ∃ J, fX11_ask_L31 N 186 (i32 b) N n1 (i32 100000) (i32 0) (mk I L r) = some (as1 (asS H B b (H (11 + b))), mk J L r) ∧ MR H B J ∧ Fq 188 I J := by
  have o0 := hO.1; have o1 := hO.2.1; have o2 := hO.2.2.1; have o3 := hO.2.2.2.1; have o4 := hO.2.2.2.2.1; have o5 := hO.2.2.2.2.2.1; have wd_b := hO.2.2.2.2.2.2.1 b (by assumption)
  obtain ⟨s, e, g1, g2, g3⟩ := lp_st (F := fun n' v (s : Option (Nat × Nat) × (Nat → Nat → Int32)) => fX11_ask_L31 N 186 (i32 b) n' (as1 s.1) (as2 100000 s.1) v (mk s.2 L r)) (m := H (11 + b)) (fun k s => s.1 = asS H B b k ∧ MR H B s.2 ∧ Fq 188 I s.2) (fun s => (as1 s.1, mk s.2 L r)) (fun n' k s hk hJ => by
    obtain ⟨c, J⟩ := s
    obtain ⟨h1, h2, h3⟩ := hJ
    dsimp only at h1 h2 h3 ⊢
    subst h1
    by_cases hc : B (20 + (12 * b + k)) = n1
    · obtain ⟨J2, f1, f2, f3⟩ := m_leftBy (N := N) (L := L) (r := r) hN hO h2 hbb hk hc
      have l6 := lbm_6 (B := B) hO (b := b) (p := k) 10
      have a6 := asS_6 (B := B) hO (b := b) k
      refine ⟨(asS H B b (k + 1), J2), ?_, rfl, f2, h3.tr f3⟩
      have e4 : asS H B b (k + 1) = asT H B b k (asS H B b k) := rfl
      dsimp only
      rw [e4]
      cases hS : asS H B b k with
      | none =>
        simp (disch := first | assumption | omega | rfl) only [i_rem, i_pred, i_addn1, i_lit, i_n1, i_add, i_mul, i_sub, i_le, i_lt, i_eq, i_ne1, n1_ne, n1_lt, n1_le, i_lt1, i_le1, bd_s, nar_bi, nar_0, nar_1, if_pos, if_neg, ↓reduceIte, reduceCtorEq, eq_self, if_true, if_false, not_true_eq_false, not_false_eq_true, mo_k, mo_fI, mo_fL, mo_pI, mo_pL, mo_z0, mo_z1, mo_fR1, mo1_a, mo1_t, mo1_n, mo_fR14, mo14_a, mo14_t, mo14_n, mo_fR15, mo15_a, mo15_t, mo15_n, mo_fR16, mo16_a, mo16_t, mo16_n, mo_fR17, mo17_a, mo17_t, mo17_n, mo_fR18, mo18_a, mo18_t, mo18_n, mo_fR19, mo19_a, mo19_t, mo19_n, mo_fR20, mo20_a, mo20_t, mo20_n, mo_fR21, mo21_a, mo21_t, mo21_n, mo_fR22, mo22_a, mo22_t, mo22_n, mo_fR25, mo25_a, mo25_t, mo25_n, mo_fR26, mo26_a, mo26_t, mo26_n, mo_fR28, mo28_a, mo28_t, mo28_n, mo_fR29, mo29_a, mo29_t, mo29_n, mo_fR30, mo30_a, mo30_t, mo30_n, mo_fR33, mo33_a, mo33_t, mo33_n, mo_fR36, mo36_a, mo36_t, mo36_n, mo_fR37, mo37_a, mo37_t, mo37_n, mo_fR40, mo40_a, mo40_t, mo40_n, fX11_ask_L31, m_wd h2, m_signAt h2, hc, f1, as1, as2, asT]
      | some x =>
        have x6 := a6 x hS
        by_cases hl : lbm H B b k 10 < x.2
        · simp (disch := first | assumption | omega | rfl) only [i_rem, i_pred, i_addn1, i_lit, i_n1, i_add, i_mul, i_sub, i_le, i_lt, i_eq, i_ne1, n1_ne, n1_lt, n1_le, i_lt1, i_le1, bd_s, nar_bi, nar_0, nar_1, if_pos, if_neg, ↓reduceIte, reduceCtorEq, eq_self, if_true, if_false, not_true_eq_false, not_false_eq_true, mo_k, mo_fI, mo_fL, mo_pI, mo_pL, mo_z0, mo_z1, mo_fR1, mo1_a, mo1_t, mo1_n, mo_fR14, mo14_a, mo14_t, mo14_n, mo_fR15, mo15_a, mo15_t, mo15_n, mo_fR16, mo16_a, mo16_t, mo16_n, mo_fR17, mo17_a, mo17_t, mo17_n, mo_fR18, mo18_a, mo18_t, mo18_n, mo_fR19, mo19_a, mo19_t, mo19_n, mo_fR20, mo20_a, mo20_t, mo20_n, mo_fR21, mo21_a, mo21_t, mo21_n, mo_fR22, mo22_a, mo22_t, mo22_n, mo_fR25, mo25_a, mo25_t, mo25_n, mo_fR26, mo26_a, mo26_t, mo26_n, mo_fR28, mo28_a, mo28_t, mo28_n, mo_fR29, mo29_a, mo29_t, mo29_n, mo_fR30, mo30_a, mo30_t, mo30_n, mo_fR33, mo33_a, mo33_t, mo33_n, mo_fR36, mo36_a, mo36_t, mo36_n, mo_fR37, mo37_a, mo37_t, mo37_n, mo_fR40, mo40_a, mo40_t, mo40_n, fX11_ask_L31, m_wd h2, m_signAt h2, hc, f1, as1, as2, asT]
        · simp (disch := first | assumption | omega | rfl) only [i_rem, i_pred, i_addn1, i_lit, i_n1, i_add, i_mul, i_sub, i_le, i_lt, i_eq, i_ne1, n1_ne, n1_lt, n1_le, i_lt1, i_le1, bd_s, nar_bi, nar_0, nar_1, if_pos, if_neg, ↓reduceIte, reduceCtorEq, eq_self, if_true, if_false, not_true_eq_false, not_false_eq_true, mo_k, mo_fI, mo_fL, mo_pI, mo_pL, mo_z0, mo_z1, mo_fR1, mo1_a, mo1_t, mo1_n, mo_fR14, mo14_a, mo14_t, mo14_n, mo_fR15, mo15_a, mo15_t, mo15_n, mo_fR16, mo16_a, mo16_t, mo16_n, mo_fR17, mo17_a, mo17_t, mo17_n, mo_fR18, mo18_a, mo18_t, mo18_n, mo_fR19, mo19_a, mo19_t, mo19_n, mo_fR20, mo20_a, mo20_t, mo20_n, mo_fR21, mo21_a, mo21_t, mo21_n, mo_fR22, mo22_a, mo22_t, mo22_n, mo_fR25, mo25_a, mo25_t, mo25_n, mo_fR26, mo26_a, mo26_t, mo26_n, mo_fR28, mo28_a, mo28_t, mo28_n, mo_fR29, mo29_a, mo29_t, mo29_n, mo_fR30, mo30_a, mo30_t, mo30_n, mo_fR33, mo33_a, mo33_t, mo33_n, mo_fR36, mo36_a, mo36_t, mo36_n, mo_fR37, mo37_a, mo37_t, mo37_n, mo_fR40, mo40_a, mo40_t, mo40_n, fX11_ask_L31, m_wd h2, m_signAt h2, hc, f1, as1, as2, asT]
    · refine ⟨(asS H B b (k + 1), J), ?_, rfl, h2, h3⟩
      have e4 : asS H B b (k + 1) = asT H B b k (asS H B b k) := rfl
      have e5 : asT H B b k (asS H B b k) = asS H B b k := by unfold asT; rw [if_neg hc]
      dsimp only
      rw [e4, e5]
      simp (disch := first | assumption | omega | rfl) only [i_rem, i_pred, i_addn1, i_lit, i_n1, i_add, i_mul, i_sub, i_le, i_lt, i_eq, i_ne1, n1_ne, n1_lt, n1_le, i_lt1, i_le1, bd_s, nar_bi, nar_0, nar_1, if_pos, if_neg, ↓reduceIte, reduceCtorEq, eq_self, if_true, if_false, not_true_eq_false, not_false_eq_true, mo_k, mo_fI, mo_fL, mo_pI, mo_pL, mo_z0, mo_z1, mo_fR1, mo1_a, mo1_t, mo1_n, mo_fR14, mo14_a, mo14_t, mo14_n, mo_fR15, mo15_a, mo15_t, mo15_n, mo_fR16, mo16_a, mo16_t, mo16_n, mo_fR17, mo17_a, mo17_t, mo17_n, mo_fR18, mo18_a, mo18_t, mo18_n, mo_fR19, mo19_a, mo19_t, mo19_n, mo_fR20, mo20_a, mo20_t, mo20_n, mo_fR21, mo21_a, mo21_t, mo21_n, mo_fR22, mo22_a, mo22_t, mo22_n, mo_fR25, mo25_a, mo25_t, mo25_n, mo_fR26, mo26_a, mo26_t, mo26_n, mo_fR28, mo28_a, mo28_t, mo28_n, mo_fR29, mo29_a, mo29_t, mo29_n, mo_fR30, mo30_a, mo30_t, mo30_n, mo_fR33, mo33_a, mo33_t, mo33_n, mo_fR36, mo36_a, mo36_t, mo36_n, mo_fR37, mo37_a, mo37_t, mo37_n, mo_fR40, mo40_a, mo40_t, mo40_n, fX11_ask_L31, m_wd h2, m_signAt h2, hc]) (fun n' s hJ => by
    obtain ⟨c, J⟩ := s
    obtain ⟨h1, h2, h3⟩ := hJ
    dsimp only at h1 h2 h3 ⊢
    simp (disch := first | assumption | omega | rfl) only [i_rem, i_pred, i_addn1, i_lit, i_n1, i_add, i_mul, i_sub, i_le, i_lt, i_eq, i_ne1, n1_ne, n1_lt, n1_le, i_lt1, i_le1, bd_s, nar_bi, nar_0, nar_1, if_pos, if_neg, ↓reduceIte, reduceCtorEq, eq_self, if_true, if_false, not_true_eq_false, not_false_eq_true, mo_k, mo_fI, mo_fL, mo_pI, mo_pL, mo_z0, mo_z1, mo_fR1, mo1_a, mo1_t, mo1_n, mo_fR14, mo14_a, mo14_t, mo14_n, mo_fR15, mo15_a, mo15_t, mo15_n, mo_fR16, mo16_a, mo16_t, mo16_n, mo_fR17, mo17_a, mo17_t, mo17_n, mo_fR18, mo18_a, mo18_t, mo18_n, mo_fR19, mo19_a, mo19_t, mo19_n, mo_fR20, mo20_a, mo20_t, mo20_n, mo_fR21, mo21_a, mo21_t, mo21_n, mo_fR22, mo22_a, mo22_t, mo22_n, mo_fR25, mo25_a, mo25_t, mo25_n, mo_fR26, mo26_a, mo26_t, mo26_n, mo_fR28, mo28_a, mo28_t, mo28_n, mo_fR29, mo29_a, mo29_t, mo29_n, mo_fR30, mo30_a, mo30_t, mo30_n, mo_fR33, mo33_a, mo33_t, mo33_n, mo_fR36, mo36_a, mo36_t, mo36_n, mo_fR37, mo37_a, mo37_t, mo37_n, mo_fR40, mo40_a, mo40_t, mo40_n, fX11_ask_L31, m_wd h2]) (n := N) (by omega) (s := (none, I)) ⟨rfl, hm, Fq.rf⟩
  dsimp only at e
  rw [g1] at e
  exact ⟨s.2, e, g2, g3⟩
end
section
variable {I : Nat → Nat → Int32} {L : Nat → Nat → Int64} {r : Bool} {N : Nat}
theorem q_ask (hN : 1200 < N) (h : Ok I L) {u : Int32} : Step2 (fX10_ask N 0 u) (fX11_ask N 186 u) I L r := by
  obtain ⟨⟨H, W, B, D⟩, G, s, P, n, T, f, E, hC, hM, hI⟩ := h
  have hO : hOk H := hI.1.1
  have hB : bOk H B := hI.1.2.2
  have hs : RS 4 H I := hC.1.1
  have hb : BR 26 B I := hC.1.2.2.1
  have hm : MR H B (up I 186 0 (i32 0)) := WM_R (WM_t hM)
  have ha : isBe 26 = true := rfl
  have o0 := hO.1; have o1 := hO.2.1; have o2 := hO.2.2.1; have o3 := hO.2.2.2.1; have o4 := hO.2.2.2.2.1; have o5 := hO.2.2.2.2.2.1
  rcases i_in u (n := H 0) (by omega) with ⟨b, hbb, rfl⟩ | hu
  · have wd_b := hO.2.2.2.2.2.2.1 b (by assumption)
    obtain ⟨J, e1, g1⟩ := c_best (N := N) (L := L) (r := r) hN hO hs ha hb hbb
    have fr : ∀ q, q < 33 ∨ 34 ≤ q → J q = I q := fun q hq => g1 q (by omega)
    have hC2 := WC_act hC (BR_of (J := J) (fun q h1 h2 => fr q (by omega)) hb) (PR_of (J := J) (fun q h1 h2 => fr q (by omega)) hC.2.1) (fun q hq hq2 => fr q (by omega))
    have hM2 := WM_c (J := J) (K := L) (fun q hq => fr q (by omega)) (fun _ _ _ => rfl) hM
    have hM3 := WM_t (v := i32 0) hM2
    have hm2 := WM_R hM3
    have e3 := m_fitsOf (N := N) (L := L) (r := r) hN hO hm2 hbb
    by_cases hf : fitS H (fun q => B (20 + q)) (12 * b) (H (11 + b)) = i32 0
    · rw [if_pos hf] at e1
      refine ⟨n1, J, L, r, up J 186 0 (i32 0), L, ?_, ?_, (H, W, B, D), G, s, P, n, T, f, E, WC_t hC2, hM3, hI⟩
      · unfold fX10_ask
        simp (disch := first | assumption | omega | rfl) only [i_rem, i_pred, i_addn1, i_lit, i_n1, i_add, i_mul, i_sub, i_le, i_lt, i_eq, i_ne1, n1_ne, n1_lt, n1_le, i_lt1, i_le1, bd_s, nar_bi, nar_0, nar_1, if_pos, if_neg, ↓reduceIte, reduceCtorEq, eq_self, if_true, if_false, not_true_eq_false, not_false_eq_true, x0_k, x0_fI, x0_fL, x0_pI, x0_pL, x0_z0, x0_z1, x0_fR0, x0_fR1, x0_fR2, x0_fR3, x0_fR4, x0_fR5, x0_fR6, x0_fR7, x0_fR8, x0_fR9, x0_fR10, x0_fR11, x0_fR12, x0_fR13, x013_a, x013_t, x013_n, x0_fR15, x0_fR16, x0_fR17, x0_fR18, x018_a, x018_t, x018_n, s4_k, s4_fI, s4_fL, s4_pI, s4_pL, s4_z0, s4_z1, s4_fR1, s41_a, s41_t, s41_n, s4_fR2, s42_a, s42_t, s42_n, s4_fR3, s43_a, s43_t, s43_n, s4_fR5, s45_a, s45_t, s45_n, s4_fR7, s47_a, s47_t, s47_n, s4_fR8, s48_a, s48_t, s48_n, s4_fR10, s410_a, s410_t, s410_n, s4_fR11, s411_a, s411_t, s411_n, s4_fR12, s412_a, s412_t, s412_n, s4_fR13, s413_a, s413_t, s413_n, be_k, be_fI, be_fL, be_pI, be_pL, be_z0, be_z1, be_fR0, be_fR1, be1_a, be1_t, be1_n, be_fR2, be2_a, be2_t, be2_n, be_fR3, be3_a, be3_t, be3_n, be_fR4, be4_a, be4_t, be4_n, be_fR5, be5_a, be5_t, be5_n, be_fR6, be6_a, be6_t, be6_n, be_fR7, be7_a, be7_t, be7_n, c_hasBand hO hs, hbb, decide_true, bi_z, e1]
      · unfold fX11_ask
        simp (disch := first | assumption | omega | rfl) only [i_rem, i_pred, i_addn1, i_lit, i_n1, i_add, i_mul, i_sub, i_le, i_lt, i_eq, i_ne1, n1_ne, n1_lt, n1_le, i_lt1, i_le1, bd_s, nar_bi, nar_0, nar_1, if_pos, if_neg, ↓reduceIte, reduceCtorEq, eq_self, if_true, if_false, not_true_eq_false, not_false_eq_true, mo_k, mo_fI, mo_fL, mo_pI, mo_pL, mo_z0, mo_z1, mo_fR1, mo1_a, mo1_t, mo1_n, mo_fR14, mo14_a, mo14_t, mo14_n, mo_fR15, mo15_a, mo15_t, mo15_n, mo_fR16, mo16_a, mo16_t, mo16_n, mo_fR17, mo17_a, mo17_t, mo17_n, mo_fR18, mo18_a, mo18_t, mo18_n, mo_fR19, mo19_a, mo19_t, mo19_n, mo_fR20, mo20_a, mo20_t, mo20_n, mo_fR21, mo21_a, mo21_t, mo21_n, mo_fR22, mo22_a, mo22_t, mo22_n, mo_fR25, mo25_a, mo25_t, mo25_n, mo_fR26, mo26_a, mo26_t, mo26_n, mo_fR28, mo28_a, mo28_t, mo28_n, mo_fR29, mo29_a, mo29_t, mo29_n, mo_fR30, mo30_a, mo30_t, mo30_n, mo_fR33, mo33_a, mo33_t, mo33_n, mo_fR36, mo36_a, mo36_t, mo36_n, mo_fR37, mo37_a, mo37_t, mo37_n, mo_fR40, mo40_a, mo40_t, mo40_n, m_isBand hO hm2, hbb, decide_true, bi_z, e3, hf]
    · rw [if_neg hf] at e1
      obtain ⟨J4, e4, g8, g9, g10⟩ := m_askL (N := N) (L := L) (r := r) hN hO hm2 hbb
      refine ⟨as1 (asS H B b (H (11 + b))), J, L, r, J4, L, ?_, ?_, (H, W, B, D), G, s, P, n, T, f, E, ?_, ?_, hI⟩
      · unfold fX10_ask
        simp (disch := first | assumption | omega | rfl) only [i_rem, i_pred, i_addn1, i_lit, i_n1, i_add, i_mul, i_sub, i_le, i_lt, i_eq, i_ne1, n1_ne, n1_lt, n1_le, i_lt1, i_le1, bd_s, nar_bi, nar_0, nar_1, if_pos, if_neg, ↓reduceIte, reduceCtorEq, eq_self, if_true, if_false, not_true_eq_false, not_false_eq_true, x0_k, x0_fI, x0_fL, x0_pI, x0_pL, x0_z0, x0_z1, x0_fR0, x0_fR1, x0_fR2, x0_fR3, x0_fR4, x0_fR5, x0_fR6, x0_fR7, x0_fR8, x0_fR9, x0_fR10, x0_fR11, x0_fR12, x0_fR13, x013_a, x013_t, x013_n, x0_fR15, x0_fR16, x0_fR17, x0_fR18, x018_a, x018_t, x018_n, s4_k, s4_fI, s4_fL, s4_pI, s4_pL, s4_z0, s4_z1, s4_fR1, s41_a, s41_t, s41_n, s4_fR2, s42_a, s42_t, s42_n, s4_fR3, s43_a, s43_t, s43_n, s4_fR5, s45_a, s45_t, s45_n, s4_fR7, s47_a, s47_t, s47_n, s4_fR8, s48_a, s48_t, s48_n, s4_fR10, s410_a, s410_t, s410_n, s4_fR11, s411_a, s411_t, s411_n, s4_fR12, s412_a, s412_t, s412_n, s4_fR13, s413_a, s413_t, s413_n, be_k, be_fI, be_fL, be_pI, be_pL, be_z0, be_z1, be_fR0, be_fR1, be1_a, be1_t, be1_n, be_fR2, be2_a, be2_t, be2_n, be_fR3, be3_a, be3_t, be3_n, be_fR4, be4_a, be4_t, be4_n, be_fR5, be5_a, be5_t, be5_n, be_fR6, be6_a, be6_t, be6_n, be_fR7, be7_a, be7_t, be7_n, c_hasBand hO hs, hbb, decide_true, bi_z, e1]
      · unfold fX11_ask
        simp (disch := first | assumption | omega | rfl) only [i_rem, i_pred, i_addn1, i_lit, i_n1, i_add, i_mul, i_sub, i_le, i_lt, i_eq, i_ne1, n1_ne, n1_lt, n1_le, i_lt1, i_le1, bd_s, nar_bi, nar_0, nar_1, if_pos, if_neg, ↓reduceIte, reduceCtorEq, eq_self, if_true, if_false, not_true_eq_false, not_false_eq_true, mo_k, mo_fI, mo_fL, mo_pI, mo_pL, mo_z0, mo_z1, mo_fR1, mo1_a, mo1_t, mo1_n, mo_fR14, mo14_a, mo14_t, mo14_n, mo_fR15, mo15_a, mo15_t, mo15_n, mo_fR16, mo16_a, mo16_t, mo16_n, mo_fR17, mo17_a, mo17_t, mo17_n, mo_fR18, mo18_a, mo18_t, mo18_n, mo_fR19, mo19_a, mo19_t, mo19_n, mo_fR20, mo20_a, mo20_t, mo20_n, mo_fR21, mo21_a, mo21_t, mo21_n, mo_fR22, mo22_a, mo22_t, mo22_n, mo_fR25, mo25_a, mo25_t, mo25_n, mo_fR26, mo26_a, mo26_t, mo26_n, mo_fR28, mo28_a, mo28_t, mo28_n, mo_fR29, mo29_a, mo29_t, mo29_n, mo_fR30, mo30_a, mo30_t, mo30_n, mo_fR33, mo33_a, mo33_t, mo33_n, mo_fR36, mo36_a, mo36_t, mo36_n, mo_fR37, mo37_a, mo37_t, mo37_n, mo_fR40, mo40_a, mo40_t, mo40_n, m_isBand hO hm2, hbb, decide_true, bi_z, e3, hf, e4]
      · refine WC_of (fun q hq => ?_) (fun _ _ => rfl) hC2
        rw [g9 q (by omega), up_row (by omega)]
      · refine WM_act hM2 g8 ?_ (fun q h1 h2 h3 h4 => ?_) (fun k' h1 h2 h3 => ?_) (fun k' h1 => ?_)
        · have := hM3.2.1
          unfold MP at *; rw [g9 186 (by omega), g9 191 (by omega)]; exact this
        · rw [g9 q (by omega), up_row (by omega)]
        · rw [g9 186 (by omega), up_ofk (by omega)]
        · rw [g10 k' (by omega), up_row (by omega)]
  · refine Step_q (x := n1) (v := i32 0) ⟨hC, hM, hI⟩ ?_ ?_
    · unfold fX10_ask
      simp (disch := first | assumption | omega | rfl) only [i_rem, i_pred, i_addn1, i_lit, i_n1, i_add, i_mul, i_sub, i_le, i_lt, i_eq, i_ne1, n1_ne, n1_lt, n1_le, i_lt1, i_le1, bd_s, nar_bi, nar_0, nar_1, if_pos, if_neg, ↓reduceIte, reduceCtorEq, eq_self, if_true, if_false, not_true_eq_false, not_false_eq_true, x0_k, x0_fI, x0_fL, x0_pI, x0_pL, x0_z0, x0_z1, x0_fR0, x0_fR1, x0_fR2, x0_fR3, x0_fR4, x0_fR5, x0_fR6, x0_fR7, x0_fR8, x0_fR9, x0_fR10, x0_fR11, x0_fR12, x0_fR13, x013_a, x013_t, x013_n, x0_fR15, x0_fR16, x0_fR17, x0_fR18, x018_a, x018_t, x018_n, s4_k, s4_fI, s4_fL, s4_pI, s4_pL, s4_z0, s4_z1, s4_fR1, s41_a, s41_t, s41_n, s4_fR2, s42_a, s42_t, s42_n, s4_fR3, s43_a, s43_t, s43_n, s4_fR5, s45_a, s45_t, s45_n, s4_fR7, s47_a, s47_t, s47_n, s4_fR8, s48_a, s48_t, s48_n, s4_fR10, s410_a, s410_t, s410_n, s4_fR11, s411_a, s411_t, s411_n, s4_fR12, s412_a, s412_t, s412_n, s4_fR13, s413_a, s413_t, s413_n, be_k, be_fI, be_fL, be_pI, be_pL, be_z0, be_z1, be_fR0, be_fR1, be1_a, be1_t, be1_n, be_fR2, be2_a, be2_t, be2_n, be_fR3, be3_a, be3_t, be3_n, be_fR4, be4_a, be4_t, be4_n, be_fR5, be5_a, be5_t, be5_n, be_fR6, be6_a, be6_t, be6_n, be_fR7, be7_a, be7_t, be7_n, c_hasBand_n hs hu]
    · unfold fX11_ask
      simp (disch := first | assumption | omega | rfl) only [i_rem, i_pred, i_addn1, i_lit, i_n1, i_add, i_mul, i_sub, i_le, i_lt, i_eq, i_ne1, n1_ne, n1_lt, n1_le, i_lt1, i_le1, bd_s, nar_bi, nar_0, nar_1, if_pos, if_neg, ↓reduceIte, reduceCtorEq, eq_self, if_true, if_false, not_true_eq_false, not_false_eq_true, mo_k, mo_fI, mo_fL, mo_pI, mo_pL, mo_z0, mo_z1, mo_fR1, mo1_a, mo1_t, mo1_n, mo_fR14, mo14_a, mo14_t, mo14_n, mo_fR15, mo15_a, mo15_t, mo15_n, mo_fR16, mo16_a, mo16_t, mo16_n, mo_fR17, mo17_a, mo17_t, mo17_n, mo_fR18, mo18_a, mo18_t, mo18_n, mo_fR19, mo19_a, mo19_t, mo19_n, mo_fR20, mo20_a, mo20_t, mo20_n, mo_fR21, mo21_a, mo21_t, mo21_n, mo_fR22, mo22_a, mo22_t, mo22_n, mo_fR25, mo25_a, mo25_t, mo25_n, mo_fR26, mo26_a, mo26_t, mo26_n, mo_fR28, mo28_a, mo28_t, mo28_n, mo_fR29, mo29_a, mo29_t, mo29_n, mo_fR30, mo30_a, mo30_t, mo30_n, mo_fR33, mo33_a, mo33_t, mo33_n, mo_fR36, mo36_a, mo36_t, mo36_n, mo_fR37, mo37_a, mo37_t, mo37_n, mo_fR40, mo40_a, mo40_t, mo40_n, m_isBand_n hO hm hu]
end
