/-! ===== IN HOW FEW BANDS ALL LAWS HAVE ROOM ===== -/
def dc (F : Nat → Nat) (b n : Nat) : Nat → Nat := fun j => if j = b then F b - n else F j
def usP (H : Nat → Nat) (F : Nat → Nat) : Nat → Bool := fun b => !decide (F b = H (11 + b))
def uc (H : Nat → Nat) (F : Nat → Nat) : Nat := cnt (usP H F) (H 0)
def sa (a : Nat → Int32) (l b : Nat) : Nat → Int32 := fun j => if j = l then i32 b else a j
/-- the first way to settle the last q laws with m bands at the most -/
def rP (H : Nat → Nat) (B : Nat → Int32) : Nat → (Nat → Nat) → Nat → Option (Nat → Int32)
  | 0, F, m => if uc H F ≤ m then some (fun _ => n1) else none
  | q + 1, F, m => if lpd B (H 2 - (q + 1)) then rP H B q F m else match fd (fun b => decide (lg H (H 2 - (q + 1)) ≤ F b) && (rP H B q (dc F b (lg H (H 2 - (q + 1)))) m).isSome) (H 0) with
    | none => none
    | some b => (rP H B q (dc F b (lg H (H 2 - (q + 1)))) m).map (fun a => sa a (H 2 - (q + 1)) b)
def Qb (H : Nat → Nat) (B : Nat → Int32) (q : Nat) (F : Nat → Nat) (b m : Nat) : Bool := decide (lg H (H 2 - (q + 1)) ≤ F b) && (rP H B q (dc F b (lg H (H 2 - (q + 1)))) m).isSome
def fOk (H : Nat → Nat) (F : Nat → Nat) : Prop := ∀ b, b < H 0 → F b ≤ H (11 + b)
section
variable {H : Nat → Nat} {B : Nat → Int32} {F : Nat → Nat}
theorem rP_l {q m : Nat} (h : lpd B (H 2 - (q + 1)) = true) : rP H B (q + 1) F m = rP H B q F m := by rw [rP, if_pos h]
theorem rP_n {q m : Nat} (h : lpd B (H 2 - (q + 1)) = false) (hQ : ∀ b, b < H 0 → Qb H B q F b m = false) : rP H B (q + 1) F m = none := by
  rw [rP, h, if_neg (by simp)]
  have e := fd_none.mpr hQ
  unfold Qb at e
  rw [e]
theorem rP_s {q m b : Nat} (h : lpd B (H 2 - (q + 1)) = false) (hb : b < H 0) (h1 : Qb H B q F b m = true) (h2 : ∀ b', b' < b → Qb H B q F b' m = false) : rP H B (q + 1) F m = (rP H B q (dc F b (lg H (H 2 - (q + 1)))) m).map (fun a => sa a (H 2 - (q + 1)) b) := by
  rw [rP, h, if_neg (by simp)]
  have e : fd (fun b => Qb H B q F b m) (H 0) = some b := fd_some.mpr ⟨hb, h1, h2⟩
  unfold Qb at e
  rw [e]
theorem rP_sm {q m : Nat} (h : lpd B (H 2 - (q + 1)) = false) : (rP H B (q + 1) F m).isSome = true ↔ ∃ b, b < H 0 ∧ Qb H B q F b m = true := by
  cases e : fd (fun b => Qb H B q F b m) (H 0) with
  | none =>
    have h1 := fd_none.mp e
    rw [rP_n h h1]
    exact ⟨fun z => (by cases z), fun ⟨b, hb, z⟩ => (by rw [h1 b hb] at z; cases z)⟩
  | some b =>
    obtain ⟨h1, h2, h3⟩ := fd_some.mp e
    rw [rP_s h h1 h2 h3]
    refine ⟨fun _ => ⟨b, h1, h2⟩, fun _ => ?_⟩
    have : (rP H B q (dc F b (lg H (H 2 - (q + 1)))) m).isSome = true := by
      unfold Qb at h2
      exact (Bool.and_eq_true _ _ ▸ h2).2
    cases e2 : rP H B q (dc F b (lg H (H 2 - (q + 1)))) m with
    | none => rw [e2] at this; cases this
    | some a => rfl
theorem rP_mono {m m' : Nat} (hm : m ≤ m') : ∀ q F, (rP H B q F m).isSome = true → (rP H B q F m').isSome = true := by
  intro q
  induction q with
  | zero =>
    intro F h
    rw [rP] at h ⊢
    by_cases hc : uc H F ≤ m
    · rw [if_pos (by omega)]; rfl
    · rw [if_neg hc] at h; cases h
  | succ q ih =>
    intro F h
    cases hl : lpd B (H 2 - (q + 1)) with
    | true => rw [rP_l hl] at h ⊢; exact ih F h
    | false =>
      rw [rP_sm hl] at h ⊢
      obtain ⟨b, hb, hq⟩ := h
      refine ⟨b, hb, ?_⟩
      unfold Qb at hq ⊢
      rw [Bool.and_eq_true] at hq ⊢
      exact ⟨hq.1, ih _ hq.2⟩
theorem uc_H0 : uc H F ≤ H 0 := cnt_le
theorem rP_top {m : Nat} : ∀ q F, (rP H B q F m).isSome = true → (rP H B q F (H 0)).isSome = true := by
  intro q
  induction q with
  | zero =>
    intro F h
    rw [rP, if_pos uc_H0]; rfl
  | succ q ih =>
    intro F h
    cases hl : lpd B (H 2 - (q + 1)) with
    | true => rw [rP_l hl] at h ⊢; exact ih F h
    | false =>
      rw [rP_sm hl] at h ⊢
      obtain ⟨b, hb, hq⟩ := h
      refine ⟨b, hb, ?_⟩
      unfold Qb at hq ⊢
      rw [Bool.and_eq_true] at hq ⊢
      exact ⟨hq.1, ih _ hq.2⟩
theorem fOk_dc {b n : Nat} (h : fOk H F) : fOk H (dc F b n) := by
  intro j hj
  have := h j hj
  rw [dc]
  split
  · rename_i e; subst e; omega
  · exact this
theorem uc_dc {b n : Nat} (h : fOk H F) (hb : b < H 0) (hn : 1 ≤ n) (hf : n ≤ F b) : uc H (dc F b n) = if F b = H (11 + b) then uc H F + 1 else uc H F := by
  have hb2 := h b hb
  by_cases he : F b = H (11 + b)
  · rw [if_pos he, uc, uc]
    refine cnt_up hb (fun k hk hkb => ?_) ?_ ?_
    · rw [usP, usP, dc, if_neg hkb]
    · rw [usP, decide_eq_true he]; rfl
    · rw [usP, dc, if_pos rfl, decide_eq_false (by omega)]; rfl
  · rw [if_neg he, uc, uc]
    refine cnt_congr (fun k hk => ?_)
    rw [usP, usP, dc]
    by_cases hkb : k = b
    · subst hkb
      rw [if_pos rfl, decide_eq_false he, decide_eq_false (by omega)]
    · rw [if_neg hkb]
theorem rP_uc {m : Nat} : ∀ q F, fOk H F → (rP H B q F m).isSome = true → uc H F ≤ m := by
  intro q
  induction q with
  | zero =>
    intro F hF h
    rw [rP] at h
    by_cases hc : uc H F ≤ m
    · exact hc
    · rw [if_neg hc] at h; cases h
  | succ q ih =>
    intro F hF h
    cases hl : lpd B (H 2 - (q + 1)) with
    | true => rw [rP_l hl] at h; exact ih F hF h
    | false =>
      rw [rP_sm hl] at h
      obtain ⟨b, hb, hq⟩ := h
      unfold Qb at hq
      rw [Bool.and_eq_true] at hq
      have h1 := of_decide_eq_true hq.1
      have h2 := ih _ (fOk_dc hF) hq.2
      have l2 := lg_2 (H := H) (l := H 2 - (q + 1))
      rw [uc_dc hF hb (by omega) h1] at h2
      split at h2 <;> omega
theorem rP_in {m : Nat} : ∀ q F a, q ≤ H 2 → rP H B q F m = some a → ∀ j, (j < H 2 - q ∨ H 2 ≤ j) → a j = n1 := by
  intro q
  induction q with
  | zero =>
    intro F a _ h j hj
    rw [rP] at h
    by_cases hc : uc H F ≤ m
    · rw [if_pos hc] at h; cases h; rfl
    · rw [if_neg hc] at h; cases h
  | succ q ih =>
    intro F a hq h j hj
    cases hl : lpd B (H 2 - (q + 1)) with
    | true => rw [rP_l hl] at h; exact ih F a (by omega) h j (by omega)
    | false =>
      cases e : fd (fun b => Qb H B q F b m) (H 0) with
      | none => rw [rP_n hl (fd_none.mp e)] at h; cases h
      | some b =>
        obtain ⟨h1, h2, h3⟩ := fd_some.mp e
        rw [rP_s hl h1 h2 h3] at h
        cases e2 : rP H B q (dc F b (lg H (H 2 - (q + 1)))) m with
        | none => rw [e2] at h; cases h
        | some a' =>
          rw [e2] at h
          cases h
          show sa a' (H 2 - (q + 1)) b j = n1
          rw [sa, if_neg (by omega)]
          exact ih _ a' (by omega) e2 j (by omega)
/-- the least number below w of bands that do -/
def rs (H : Nat → Nat) (B : Nat → Int32) (q : Nat) (F : Nat → Nat) (w : Nat) : Option Nat := fd (fun m => (rP H B q F m).isSome) w
def cmb (S : Nat → Int32) (l : Nat) (a : Nat → Int32) : Nat → Int32 := fun j => if j < l then S j else a j
def rsW (w : Nat) (t : Option Nat) : Nat := match t with
  | none => w
  | some m => m
def gA (o : Option (Nat → Int32)) : Nat → Int32 := o.getD (fun _ => n1)
def rsA (H : Nat → Nat) (B : Nat → Int32) (q : Nat) (F : Nat → Nat) (S a : Nat → Int32) (t : Option Nat) : Nat → Int32 := match t with
  | none => a
  | some m => cmb S (H 2 - q) (gA (rP H B q F m))
/-- the loop over the bands -/
def Bst (H : Nat → Nat) (B : Nat → Int32) (q : Nat) (F : Nat → Nat) (w k : Nat) (t : Option (Nat × Nat)) : Prop := match t with
  | none => ∀ b, b < k → ∀ m, m < w → Qb H B q F b m = false
  | some x => x.2 < k ∧ x.1 < w ∧ Qb H B q F x.2 x.1 = true ∧ (∀ b, b < k → ∀ m, m < x.1 → Qb H B q F b m = false) ∧ ∀ b, b < x.2 → Qb H B q F b x.1 = false
def tW (w : Nat) (t : Option (Nat × Nat)) : Nat := match t with
  | none => w
  | some x => x.1
def tA (H : Nat → Nat) (B : Nat → Int32) (q : Nat) (F : Nat → Nat) (S a : Nat → Int32) (t : Option (Nat × Nat)) : Nat → Int32 := match t with
  | none => a
  | some x => cmb S (H 2 - (q + 1)) (sa (gA (rP H B q (dc F x.2 (lg H (H 2 - (q + 1)))) x.1)) (H 2 - (q + 1)) x.2)
theorem Bst_no {q w k : Nat} {t : Option (Nat × Nat)} (h : Bst H B q F w k t) (hk : ∀ m, m < tW w t → Qb H B q F k m = false) : Bst H B q F w (k + 1) t := by
  cases t with
  | none =>
    intro b hb m hm
    by_cases e : b = k
    · subst e; exact hk m hm
    · exact h b (by omega) m hm
  | some x =>
    obtain ⟨h1, h2, h3, h4, h5⟩ := h
    refine ⟨by omega, h2, h3, fun b hb m hm => ?_, h5⟩
    by_cases e : b = k
    · subst e; exact hk m hm
    · exact h4 b (by omega) m hm
theorem Bst_yes {q w k m : Nat} {t : Option (Nat × Nat)} (h : Bst H B q F w k t) (hm : m < tW w t) (hq : Qb H B q F k m = true) (hl : ∀ m', m' < m → Qb H B q F k m' = false) : Bst H B q F w (k + 1) (some (m, k)) := by
  cases t with
  | none =>
    have hm' : m < w := hm
    refine ⟨Nat.lt_succ_self _, hm', hq, fun b hb m' hm2 => ?_, fun b hb => h b hb m hm'⟩
    by_cases e : b = k
    · subst e; exact hl m' hm2
    · exact h b (by omega) m' (by have : m' < m := hm2; omega)
  | some x =>
    obtain ⟨h1, h2, h3, h4, h5⟩ := h
    have hm' : m < x.1 := hm
    refine ⟨Nat.lt_succ_self _, by dsimp only; omega, hq, fun b hb m' hm2 => ?_, fun b hb => h4 b hb m hm'⟩
    by_cases e : b = k
    · subst e; exact hl m' hm2
    · exact h4 b (by omega) m' (by have : m' < m := hm2; omega)
theorem Bst_end {q w : Nat} {S a : Nat → Int32} {t : Option (Nat × Nat)} (hq2 : q + 1 ≤ H 2) (hl : lpd B (H 2 - (q + 1)) = false) (h : Bst H B q F w (H 0) t) : tW w t = rsW w (rs H B (q + 1) F w) ∧ tA H B q F S a t = rsA H B (q + 1) F S a (rs H B (q + 1) F w) := by
  cases t with
  | none =>
    have e : rs H B (q + 1) F w = none := fd_none.mpr (fun m hm => by
      rw [rP_n hl (fun b hb => h b hb m hm)]; rfl)
    rw [e]; exact ⟨rfl, rfl⟩
  | some x =>
    obtain ⟨h1, h2, h3, h4, h5⟩ := h
    have e : rs H B (q + 1) F w = some x.1 := fd_some.mpr ⟨h2, (rP_sm hl).mpr ⟨x.2, h1, h3⟩, fun m hm => by
      rw [rP_n hl (fun b hb => h4 b hb m hm)]; rfl⟩
    rw [e]
    refine ⟨rfl, ?_⟩
    show cmb S _ _ = cmb S _ _
    rw [rP_s hl h1 h3 h5]
    have : (rP H B q (dc F x.2 (lg H (H 2 - (q + 1)))) x.1).isSome = true := by
      unfold Qb at h3
      exact (Bool.and_eq_true _ _ ▸ h3).2
    cases e2 : rP H B q (dc F x.2 (lg H (H 2 - (q + 1)))) x.1 with
    | none => rw [e2] at this; cases this
    | some a' => rfl
end
def RMm (H : Nat → Nat) (F : Nat → Nat) (S a : Nat → Int32) (w : Nat) (I J : Nat → Nat → Int32) : Prop := (∀ b, b < H 0 → J 129 b = i32 (F b)) ∧ (∀ j, j < 6 → J 130 j = S j) ∧ (∀ j, j < 6 → J 131 j = a j) ∧ J 128 4 = i32 w ∧ ∀ q, q ≠ 128 → q ≠ 129 → q ≠ 130 → q ≠ 131 → J q = I q
section
variable {H : Nat → Nat} {B : Nat → Int32} {F : Nat → Nat} {I : Nat → Nat → Int32} {L : Nat → Nat → Int64} {r : Bool} {N : Nat}
theorem c_settle (hN : 1200 < N) (hO : hOk H) (hs : RS 4 H I) : ∀ q, q ≤ H 2 → ∀ d, q < d → ∀ (F : Nat → Nat) (w : Nat) (a S : Nat → Int32) (J : Nat → Nat → Int32), fOk H F → w ≤ 7 → (∀ j, H 2 - q ≤ j → S j = n1) → RMm H F S a w I J → ∃ K, fX6_settle N d 128 (B 3) (i32 (H 2 - q)) (i32 (uc H F)) (mk J L r) = some ((), mk K L r) ∧ RMm H F S (rsA H B q F S a (rs H B q F w)) (rsW w (rs H B q F w)) I K := by
  have o0 := hO.1; have o1 := hO.2.1; have o2 := hO.2.2.1; have o3 := hO.2.2.2.1; have o4 := hO.2.2.2.2.1; have o5 := hO.2.2.2.2.2.1
  intro q
  induction q with
  | zero =>
    intro _ d hd F w a S J hF hw hS hJ
    obtain ⟨d, rfl⟩ : ∃ d', d = d' + 1 := ⟨d - 1, by omega⟩
    have u0 := uc_H0 (H := H) (F := F)
    obtain ⟨j1, j2, j3, j4, j5⟩ := hJ
    have hsJ : RS 4 H J := RS_of (fun z z1 z2 => j5 z (by omega) (by omega) (by omega) (by omega)) hs
    by_cases hc : uc H F < w
    · have e : rs H B 0 F w = some (uc H F) := fd_some.mpr ⟨hc, by rw [rP, if_pos (Nat.le_refl _)]; rfl, fun m hm => by rw [rP, if_neg (by omega)]; rfl⟩
      have c1 := mk_cI (I := up J 128 4 (i32 (uc H F))) (L := L) (r := r) (a0 := 130) (a1 := 131) (sp := 0) (dp := 0) (n := 6) rm2_K rm3_K rm2_N rm3_N (by omega) (by omega) (by omega) (by omega)
      refine ⟨cpy (up J 128 4 (i32 (uc H F))) 130 0 131 0 6, ?_, ?_⟩
      · simp (disch := first | assumption | omega | rfl) only [i_rem, i_pred, i_addn1, i_lit, i_n1, i_add, i_mul, i_sub, i_le, i_lt, i_eq, i_ne1, n1_ne, n1_lt, n1_le, i_lt1, i_le1, bd_s, nar_bi, nar_0, nar_1, if_pos, if_neg, ↓reduceIte, reduceCtorEq, eq_self, if_true, if_false, not_true_eq_false, not_false_eq_true, rm_k, rm_fI, rm_fL, rm_pI, rm_pL, rm_z0, rm_z1, rm_fR0, rm_fR1, rm1_a, rm1_t, rm1_n, rm_fR2, rm2_a, rm2_t, rm2_n, rm_fR3, rm3_a, rm3_t, rm3_n, s4_k, s4_fI, s4_fL, s4_pI, s4_pL, s4_z0, s4_z1, s4_fR1, s41_a, s41_t, s41_n, s4_fR2, s42_a, s42_t, s42_n, s4_fR3, s43_a, s43_t, s43_n, s4_fR5, s45_a, s45_t, s45_n, s4_fR7, s47_a, s47_t, s47_n, s4_fR8, s48_a, s48_t, s48_n, s4_fR10, s410_a, s410_t, s410_n, s4_fR11, s411_a, s411_t, s411_n, s4_fR12, s412_a, s412_t, s412_n, s4_fR13, s413_a, s413_t, s413_n, fX6_settle, fX6_settle_b, j4, s4_nl hsJ, Nat.sub_zero, c1]
      · rw [e]
        refine ⟨fun b hb => ?_, fun j hj => ?_, fun j hj => ?_, ?_, fun z z1 z2 z3 z4 => ?_⟩
        · rw [cpy_row (by omega), up_row (by omega)]; exact j1 b hb
        · rw [cpy_row (by omega), up_row (by omega)]; exact j2 j hj
        · rw [cpy_in (by omega), up_row (by omega), show 0 + (j - 0) = j by omega, j2 j hj]
          show S j = cmb S (H 2 - 0) (gA (rP H B 0 F (uc H F))) j
          rw [cmb, rP, if_pos (Nat.le_refl _)]
          split
          · rfl
          · exact hS j (by omega)
        · rw [cpy_row (by omega)]; exact up_self
        · rw [cpy_row z4, up_row z1]; exact j5 z z1 z2 z3 z4
    · have e : rs H B 0 F w = none := fd_none.mpr (fun m hm => by rw [rP, if_neg (by omega)]; rfl)
      refine ⟨J, ?_, by rw [e]; exact ⟨j1, j2, j3, j4, j5⟩⟩
      simp (disch := first | assumption | omega | rfl) only [i_rem, i_pred, i_addn1, i_lit, i_n1, i_add, i_mul, i_sub, i_le, i_lt, i_eq, i_ne1, n1_ne, n1_lt, n1_le, i_lt1, i_le1, bd_s, nar_bi, nar_0, nar_1, if_pos, if_neg, ↓reduceIte, reduceCtorEq, eq_self, if_true, if_false, not_true_eq_false, not_false_eq_true, rm_k, rm_fI, rm_fL, rm_pI, rm_pL, rm_z0, rm_z1, rm_fR0, rm_fR1, rm1_a, rm1_t, rm1_n, rm_fR2, rm2_a, rm2_t, rm2_n, rm_fR3, rm3_a, rm3_t, rm3_n, s4_k, s4_fI, s4_fL, s4_pI, s4_pL, s4_z0, s4_z1, s4_fR1, s41_a, s41_t, s41_n, s4_fR2, s42_a, s42_t, s42_n, s4_fR3, s43_a, s43_t, s43_n, s4_fR5, s45_a, s45_t, s45_n, s4_fR7, s47_a, s47_t, s47_n, s4_fR8, s48_a, s48_t, s48_n, s4_fR10, s410_a, s410_t, s410_n, s4_fR11, s411_a, s411_t, s411_n, s4_fR12, s412_a, s412_t, s412_n, s4_fR13, s413_a, s413_t, s413_n, fX6_settle, fX6_settle_b, j4]
  | succ q ih =>
    intro hq d hd F w a S J hF hw hS hJ
    obtain ⟨d, rfl⟩ : ∃ d', d = d' + 1 := ⟨d - 1, by omega⟩
    have u0 := uc_H0 (H := H) (F := F)
    have hJ0 := hJ
    obtain ⟨j1, j2, j3, j4, j5⟩ := hJ
    have hsJ : RS 4 H J := RS_of (fun z z1 z2 => j5 z (by omega) (by omega) (by omega) (by omega)) hs
    by_cases hc : uc H F < w
    · cases hl : lpd B (H 2 - (q + 1)) with
      | true =>
        have hl' : ¬ (B 3 >>> (i32 (H 2 - (q + 1)) &&& i32 31)) &&& i32 1 = i32 0 := of_decide_eq_true hl
        have en : H 2 - (q + 1) + 1 = H 2 - q := by omega
        obtain ⟨K, e1, g1⟩ := ih (by omega) d (by omega) F w a S J hF hw (fun j hj => hS j (by omega)) hJ0
        have er : rs H B (q + 1) F w = rs H B q F w := fd_congr (fun m _ => by rw [rP_l hl])
        have ea : ∀ j, rsA H B (q + 1) F S a (rs H B q F w) j = rsA H B q F S a (rs H B q F w) j := by
          intro j
          cases e : rs H B q F w with
          | none => rfl
          | some m =>
            show cmb S (H 2 - (q + 1)) (gA (rP H B (q + 1) F m)) j = cmb S (H 2 - q) (gA (rP H B q F m)) j
            rw [rP_l hl, cmb, cmb]
            by_cases hj : j < H 2 - (q + 1)
            · rw [if_pos hj, if_pos (by omega)]
            · rw [if_neg hj]
              by_cases hj2 : j < H 2 - q
              · rw [if_pos hj2, hS j (by omega)]
                cases e2 : rP H B q F m with
                | none => rfl
                | some a' => exact rP_in q F a' (by omega) e2 j (Or.inl hj2)
              · rw [if_neg hj2]
        refine ⟨K, ?_, ?_⟩
        · rw [← en] at e1
          simp (disch := first | assumption | omega | rfl) only [i_rem, i_pred, i_addn1, i_lit, i_n1, i_add, i_mul, i_sub, i_le, i_lt, i_eq, i_ne1, n1_ne, n1_lt, n1_le, i_lt1, i_le1, bd_s, nar_bi, nar_0, nar_1, if_pos, if_neg, ↓reduceIte, reduceCtorEq, eq_self, if_true, if_false, not_true_eq_false, not_false_eq_true, rm_k, rm_fI, rm_fL, rm_pI, rm_pL, rm_z0, rm_z1, rm_fR0, rm_fR1, rm1_a, rm1_t, rm1_n, rm_fR2, rm2_a, rm2_t, rm2_n, rm_fR3, rm3_a, rm3_t, rm3_n, s4_k, s4_fI, s4_fL, s4_pI, s4_pL, s4_z0, s4_z1, s4_fR1, s41_a, s41_t, s41_n, s4_fR2, s42_a, s42_t, s42_n, s4_fR3, s43_a, s43_t, s43_n, s4_fR5, s45_a, s45_t, s45_n, s4_fR7, s47_a, s47_t, s47_n, s4_fR8, s48_a, s48_t, s48_n, s4_fR10, s410_a, s410_t, s410_n, s4_fR11, s411_a, s411_t, s411_n, s4_fR12, s412_a, s412_t, s412_n, s4_fR13, s413_a, s413_t, s413_n, fX6_settle, fX6_settle_b, j4, s4_nl hsJ, hl', e1]
        · rw [er]
          obtain ⟨k1, k2, k3, k4, k5⟩ := g1
          exact ⟨k1, k2, fun j hj => by rw [ea]; exact k3 j hj, k4, k5⟩
      | false =>
        have hl' : (B 3 >>> (i32 (H 2 - (q + 1)) &&& i32 31)) &&& i32 1 = i32 0 := by
          have := of_decide_eq_false hl
          exact Decidable.not_not.mp this
        have en : H 2 - (q + 1) + 1 = H 2 - q := by omega
        have hlq : H 2 - (q + 1) < H 2 := by omega
        have l2 := lg_2 (H := H) (l := H 2 - (q + 1))
        have l3 := lg_3 (H := H) (l := H 2 - (q + 1))
        obtain ⟨K, e1, t, S', g1, g2, g3⟩ := lp_st (F := fun n' v J => fX6_settle_L73 N (fX6_settle N d) 128 (B 3) (i32 (H 2 - (q + 1))) (i32 (uc H F)) (i32 (lg H (H 2 - (q + 1)))) n' v (mk J L r)) (m := H 0) (fun k J => ∃ t S', Bst H B q F w k t ∧ RMm H F S' (tA H B q F S a t) (tW w t) I J ∧ ∀ j, j ≠ H 2 - (q + 1) → S' j = S j) (fun J => mk J L r) (fun n' k J hk hT => by
          obtain ⟨t, S', g1, g2, g3⟩ := hT
          have g2' := g2
          obtain ⟨m1, m2, m3, m4, m5⟩ := g2
          have hsJ : RS 4 H J := RS_of (fun z z1 z2 => m5 z (by omega) (by omega) (by omega) (by omega)) hs
          have wd_k := hO.2.2.2.2.2.2.1 k (by assumption)
          have hFk := hF k hk
          have tw : tW w t ≤ w := by
            cases t with
            | none => exact Nat.le_refl _
            | some x => exact Nat.le_of_lt g1.2.1
          by_cases hf : lg H (H 2 - (q + 1)) ≤ F k
          · have fr : RMm H (dc F k (lg H (H 2 - (q + 1)))) (sa S' (H 2 - (q + 1)) k) (tA H B q F S a t) (tW w t) I (up (up J 129 k (i32 (F k - lg H (H 2 - (q + 1))))) 130 (H 2 - (q + 1)) (i32 k)) := by
              refine ⟨fun b hb => ?_, fun j hj => ?_, fun j hj => ?_, ?_, fun z z1 z2 z3 z4 => ?_⟩
              · rw [up_row (by omega), up_at, dc]
                by_cases hbk : b = k
                · rw [if_pos hbk, if_pos hbk]
                · rw [if_neg hbk, if_neg hbk]; exact m1 b hb
              · rw [up_at, sa]
                by_cases hj2 : j = H 2 - (q + 1)
                · rw [if_pos hj2, if_pos hj2]
                · rw [if_neg hj2, if_neg hj2, up_row (by omega)]; exact m2 j hj
              · rw [up_row (by omega), up_row (by omega)]; exact m3 j hj
              · rw [up_row (by omega), up_row (by omega)]; exact m4
              · rw [up_row z3, up_row z2]; exact m5 z z1 z2 z3 z4
            obtain ⟨K, e2, f2⟩ := ih (by omega) d (by omega) (dc F k (lg H (H 2 - (q + 1)))) (tW w t) (tA H B q F S a t) (sa S' (H 2 - (q + 1)) k) _ (fOk_dc hF) (by omega) (fun j hj => by rw [sa, if_neg (by omega), g3 j (by omega)]; exact hS j (by omega)) fr
            obtain ⟨k1, k2, k3, k4, k5⟩ := f2
            have kk : K 129 k = i32 (F k - lg H (H 2 - (q + 1))) := by rw [k1 k hk, dc, if_pos rfl]
            rw [uc_dc hF hk (by omega) hf, ← en] at e2
            have e3 : fX6_settle_L73 N (fX6_settle N d) 128 (B 3) (i32 (H 2 - (q + 1))) (i32 (uc H F)) (i32 (lg H (H 2 - (q + 1)))) (n' + 1) (i32 k) (mk J L r) = fX6_settle_L73 N (fX6_settle N d) 128 (B 3) (i32 (H 2 - (q + 1))) (i32 (uc H F)) (i32 (lg H (H 2 - (q + 1)))) n' (i32 (k + 1)) (mk (up K 129 k (i32 (F k))) L r) := by
              have es : F k - lg H (H 2 - (q + 1)) + lg H (H 2 - (q + 1)) = F k := by omega
              by_cases he : F k = H (11 + k)
              · rw [if_pos he] at e2
                simp (disch := first | assumption | omega | rfl) only [i_rem, i_pred, i_addn1, i_lit, i_n1, i_add, i_mul, i_sub, i_le, i_lt, i_eq, i_ne1, n1_ne, n1_lt, n1_le, i_lt1, i_le1, bd_s, nar_bi, nar_0, nar_1, if_pos, if_neg, ↓reduceIte, reduceCtorEq, eq_self, if_true, if_false, not_true_eq_false, not_false_eq_true, rm_k, rm_fI, rm_fL, rm_pI, rm_pL, rm_z0, rm_z1, rm_fR0, rm_fR1, rm1_a, rm1_t, rm1_n, rm_fR2, rm2_a, rm2_t, rm2_n, rm_fR3, rm3_a, rm3_t, rm3_n, s4_k, s4_fI, s4_fL, s4_pI, s4_pL, s4_z0, s4_z1, s4_fR1, s41_a, s41_t, s41_n, s4_fR2, s42_a, s42_t, s42_n, s4_fR3, s43_a, s43_t, s43_n, s4_fR5, s45_a, s45_t, s45_n, s4_fR7, s47_a, s47_t, s47_n, s4_fR8, s48_a, s48_t, s48_n, s4_fR10, s410_a, s410_t, s410_n, s4_fR11, s411_a, s411_t, s411_n, s4_fR12, s412_a, s412_t, s412_n, s4_fR13, s413_a, s413_t, s413_n, fX6_settle_L73, fX6_settle_J122_73, s4_nb hsJ, s4_wd hsJ, m1 k hk, he, up_off]
                rw [he] at e2 kk es
                simp (disch := first | assumption | omega | rfl) only [i_rem, i_pred, i_addn1, i_lit, i_n1, i_add, i_mul, i_sub, i_le, i_lt, i_eq, i_ne1, n1_ne, n1_lt, n1_le, i_lt1, i_le1, bd_s, nar_bi, nar_0, nar_1, if_pos, if_neg, ↓reduceIte, reduceCtorEq, eq_self, if_true, if_false, not_true_eq_false, not_false_eq_true, rm_k, rm_fI, rm_fL, rm_pI, rm_pL, rm_z0, rm_z1, rm_fR0, rm_fR1, rm1_a, rm1_t, rm1_n, rm_fR2, rm2_a, rm2_t, rm2_n, rm_fR3, rm3_a, rm3_t, rm3_n, s4_k, s4_fI, s4_fL, s4_pI, s4_pL, s4_z0, s4_z1, s4_fR1, s41_a, s41_t, s41_n, s4_fR2, s42_a, s42_t, s42_n, s4_fR3, s43_a, s43_t, s43_n, s4_fR5, s45_a, s45_t, s45_n, s4_fR7, s47_a, s47_t, s47_n, s4_fR8, s48_a, s48_t, s48_n, s4_fR10, s410_a, s410_t, s410_n, s4_fR11, s411_a, s411_t, s411_n, s4_fR12, s412_a, s412_t, s412_n, s4_fR13, s413_a, s413_t, s413_n, e2, kk, es]
              · rw [if_neg he] at e2
                simp (disch := first | assumption | omega | rfl) only [i_rem, i_pred, i_addn1, i_lit, i_n1, i_add, i_mul, i_sub, i_le, i_lt, i_eq, i_ne1, n1_ne, n1_lt, n1_le, i_lt1, i_le1, bd_s, nar_bi, nar_0, nar_1, if_pos, if_neg, ↓reduceIte, reduceCtorEq, eq_self, if_true, if_false, not_true_eq_false, not_false_eq_true, rm_k, rm_fI, rm_fL, rm_pI, rm_pL, rm_z0, rm_z1, rm_fR0, rm_fR1, rm1_a, rm1_t, rm1_n, rm_fR2, rm2_a, rm2_t, rm2_n, rm_fR3, rm3_a, rm3_t, rm3_n, s4_k, s4_fI, s4_fL, s4_pI, s4_pL, s4_z0, s4_z1, s4_fR1, s41_a, s41_t, s41_n, s4_fR2, s42_a, s42_t, s42_n, s4_fR3, s43_a, s43_t, s43_n, s4_fR5, s45_a, s45_t, s45_n, s4_fR7, s47_a, s47_t, s47_n, s4_fR8, s48_a, s48_t, s48_n, s4_fR10, s410_a, s410_t, s410_n, s4_fR11, s411_a, s411_t, s411_n, s4_fR12, s412_a, s412_t, s412_n, s4_fR13, s413_a, s413_t, s413_n, fX6_settle_L73, fX6_settle_J122_73, s4_nb hsJ, s4_wd hsJ, m1 k hk, he, up_off, Nat.add_zero, e2, kk, es]
            have fin : ∀ t', (∀ j, j < 6 → rsA H B q (dc F k (lg H (H 2 - (q + 1)))) (sa S' (H 2 - (q + 1)) k) (tA H B q F S a t) (rs H B q (dc F k (lg H (H 2 - (q + 1)))) (tW w t)) j = tA H B q F S a t' j) → rsW (tW w t) (rs H B q (dc F k (lg H (H 2 - (q + 1)))) (tW w t)) = tW w t' → RMm H F (sa S' (H 2 - (q + 1)) k) (tA H B q F S a t') (tW w t') I (up K 129 k (i32 (F k))) := by
              intro t' ht1 ht2
              refine ⟨fun b hb => ?_, fun j hj => ?_, fun j hj => ?_, ?_, fun z z1 z2 z3 z4 => ?_⟩
              · rw [up_at]
                by_cases hbk : b = k
                · rw [if_pos hbk, hbk]
                · rw [if_neg hbk, k1 b hb, dc, if_neg hbk]
              · rw [up_row (by omega)]; exact k2 j hj
              · rw [up_row (by omega), k3 j hj]; exact ht1 j hj
              · rw [up_row (by omega), k4, ht2]
              · rw [up_row z2]; exact k5 z z1 z2 z3 z4
            have hsa : ∀ j, j ≠ H 2 - (q + 1) → sa S' (H 2 - (q + 1)) k j = S j := fun j hj => by rw [sa, if_neg hj]; exact g3 j hj
            have hQ : ∀ m, Qb H B q F k m = (rP H B q (dc F k (lg H (H 2 - (q + 1)))) m).isSome := fun m => by
              unfold Qb; rw [decide_eq_true hf, Bool.true_and]
            cases er : rs H B q (dc F k (lg H (H 2 - (q + 1)))) (tW w t) with
            | none =>
              refine ⟨_, e3, t, _, Bst_no g1 (fun m hm => ?_), fin t (fun j _ => by rw [er]; rfl) (by rw [er]; rfl), hsa⟩
              rw [hQ]; exact fd_none.mp er m hm
            | some m =>
              obtain ⟨a1, a2, a3⟩ := fd_some.mp er
              refine ⟨_, e3, some (m, k), _, Bst_yes g1 a1 (by rw [hQ]; exact a2) (fun m' hm' => by rw [hQ]; exact a3 m' hm'), fin (some (m, k)) (fun j _ => ?_) (by rw [er]; rfl), hsa⟩
              rw [er]
              show cmb (sa S' (H 2 - (q + 1)) k) (H 2 - q) (gA _) j = cmb S (H 2 - (q + 1)) (sa (gA _) (H 2 - (q + 1)) k) j
              rw [cmb, cmb, sa, sa]
              by_cases hj : j < H 2 - (q + 1)
              · rw [if_pos (by omega), if_neg (by omega), if_pos hj]; exact g3 j (by omega)
              · rw [if_neg hj]
                by_cases hj2 : j = H 2 - (q + 1)
                · rw [if_pos (by omega), if_pos hj2, if_pos hj2]
                · rw [if_neg (by omega), if_neg hj2]
          · refine ⟨J, ?_, t, S', Bst_no g1 (fun m _ => ?_), g2', g3⟩
            · simp (disch := first | assumption | omega | rfl) only [i_rem, i_pred, i_addn1, i_lit, i_n1, i_add, i_mul, i_sub, i_le, i_lt, i_eq, i_ne1, n1_ne, n1_lt, n1_le, i_lt1, i_le1, bd_s, nar_bi, nar_0, nar_1, if_pos, if_neg, ↓reduceIte, reduceCtorEq, eq_self, if_true, if_false, not_true_eq_false, not_false_eq_true, rm_k, rm_fI, rm_fL, rm_pI, rm_pL, rm_z0, rm_z1, rm_fR0, rm_fR1, rm1_a, rm1_t, rm1_n, rm_fR2, rm2_a, rm2_t, rm2_n, rm_fR3, rm3_a, rm3_t, rm3_n, s4_k, s4_fI, s4_fL, s4_pI, s4_pL, s4_z0, s4_z1, s4_fR1, s41_a, s41_t, s41_n, s4_fR2, s42_a, s42_t, s42_n, s4_fR3, s43_a, s43_t, s43_n, s4_fR5, s45_a, s45_t, s45_n, s4_fR7, s47_a, s47_t, s47_n, s4_fR8, s48_a, s48_t, s48_n, s4_fR10, s410_a, s410_t, s410_n, s4_fR11, s411_a, s411_t, s411_n, s4_fR12, s412_a, s412_t, s412_n, s4_fR13, s413_a, s413_t, s413_n, fX6_settle_L73, s4_nb hsJ, m1 k hk]
            · unfold Qb; rw [decide_eq_false hf, Bool.false_and]) (fun n' J hT => by
          obtain ⟨t, S', g1, ⟨m1, m2, m3, m4, m5⟩, g3⟩ := hT
          have hsJ : RS 4 H J := RS_of (fun z z1 z2 => m5 z (by omega) (by omega) (by omega) (by omega)) hs
          simp (disch := first | assumption | omega | rfl) only [i_rem, i_pred, i_addn1, i_lit, i_n1, i_add, i_mul, i_sub, i_le, i_lt, i_eq, i_ne1, n1_ne, n1_lt, n1_le, i_lt1, i_le1, bd_s, nar_bi, nar_0, nar_1, if_pos, if_neg, ↓reduceIte, reduceCtorEq, eq_self, if_true, if_false, not_true_eq_false, not_false_eq_true, rm_k, rm_fI, rm_fL, rm_pI, rm_pL, rm_z0, rm_z1, rm_fR0, rm_fR1, rm1_a, rm1_t, rm1_n, rm_fR2, rm2_a, rm2_t, rm2_n, rm_fR3, rm3_a, rm3_t, rm3_n, s4_k, s4_fI, s4_fL, s4_pI, s4_pL, s4_z0, s4_z1, s4_fR1, s41_a, s41_t, s41_n, s4_fR2, s42_a, s42_t, s42_n, s4_fR3, s43_a, s43_t, s43_n, s4_fR5, s45_a, s45_t, s45_n, s4_fR7, s47_a, s47_t, s47_n, s4_fR8, s48_a, s48_t, s48_n, s4_fR10, s410_a, s410_t, s410_n, s4_fR11, s411_a, s411_t, s411_n, s4_fR12, s412_a, s412_t, s412_n, s4_fR13, s413_a, s413_t, s413_n, fX6_settle_L73, s4_nb hsJ]) (n := N) (by omega) (s := J) ⟨none, S, fun b hb => absurd hb (Nat.not_lt_zero b), hJ0, fun _ _ => rfl⟩
        obtain ⟨x1, x2⟩ := Bst_end (S := S) (a := a) hq hl g1
        obtain ⟨m1, m2, m3, m4, m5⟩ := g2
        refine ⟨up K 130 (H 2 - (q + 1)) n1, ?_, fun b hb => ?_, fun j hj => ?_, fun j hj => ?_, ?_, fun z z1 z2 z3 z4 => ?_⟩
        · simp (disch := first | assumption | omega | rfl) only [i_rem, i_pred, i_addn1, i_lit, i_n1, i_add, i_mul, i_sub, i_le, i_lt, i_eq, i_ne1, n1_ne, n1_lt, n1_le, i_lt1, i_le1, bd_s, nar_bi, nar_0, nar_1, if_pos, if_neg, ↓reduceIte, reduceCtorEq, eq_self, if_true, if_false, not_true_eq_false, not_false_eq_true, rm_k, rm_fI, rm_fL, rm_pI, rm_pL, rm_z0, rm_z1, rm_fR0, rm_fR1, rm1_a, rm1_t, rm1_n, rm_fR2, rm2_a, rm2_t, rm2_n, rm_fR3, rm3_a, rm3_t, rm3_n, s4_k, s4_fI, s4_fL, s4_pI, s4_pL, s4_z0, s4_z1, s4_fR1, s41_a, s41_t, s41_n, s4_fR2, s42_a, s42_t, s42_n, s4_fR3, s43_a, s43_t, s43_n, s4_fR5, s45_a, s45_t, s45_n, s4_fR7, s47_a, s47_t, s47_n, s4_fR8, s48_a, s48_t, s48_n, s4_fR10, s410_a, s410_t, s410_n, s4_fR11, s411_a, s411_t, s411_n, s4_fR12, s412_a, s412_t, s412_n, s4_fR13, s413_a, s413_t, s413_n, fX6_settle, fX6_settle_b, j4, s4_nl hsJ, s4_lg hsJ, hl', e1]
        · rw [up_row (by omega)]; exact m1 b hb
        · rw [up_at]
          by_cases hj2 : j = H 2 - (q + 1)
          · rw [if_pos hj2]; exact (hS j (by omega)).symm
          · rw [if_neg hj2, m2 j hj]; exact g3 j hj2
        · rw [up_row (by omega), m3 j hj, x2]
        · rw [up_row (by omega), m4, x1]
        · rw [up_row z3]; exact m5 z z1 z2 z3 z4
    · have e : rs H B (q + 1) F w = none := fd_none.mpr (fun m hm => by
        cases e2 : (rP H B (q + 1) F m).isSome with
        | false => rfl
        | true => have := rP_uc (q + 1) F hF e2; omega)
      refine ⟨J, ?_, by rw [e]; exact ⟨j1, j2, j3, j4, j5⟩⟩
      simp (disch := first | assumption | omega | rfl) only [i_rem, i_pred, i_addn1, i_lit, i_n1, i_add, i_mul, i_sub, i_le, i_lt, i_eq, i_ne1, n1_ne, n1_lt, n1_le, i_lt1, i_le1, bd_s, nar_bi, nar_0, nar_1, if_pos, if_neg, ↓reduceIte, reduceCtorEq, eq_self, if_true, if_false, not_true_eq_false, not_false_eq_true, rm_k, rm_fI, rm_fL, rm_pI, rm_pL, rm_z0, rm_z1, rm_fR0, rm_fR1, rm1_a, rm1_t, rm1_n, rm_fR2, rm2_a, rm2_t, rm2_n, rm_fR3, rm3_a, rm3_t, rm3_n, s4_k, s4_fI, s4_fL, s4_pI, s4_pL, s4_z0, s4_z1, s4_fR1, s41_a, s41_t, s41_n, s4_fR2, s42_a, s42_t, s42_n, s4_fR3, s43_a, s43_t, s43_n, s4_fR5, s45_a, s45_t, s45_n, s4_fR7, s47_a, s47_t, s47_n, s4_fR8, s48_a, s48_t, s48_n, s4_fR10, s410_a, s410_t, s410_n, s4_fR11, s411_a, s411_t, s411_n, s4_fR12, s412_a, s412_t, s412_n, s4_fR13, s413_a, s413_t, s413_n, fX6_settle, fX6_settle_b, j4]
end
