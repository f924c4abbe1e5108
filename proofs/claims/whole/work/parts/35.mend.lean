/-! ===== BY HOW FEW STROKES ===== -/
theorem lp_wh {ρ : Type} {F : Nat → Int32 → Option ρ} {m : Nat} (x : ρ) (h2 : ∀ n k, k < m → F (n + 1) (i32 k) = F n (i32 (k + 1))) (h3 : ∀ n, F (n + 1) (i32 m) = some x) {n : Nat} (hn : m < n) : F n (i32 0) = some x :=
  lp_fo (F := fun n v (_ : Unit) => F n v) (m := m) (fun _ s => s) (fun _ => x) (fun n k _ hk => h2 n k hk) (fun n _ => h3 n) hn ()
def smN (H : Nat → Nat) (B : Nat → Int32) (l i : Nat) : Nat := fo (fun k s => if B (20 + (i + k)) = n1 then s + stN (sg H l k) else s) 0 (lg H l)
def ms2 (B : Nat → Int32) (i : Nat) : Nat → Bool := fun k => decide (B (20 + (i + k)) = n1)
def mT (H : Nat → Nat) (B : Nat → Int32) (l b p : Nat) (s : Option (Nat × Nat × Nat)) : Option (Nat × Nat × Nat) := if 100000 ≤ lak H B l (12 * b + p) then s else match s with
  | none => some (lak H B l (12 * b + p), b, p)
  | some x => if x.1 ≤ lak H B l (12 * b + p) then some x else some (lak H B l (12 * b + p), b, p)
def mR1 (H : Nat → Nat) (B : Nat → Int32) (l b : Nat) (s : Option (Nat × Nat × Nat)) (m : Nat) : Option (Nat × Nat × Nat) := fo (fun p s => mT H B l b p s) s m
def mRs (H : Nat → Nat) (B : Nat → Int32) (l m : Nat) : Option (Nat × Nat × Nat) := fo (fun b s => mR1 H B l b s (np H l b)) none m
def men (s : Option (Nat × Nat × Nat)) : Int32 := match s with
  | none => n1
  | some x => i32 x.1
def prd (H : Nat → Nat) (l b p b' p' : Nat) : Prop := (b' < b ∧ p' < np H l b') ∨ (b' = b ∧ p' < p)
def Iv (H : Nat → Nat) (B : Nat → Int32) (l b p : Nat) (s : Option (Nat × Nat × Nat)) : Prop := match s with
  | none => ∀ b' p', prd H l b p b' p' → 100000 ≤ lak H B l (12 * b' + p')
  | some x => prd H l b p x.2.1 x.2.2 ∧ lak H B l (12 * x.2.1 + x.2.2) = x.1 ∧ x.1 < 100000 ∧ (∀ b' p', prd H l b p b' p' → x.1 ≤ lak H B l (12 * b' + p')) ∧ ∀ b' p', prd H l b p b' p' → (b' < x.2.1 ∨ (b' = x.2.1 ∧ p' < x.2.2)) → x.1 < lak H B l (12 * b' + p')
section
variable {H : Nat → Nat} {B : Nat → Int32} {I : Nat → Nat → Int32} {L : Nat → Nat → Int64} {r : Bool} {N a : Nat}
theorem prd_s {l b p b' p' : Nat} : prd H l b (p + 1) b' p' ↔ prd H l b p b' p' ∨ (b' = b ∧ p' = p) := by
  unfold prd; omega
theorem Iv_s {l b p : Nat} {s : Option (Nat × Nat × Nat)} (h : Iv H B l b p s) : Iv H B l b (p + 1) (mT H B l b p s) := by
  unfold mT
  by_cases hc : 100000 ≤ lak H B l (12 * b + p)
  · rw [if_pos hc]
    cases s with
    | none =>
      intro b' p' hp
      rcases prd_s.mp hp with hp | ⟨rfl, rfl⟩
      · exact h b' p' hp
      · exact hc
    | some x =>
      obtain ⟨h1, h2, h3, h4, h5⟩ := h
      refine ⟨prd_s.mpr (Or.inl h1), h2, h3, fun b' p' hp => ?_, fun b' p' hp hq => ?_⟩
      · rcases prd_s.mp hp with hp | ⟨rfl, rfl⟩
        · exact h4 b' p' hp
        · omega
      · rcases prd_s.mp hp with hp | ⟨rfl, rfl⟩
        · exact h5 b' p' hp hq
        · omega
  · rw [if_neg hc]
    cases s with
    | none =>
      refine ⟨prd_s.mpr (Or.inr ⟨rfl, rfl⟩), rfl, by dsimp only; omega, fun b' p' hp => ?_, fun b' p' hp hq => ?_⟩
      · rcases prd_s.mp hp with hp | ⟨rfl, rfl⟩
        · have := h b' p' hp; dsimp only; omega
        · exact Nat.le_refl _
      · rcases prd_s.mp hp with hp | ⟨rfl, rfl⟩
        · have := h b' p' hp; dsimp only; omega
        · dsimp only at hq; omega
    | some x =>
      obtain ⟨h1, h2, h3, h4, h5⟩ := h
      dsimp only
      by_cases hx : x.1 ≤ lak H B l (12 * b + p)
      · rw [if_pos hx]
        refine ⟨prd_s.mpr (Or.inl h1), h2, h3, fun b' p' hp => ?_, fun b' p' hp hq => ?_⟩
        · rcases prd_s.mp hp with hp | ⟨rfl, rfl⟩
          · exact h4 b' p' hp
          · exact hx
        · rcases prd_s.mp hp with hp | ⟨rfl, rfl⟩
          · exact h5 b' p' hp hq
          · exfalso
            unfold prd at h1
            omega
      · rw [if_neg hx]
        refine ⟨prd_s.mpr (Or.inr ⟨rfl, rfl⟩), rfl, by dsimp only; omega, fun b' p' hp => ?_, fun b' p' hp hq => ?_⟩
        · rcases prd_s.mp hp with hp | ⟨rfl, rfl⟩
          · have := h4 b' p' hp; dsimp only; omega
          · exact Nat.le_refl _
        · rcases prd_s.mp hp with hp | ⟨rfl, rfl⟩
          · have := h4 b' p' hp; dsimp only; omega
          · dsimp only at hq; omega
theorem Iv_c {l b p b2 p2 : Nat} {s : Option (Nat × Nat × Nat)} (e : ∀ b' p', prd H l b2 p2 b' p' ↔ prd H l b p b' p') (h : Iv H B l b p s) : Iv H B l b2 p2 s := by
  cases s with
  | none => exact fun b' p' hp => h b' p' ((e _ _).mp hp)
  | some x =>
    obtain ⟨h1, h2, h3, h4, h5⟩ := h
    exact ⟨(e _ _).mpr h1, h2, h3, fun b' p' hp => h4 b' p' ((e _ _).mp hp), fun b' p' hp hq => h5 b' p' ((e _ _).mp hp) hq⟩
theorem Iv_r {l b : Nat} {s : Option (Nat × Nat × Nat)} (h : Iv H B l b 0 s) : ∀ m, Iv H B l b m (mR1 H B l b s m) := by
  intro m
  induction m with
  | zero => exact h
  | succ m ih => exact Iv_s ih
theorem Iv_a {l : Nat} : ∀ m, Iv H B l m 0 (mRs H B l m) := by
  intro m
  induction m with
  | zero =>
    intro b' p' hp
    unfold prd at hp
    omega
  | succ m ih =>
    refine Iv_c (b := m) (p := np H l m) (fun b' p' => ?_) (Iv_r ih (np H l m))
    unfold prd
    constructor
    · rintro (⟨h1, h2⟩ | h)
      · by_cases e : b' = m
        · subst e; exact Or.inr ⟨rfl, h2⟩
        · exact Or.inl ⟨by omega, h2⟩
      · omega
    · rintro (⟨h1, h2⟩ | ⟨rfl, h2⟩)
      · exact Or.inl ⟨by omega, h2⟩
      · exact Or.inl ⟨by omega, h2⟩
theorem smN_lk {l i : Nat} (h : nag H (fun q => B (20 + q)) l i = true) : smN H B l i = lak H B l i := by
  rw [lak, if_pos h, smN, lkS]
  have h1 := allb_iff.mp h
  refine fo_congr (fun k hk s => ?_)
  have s9 := sg_9 (H := H) (l := l) (k := k)
  rcases of_decide_eq_true (h1 k hk) with z | z
  · have z' : B (20 + (i + k)) = n1 := z
    rw [z', if_pos rfl, if_neg (by rw [n1_ne (by omega)]; exact id)]
  · have z' : B (20 + (i + k)) = i32 (sg H l k) := z
    rw [z', if_pos rfl, if_neg (by rw [i_ne1 (by omega)]; exact id)]
theorem c_strokesMissing (hN : 1200 < N) (hO : hOk H) (hs : RS 4 H I) (ha : isBe a = true) (hb : BR a B I) {l i : Nat} (hl : l < H 2) (hi : i + lg H l ≤ 72) : fX4_strokesMissing N 127 a (i32 l) (i32 i) (mk I L r) = some (i32 (smN H B l i), mk I L r) := by
  have o0 := hO.1; have o1 := hO.2.1; have o2 := hO.2.2.1; have o3 := hO.2.2.2.1; have o4 := hO.2.2.2.2.1; have o5 := hO.2.2.2.2.2.1; have lg2_l := lg_2 (H := H) (l := l); have lg3_l := lg_3 (H := H) (l := l)
  unfold fX4_strokesMissing
  simp only [i_lit]
  rw [lp_fo (F := fun n v s => fX4_strokesMissing_L6 N 127 a (i32 l) (i32 i) n (i32 s) v (mk I L r)) (m := lg H l) (fun k s => if B (20 + (i + k)) = n1 then s + stN (sg H l k) else s) (fun s => (i32 s, mk I L r)) ?_ ?_ (by omega) 0]
  · rfl
  · intro n k s hk
    have s9 := sg_9 (H := H) (l := l) (k := k)
    by_cases hc : B (20 + (i + k)) = n1
    · simp (disch := first | assumption | omega | rfl) only [i_rem, i_pred, i_addn1, i_lit, i_n1, i_add, i_mul, i_sub, i_le, i_lt, i_eq, i_ne1, n1_ne, n1_lt, n1_le, i_lt1, i_le1, bd_s, nar_bi, nar_0, nar_1, if_pos, if_neg, ↓reduceIte, reduceCtorEq, eq_self, if_true, if_false, not_true_eq_false, not_false_eq_true, me_k, me_fI, me_fL, me_pI, me_pL, me_z0, me_z1, me_fR0, be_k, be_fI, be_fL, be_pI, be_pL, be_z0, be_z1, be_fR0, be_fR1, be1_a, be1_t, be1_n, be_fR2, be2_a, be2_t, be2_n, be_fR3, be3_a, be3_t, be3_n, be_fR4, be4_a, be4_t, be4_n, be_fR5, be5_a, be5_t, be5_n, be_fR6, be6_a, be6_t, be6_n, be_fR7, be7_a, be7_t, be7_n, s4_k, s4_fI, s4_fL, s4_pI, s4_pL, s4_z0, s4_z1, s4_fR1, s41_a, s41_t, s41_n, s4_fR2, s42_a, s42_t, s42_n, s4_fR3, s43_a, s43_t, s43_n, s4_fR5, s45_a, s45_t, s45_n, s4_fR7, s47_a, s47_t, s47_n, s4_fR8, s48_a, s48_t, s48_n, s4_fR10, s410_a, s410_t, s410_n, s4_fR11, s411_a, s411_t, s411_n, s4_fR12, s412_a, s412_t, s412_n, s4_fR13, s413_a, s413_t, s413_n, fX4_strokesMissing_L6, s4_lg hs, be_mk hb, hc, c_lawSign hO hs, kS_k, stN_stk]
    · simp (disch := first | assumption | omega | rfl) only [i_rem, i_pred, i_addn1, i_lit, i_n1, i_add, i_mul, i_sub, i_le, i_lt, i_eq, i_ne1, n1_ne, n1_lt, n1_le, i_lt1, i_le1, bd_s, nar_bi, nar_0, nar_1, if_pos, if_neg, ↓reduceIte, reduceCtorEq, eq_self, if_true, if_false, not_true_eq_false, not_false_eq_true, me_k, me_fI, me_fL, me_pI, me_pL, me_z0, me_z1, me_fR0, be_k, be_fI, be_fL, be_pI, be_pL, be_z0, be_z1, be_fR0, be_fR1, be1_a, be1_t, be1_n, be_fR2, be2_a, be2_t, be2_n, be_fR3, be3_a, be3_t, be3_n, be_fR4, be4_a, be4_t, be4_n, be_fR5, be5_a, be5_t, be5_n, be_fR6, be6_a, be6_t, be6_n, be_fR7, be7_a, be7_t, be7_n, s4_k, s4_fI, s4_fL, s4_pI, s4_pL, s4_z0, s4_z1, s4_fR1, s41_a, s41_t, s41_n, s4_fR2, s42_a, s42_t, s42_n, s4_fR3, s43_a, s43_t, s43_n, s4_fR5, s45_a, s45_t, s45_n, s4_fR7, s47_a, s47_t, s47_n, s4_fR8, s48_a, s48_t, s48_n, s4_fR10, s410_a, s410_t, s410_n, s4_fR11, s411_a, s411_t, s411_n, s4_fR12, s412_a, s412_t, s412_n, s4_fR13, s413_a, s413_t, s413_n, fX4_strokesMissing_L6, s4_lg hs, be_mk hb, hc]
  · intro n s
    simp (disch := first | assumption | omega | rfl) only [i_rem, i_pred, i_addn1, i_lit, i_n1, i_add, i_mul, i_sub, i_le, i_lt, i_eq, i_ne1, n1_ne, n1_lt, n1_le, i_lt1, i_le1, bd_s, nar_bi, nar_0, nar_1, if_pos, if_neg, ↓reduceIte, reduceCtorEq, eq_self, if_true, if_false, not_true_eq_false, not_false_eq_true, me_k, me_fI, me_fL, me_pI, me_pL, me_z0, me_z1, me_fR0, be_k, be_fI, be_fL, be_pI, be_pL, be_z0, be_z1, be_fR0, be_fR1, be1_a, be1_t, be1_n, be_fR2, be2_a, be2_t, be2_n, be_fR3, be3_a, be3_t, be3_n, be_fR4, be4_a, be4_t, be4_n, be_fR5, be5_a, be5_t, be5_n, be_fR6, be6_a, be6_t, be6_n, be_fR7, be7_a, be7_t, be7_n, s4_k, s4_fI, s4_fL, s4_pI, s4_pL, s4_z0, s4_z1, s4_fR1, s41_a, s41_t, s41_n, s4_fR2, s42_a, s42_t, s42_n, s4_fR3, s43_a, s43_t, s43_n, s4_fR5, s45_a, s45_t, s45_n, s4_fR7, s47_a, s47_t, s47_n, s4_fR8, s48_a, s48_t, s48_n, s4_fR10, s410_a, s410_t, s410_n, s4_fR11, s411_a, s411_t, s411_n, s4_fR12, s412_a, s412_t, s412_n, s4_fR13, s413_a, s413_t, s413_n, fX4_strokesMissing_L6, s4_lg hs]
theorem c_signsMissing (hN : 1200 < N) (hO : hOk H) (hs : RS 4 H I) (ha : isBe a = true) (hb : BR a B I) {l i : Nat} (hl : l < H 2) (hi : i + lg H l ≤ 72) : fX4_signsMissing N 127 a (i32 l) (i32 i) (mk I L r) = some (bset (ms2 B i) (lg H l), mk I L r) := by
  have o0 := hO.1; have o1 := hO.2.1; have o2 := hO.2.2.1; have o3 := hO.2.2.2.1; have o4 := hO.2.2.2.2.1; have o5 := hO.2.2.2.2.2.1; have lg2_l := lg_2 (H := H) (l := l); have lg3_l := lg_3 (H := H) (l := l)
  unfold fX4_signsMissing
  simp only [i_lit]
  rw [lp_fo (F := fun n v s => fX4_signsMissing_L6 N 127 a (i32 l) (i32 i) n s v (mk I L r)) (m := lg H l) (fun k s => if ms2 B i k then s ||| (i32 1 <<< (i32 k &&& i32 31)) else s) (fun s => (s, mk I L r)) ?_ ?_ (by omega)]
  · rfl
  · intro n k s hk
    by_cases hc : B (20 + (i + k)) = n1
    · simp (disch := first | assumption | omega | rfl) only [i_rem, i_pred, i_addn1, i_lit, i_n1, i_add, i_mul, i_sub, i_le, i_lt, i_eq, i_ne1, n1_ne, n1_lt, n1_le, i_lt1, i_le1, bd_s, nar_bi, nar_0, nar_1, if_pos, if_neg, ↓reduceIte, reduceCtorEq, eq_self, if_true, if_false, not_true_eq_false, not_false_eq_true, me_k, me_fI, me_fL, me_pI, me_pL, me_z0, me_z1, me_fR0, be_k, be_fI, be_fL, be_pI, be_pL, be_z0, be_z1, be_fR0, be_fR1, be1_a, be1_t, be1_n, be_fR2, be2_a, be2_t, be2_n, be_fR3, be3_a, be3_t, be3_n, be_fR4, be4_a, be4_t, be4_n, be_fR5, be5_a, be5_t, be5_n, be_fR6, be6_a, be6_t, be6_n, be_fR7, be7_a, be7_t, be7_n, s4_k, s4_fI, s4_fL, s4_pI, s4_pL, s4_z0, s4_z1, s4_fR1, s41_a, s41_t, s41_n, s4_fR2, s42_a, s42_t, s42_n, s4_fR3, s43_a, s43_t, s43_n, s4_fR5, s45_a, s45_t, s45_n, s4_fR7, s47_a, s47_t, s47_n, s4_fR8, s48_a, s48_t, s48_n, s4_fR10, s410_a, s410_t, s410_n, s4_fR11, s411_a, s411_t, s411_n, s4_fR12, s412_a, s412_t, s412_n, s4_fR13, s413_a, s413_t, s413_n, fX4_signsMissing_L6, s4_lg hs, be_mk hb, hc, ms2, decide_true]
    · simp (disch := first | assumption | omega | rfl) only [i_rem, i_pred, i_addn1, i_lit, i_n1, i_add, i_mul, i_sub, i_le, i_lt, i_eq, i_ne1, n1_ne, n1_lt, n1_le, i_lt1, i_le1, bd_s, nar_bi, nar_0, nar_1, if_pos, if_neg, ↓reduceIte, reduceCtorEq, eq_self, if_true, if_false, not_true_eq_false, not_false_eq_true, me_k, me_fI, me_fL, me_pI, me_pL, me_z0, me_z1, me_fR0, be_k, be_fI, be_fL, be_pI, be_pL, be_z0, be_z1, be_fR0, be_fR1, be1_a, be1_t, be1_n, be_fR2, be2_a, be2_t, be2_n, be_fR3, be3_a, be3_t, be3_n, be_fR4, be4_a, be4_t, be4_n, be_fR5, be5_a, be5_t, be5_n, be_fR6, be6_a, be6_t, be6_n, be_fR7, be7_a, be7_t, be7_n, s4_k, s4_fI, s4_fL, s4_pI, s4_pL, s4_z0, s4_z1, s4_fR1, s41_a, s41_t, s41_n, s4_fR2, s42_a, s42_t, s42_n, s4_fR3, s43_a, s43_t, s43_n, s4_fR5, s45_a, s45_t, s45_n, s4_fR7, s47_a, s47_t, s47_n, s4_fR8, s48_a, s48_t, s48_n, s4_fR10, s410_a, s410_t, s410_n, s4_fR11, s411_a, s411_t, s411_n, s4_fR12, s412_a, s412_t, s412_n, s4_fR13, s413_a, s413_t, s413_n, fX4_signsMissing_L6, s4_lg hs, be_mk hb, hc, ms2, decide_false]
  · intro n s
    simp (disch := first | assumption | omega | rfl) only [i_rem, i_pred, i_addn1, i_lit, i_n1, i_add, i_mul, i_sub, i_le, i_lt, i_eq, i_ne1, n1_ne, n1_lt, n1_le, i_lt1, i_le1, bd_s, nar_bi, nar_0, nar_1, if_pos, if_neg, ↓reduceIte, reduceCtorEq, eq_self, if_true, if_false, not_true_eq_false, not_false_eq_true, me_k, me_fI, me_fL, me_pI, me_pL, me_z0, me_z1, me_fR0, be_k, be_fI, be_fL, be_pI, be_pL, be_z0, be_z1, be_fR0, be_fR1, be1_a, be1_t, be1_n, be_fR2, be2_a, be2_t, be2_n, be_fR3, be3_a, be3_t, be3_n, be_fR4, be4_a, be4_t, be4_n, be_fR5, be5_a, be5_t, be5_n, be_fR6, be6_a, be6_t, be6_n, be_fR7, be7_a, be7_t, be7_n, s4_k, s4_fI, s4_fL, s4_pI, s4_pL, s4_z0, s4_z1, s4_fR1, s41_a, s41_t, s41_n, s4_fR2, s42_a, s42_t, s42_n, s4_fR3, s43_a, s43_t, s43_n, s4_fR5, s45_a, s45_t, s45_n, s4_fR7, s47_a, s47_t, s47_n, s4_fR8, s48_a, s48_t, s48_n, s4_fR10, s410_a, s410_t, s410_n, s4_fR11, s411_a, s411_t, s411_n, s4_fR12, s412_a, s412_t, s412_n, s4_fR13, s413_a, s413_t, s413_n, fX4_signsMissing_L6, s4_lg hs]
def mJ (s : Option (Nat × Nat × Nat)) (I J : Nat → Nat → Int32) : Prop := (∀ q, q ≠ 127 → J q = I q) ∧ match s with
  | none => J = I
  | some x => J 127 1 = i32 x.2.1 ∧ J 127 2 = i32 x.2.2
theorem c_mend1 (hN : 1200 < N) (hO : hOk H) (hs : RS 4 H I) (ha : isBe a = true) (hb : BR a B I) {l b : Nat} (hl : l < H 2) (hbb : b < H 0) {s : Option (Nat × Nat × Nat)} (hs0 : ∀ x, s = some x → x.1 < 100000) {J : Nat → Nat → Int32} (hJ : mJ s I J) : ∃ K, fX4_fewestStrokes_L20 N 127 a (i32 l) (i32 b) N (men s) (i32 0) (mk J L r) = some (men (mR1 H B l b s (np H l b)), mk K L r) ∧ mJ (mR1 H B l b s (np H l b)) I K ∧ ∀ x, mR1 H B l b s (np H l b) = some x → x.1 < 100000 := by
  have o0 := hO.1; have o1 := hO.2.1; have o2 := hO.2.2.1; have o3 := hO.2.2.2.1; have o4 := hO.2.2.2.2.1; have o5 := hO.2.2.2.2.2.1; have lg2_l := lg_2 (H := H) (l := l); have lg3_l := lg_3 (H := H) (l := l); have wd_b := hO.2.2.2.2.2.2.1 b (by assumption)
  have hr2 := isBe_c ha
  have hnp := np_d (H := H) (l := l) (b := b)
  obtain ⟨t, e, g1, g2, g3⟩ := lp_st (F := fun n' v (t : Option (Nat × Nat × Nat) × (Nat → Nat → Int32)) => fX4_fewestStrokes_L20 N 127 a (i32 l) (i32 b) n' (men t.1) v (mk t.2 L r)) (m := np H l b) (fun k t => t.1 = mR1 H B l b s k ∧ mJ t.1 I t.2 ∧ ∀ x, t.1 = some x → x.1 < 100000) (fun t => (men t.1, mk t.2 L r)) (fun n' k t hk hT => by
    obtain ⟨c, K⟩ := t
    obtain ⟨h1, h2, h3⟩ := hT
    dsimp only at h1 h2 h3 ⊢
    have hsK : RS 4 H K := RS_of (fun q z1 z2 => h2.1 q (by omega)) hs
    have hbK : BR a B K := BR_of (fun q z1 z2 => h2.1 q (by omega)) hb
    have e1 := c_nothingAgainst (N := N) (L := L) (r := r) hN hO hsK (q := a + 1) (n := 72) (l := l) (i := 12 * b + k) (fun j hj => be1_a ha hj) hl (by omega)
    have e2 : nag H (K (a + 1)) l (12 * b + k) = nag H (fun q => B (20 + q)) l (12 * b + k) := nag_congr (fun j hj => be_mk hbK (by omega))
    rw [e2] at e1
    have e5 : mR1 H B l b s (k + 1) = mT H B l b k c := by rw [h1]; rfl
    cases hn : nag H (fun q => B (20 + q)) l (12 * b + k) with
    | false =>
      have hl0 : 100000 ≤ lak H B l (12 * b + k) := by
        rw [lak, hn]; exact Nat.le_refl _
      have e4 : mT H B l b k c = c := by unfold mT; rw [if_pos hl0]
      rw [hn] at e1
      refine ⟨(c, K), ?_, by rw [e5, e4], h2, h3⟩
      simp (disch := first | assumption | omega | rfl) only [i_rem, i_pred, i_addn1, i_lit, i_n1, i_add, i_mul, i_sub, i_le, i_lt, i_eq, i_ne1, n1_ne, n1_lt, n1_le, i_lt1, i_le1, bd_s, nar_bi, nar_0, nar_1, if_pos, if_neg, ↓reduceIte, reduceCtorEq, eq_self, if_true, if_false, not_true_eq_false, not_false_eq_true, me_k, me_fI, me_fL, me_pI, me_pL, me_z0, me_z1, me_fR0, be_k, be_fI, be_fL, be_pI, be_pL, be_z0, be_z1, be_fR0, be_fR1, be1_a, be1_t, be1_n, be_fR2, be2_a, be2_t, be2_n, be_fR3, be3_a, be3_t, be3_n, be_fR4, be4_a, be4_t, be4_n, be_fR5, be5_a, be5_t, be5_n, be_fR6, be6_a, be6_t, be6_n, be_fR7, be7_a, be7_t, be7_n, s4_k, s4_fI, s4_fL, s4_pI, s4_pL, s4_z0, s4_z1, s4_fR1, s41_a, s41_t, s41_n, s4_fR2, s42_a, s42_t, s42_n, s4_fR3, s43_a, s43_t, s43_n, s4_fR5, s45_a, s45_t, s45_n, s4_fR7, s47_a, s47_t, s47_n, s4_fR8, s48_a, s48_t, s48_n, s4_fR10, s410_a, s410_t, s410_n, s4_fR11, s411_a, s411_t, s411_n, s4_fR12, s412_a, s412_t, s412_n, s4_fR13, s413_a, s413_t, s413_n, fX4_fewestStrokes_L20, fX4_fewestStrokes_J83_20, s4_lg hsK, s4_wd hsK, c_placeIndex, e1, bi_z]
    | true =>
      have hl0 := lak_nag.mpr hn
      have e3 := c_strokesMissing (N := N) (L := L) (r := r) hN hO hsK ha hbK (i := 12 * b + k) hl (by omega)
      rw [smN_lk hn] at e3
      rw [hn] at e1
      have m2 : ∀ v, mJ (some (v, b, k)) I (up (up K 127 1 (i32 b)) 127 2 (i32 k)) := fun v => ⟨fun q hq => by rw [up_row hq, up_row hq]; exact h2.1 q hq, by simp (disch := omega) only [up_at, up_off, upL_at, upL_off, if_pos, if_neg, if_true, true_or, or_true, true_and, and_true], by simp (disch := omega) only [up_at, up_off, upL_at, upL_off, if_pos, if_neg, if_true, true_or, or_true, true_and, and_true]⟩
      cases hc : c with
      | none =>
        rw [hc] at e5
        have e4 : mT H B l b k none = some (lak H B l (12 * b + k), b, k) := by unfold mT; rw [if_neg (by omega)]
        refine ⟨(some (lak H B l (12 * b + k), b, k), up (up K 127 1 (i32 b)) 127 2 (i32 k)), ?_, by rw [e5, e4], m2 _, fun x hx => by cases hx; exact hl0⟩
        simp (disch := first | assumption | omega | rfl) only [i_rem, i_pred, i_addn1, i_lit, i_n1, i_add, i_mul, i_sub, i_le, i_lt, i_eq, i_ne1, n1_ne, n1_lt, n1_le, i_lt1, i_le1, bd_s, nar_bi, nar_0, nar_1, if_pos, if_neg, ↓reduceIte, reduceCtorEq, eq_self, if_true, if_false, not_true_eq_false, not_false_eq_true, me_k, me_fI, me_fL, me_pI, me_pL, me_z0, me_z1, me_fR0, be_k, be_fI, be_fL, be_pI, be_pL, be_z0, be_z1, be_fR0, be_fR1, be1_a, be1_t, be1_n, be_fR2, be2_a, be2_t, be2_n, be_fR3, be3_a, be3_t, be3_n, be_fR4, be4_a, be4_t, be4_n, be_fR5, be5_a, be5_t, be5_n, be_fR6, be6_a, be6_t, be6_n, be_fR7, be7_a, be7_t, be7_n, s4_k, s4_fI, s4_fL, s4_pI, s4_pL, s4_z0, s4_z1, s4_fR1, s41_a, s41_t, s41_n, s4_fR2, s42_a, s42_t, s42_n, s4_fR3, s43_a, s43_t, s43_n, s4_fR5, s45_a, s45_t, s45_n, s4_fR7, s47_a, s47_t, s47_n, s4_fR8, s48_a, s48_t, s48_n, s4_fR10, s410_a, s410_t, s410_n, s4_fR11, s411_a, s411_t, s411_n, s4_fR12, s412_a, s412_t, s412_n, s4_fR13, s413_a, s413_t, s413_n, fX4_fewestStrokes_L20, fX4_fewestStrokes_J83_20, fX4_fewestStrokes_J102_20, s4_lg hsK, s4_wd hsK, c_placeIndex, e1, bi_z, e3, men]
      | some x =>
        have hx := h3 x hc
        rw [hc] at e5
        by_cases hle : x.1 ≤ lak H B l (12 * b + k)
        · have e4 : mT H B l b k (some x) = some x := by
            unfold mT; rw [if_neg (by omega)]; dsimp only; rw [if_pos hle]
          refine ⟨(some x, K), ?_, by rw [e5, e4], by rw [hc] at h2; exact h2, fun y hy => by cases hy; exact hx⟩
          simp (disch := first | assumption | omega | rfl) only [i_rem, i_pred, i_addn1, i_lit, i_n1, i_add, i_mul, i_sub, i_le, i_lt, i_eq, i_ne1, n1_ne, n1_lt, n1_le, i_lt1, i_le1, bd_s, nar_bi, nar_0, nar_1, if_pos, if_neg, ↓reduceIte, reduceCtorEq, eq_self, if_true, if_false, not_true_eq_false, not_false_eq_true, me_k, me_fI, me_fL, me_pI, me_pL, me_z0, me_z1, me_fR0, be_k, be_fI, be_fL, be_pI, be_pL, be_z0, be_z1, be_fR0, be_fR1, be1_a, be1_t, be1_n, be_fR2, be2_a, be2_t, be2_n, be_fR3, be3_a, be3_t, be3_n, be_fR4, be4_a, be4_t, be4_n, be_fR5, be5_a, be5_t, be5_n, be_fR6, be6_a, be6_t, be6_n, be_fR7, be7_a, be7_t, be7_n, s4_k, s4_fI, s4_fL, s4_pI, s4_pL, s4_z0, s4_z1, s4_fR1, s41_a, s41_t, s41_n, s4_fR2, s42_a, s42_t, s42_n, s4_fR3, s43_a, s43_t, s43_n, s4_fR5, s45_a, s45_t, s45_n, s4_fR7, s47_a, s47_t, s47_n, s4_fR8, s48_a, s48_t, s48_n, s4_fR10, s410_a, s410_t, s410_n, s4_fR11, s411_a, s411_t, s411_n, s4_fR12, s412_a, s412_t, s412_n, s4_fR13, s413_a, s413_t, s413_n, fX4_fewestStrokes_L20, fX4_fewestStrokes_J83_20, fX4_fewestStrokes_J102_20, s4_lg hsK, s4_wd hsK, c_placeIndex, e1, bi_z, e3, men]
        · have e4 : mT H B l b k (some x) = some (lak H B l (12 * b + k), b, k) := by
            unfold mT; rw [if_neg (by omega)]; dsimp only; rw [if_neg hle]
          refine ⟨(some (lak H B l (12 * b + k), b, k), up (up K 127 1 (i32 b)) 127 2 (i32 k)), ?_, by rw [e5, e4], m2 _, fun y hy => by cases hy; exact hl0⟩
          simp (disch := first | assumption | omega | rfl) only [i_rem, i_pred, i_addn1, i_lit, i_n1, i_add, i_mul, i_sub, i_le, i_lt, i_eq, i_ne1, n1_ne, n1_lt, n1_le, i_lt1, i_le1, bd_s, nar_bi, nar_0, nar_1, if_pos, if_neg, ↓reduceIte, reduceCtorEq, eq_self, if_true, if_false, not_true_eq_false, not_false_eq_true, me_k, me_fI, me_fL, me_pI, me_pL, me_z0, me_z1, me_fR0, be_k, be_fI, be_fL, be_pI, be_pL, be_z0, be_z1, be_fR0, be_fR1, be1_a, be1_t, be1_n, be_fR2, be2_a, be2_t, be2_n, be_fR3, be3_a, be3_t, be3_n, be_fR4, be4_a, be4_t, be4_n, be_fR5, be5_a, be5_t, be5_n, be_fR6, be6_a, be6_t, be6_n, be_fR7, be7_a, be7_t, be7_n, s4_k, s4_fI, s4_fL, s4_pI, s4_pL, s4_z0, s4_z1, s4_fR1, s41_a, s41_t, s41_n, s4_fR2, s42_a, s42_t, s42_n, s4_fR3, s43_a, s43_t, s43_n, s4_fR5, s45_a, s45_t, s45_n, s4_fR7, s47_a, s47_t, s47_n, s4_fR8, s48_a, s48_t, s48_n, s4_fR10, s410_a, s410_t, s410_n, s4_fR11, s411_a, s411_t, s411_n, s4_fR12, s412_a, s412_t, s412_n, s4_fR13, s413_a, s413_t, s413_n, fX4_fewestStrokes_L20, fX4_fewestStrokes_J83_20, fX4_fewestStrokes_J102_20, s4_lg hsK, s4_wd hsK, c_placeIndex, e1, bi_z, e3, men]) (fun n' t hT => by
    obtain ⟨c, K⟩ := t
    obtain ⟨h1, h2, h3⟩ := hT
    dsimp only at h1 h2 h3 ⊢
    have hsK : RS 4 H K := RS_of (fun q z1 z2 => h2.1 q (by omega)) hs
    simp (disch := first | assumption | omega | rfl) only [i_rem, i_pred, i_addn1, i_lit, i_n1, i_add, i_mul, i_sub, i_le, i_lt, i_eq, i_ne1, n1_ne, n1_lt, n1_le, i_lt1, i_le1, bd_s, nar_bi, nar_0, nar_1, if_pos, if_neg, ↓reduceIte, reduceCtorEq, eq_self, if_true, if_false, not_true_eq_false, not_false_eq_true, me_k, me_fI, me_fL, me_pI, me_pL, me_z0, me_z1, me_fR0, be_k, be_fI, be_fL, be_pI, be_pL, be_z0, be_z1, be_fR0, be_fR1, be1_a, be1_t, be1_n, be_fR2, be2_a, be2_t, be2_n, be_fR3, be3_a, be3_t, be3_n, be_fR4, be4_a, be4_t, be4_n, be_fR5, be5_a, be5_t, be5_n, be_fR6, be6_a, be6_t, be6_n, be_fR7, be7_a, be7_t, be7_n, s4_k, s4_fI, s4_fL, s4_pI, s4_pL, s4_z0, s4_z1, s4_fR1, s41_a, s41_t, s41_n, s4_fR2, s42_a, s42_t, s42_n, s4_fR3, s43_a, s43_t, s43_n, s4_fR5, s45_a, s45_t, s45_n, s4_fR7, s47_a, s47_t, s47_n, s4_fR8, s48_a, s48_t, s48_n, s4_fR10, s410_a, s410_t, s410_n, s4_fR11, s411_a, s411_t, s411_n, s4_fR12, s412_a, s412_t, s412_n, s4_fR13, s413_a, s413_t, s413_n, fX4_fewestStrokes_L20, s4_lg hsK, s4_wd hsK]) (n := N) (by omega) (s := (s, J)) ⟨rfl, hJ, hs0⟩
  dsimp only at e
  rw [g1] at e g2 g3
  exact ⟨t.2, e, g2, g3⟩
theorem c_mendA (hN : 1200 < N) (hO : hOk H) (hs : RS 4 H I) (ha : isBe a = true) (hb : BR a B I) {l : Nat} (hl : l < H 2) : ∃ K, fX4_fewestStrokes_L5 N 127 a (i32 l) N n1 (i32 0) (mk I L r) = some (men (mRs H B l (H 0)), mk K L r) ∧ mJ (mRs H B l (H 0)) I K := by
  have o0 := hO.1; have o1 := hO.2.1; have o2 := hO.2.2.1; have o3 := hO.2.2.2.1; have o4 := hO.2.2.2.2.1; have o5 := hO.2.2.2.2.2.1
  obtain ⟨t, e, g1, g2, g3⟩ := lp_st (F := fun n' v (t : Option (Nat × Nat × Nat) × (Nat → Nat → Int32)) => fX4_fewestStrokes_L5 N 127 a (i32 l) n' (men t.1) v (mk t.2 L r)) (m := H 0) (fun k t => t.1 = mRs H B l k ∧ mJ t.1 I t.2 ∧ ∀ x, t.1 = some x → x.1 < 100000) (fun t => (men t.1, mk t.2 L r)) (fun n' k t hk hT => by
    obtain ⟨c, K⟩ := t
    obtain ⟨h1, h2, h3⟩ := hT
    dsimp only at h1 h2 h3 ⊢
    have hsK : RS 4 H K := RS_of (fun q z1 z2 => h2.1 q (by omega)) hs
    obtain ⟨K2, e1, g1, g2⟩ := c_mend1 (N := N) (L := L) (r := r) hN hO hs ha hb hl hk h3 h2
    refine ⟨(mR1 H B l k c (np H l k), K2), ?_, by rw [h1]; rfl, g1, g2⟩
    simp (disch := first | assumption | omega | rfl) only [i_rem, i_pred, i_addn1, i_lit, i_n1, i_add, i_mul, i_sub, i_le, i_lt, i_eq, i_ne1, n1_ne, n1_lt, n1_le, i_lt1, i_le1, bd_s, nar_bi, nar_0, nar_1, if_pos, if_neg, ↓reduceIte, reduceCtorEq, eq_self, if_true, if_false, not_true_eq_false, not_false_eq_true, me_k, me_fI, me_fL, me_pI, me_pL, me_z0, me_z1, me_fR0, be_k, be_fI, be_fL, be_pI, be_pL, be_z0, be_z1, be_fR0, be_fR1, be1_a, be1_t, be1_n, be_fR2, be2_a, be2_t, be2_n, be_fR3, be3_a, be3_t, be3_n, be_fR4, be4_a, be4_t, be4_n, be_fR5, be5_a, be5_t, be5_n, be_fR6, be6_a, be6_t, be6_n, be_fR7, be7_a, be7_t, be7_n, s4_k, s4_fI, s4_fL, s4_pI, s4_pL, s4_z0, s4_z1, s4_fR1, s41_a, s41_t, s41_n, s4_fR2, s42_a, s42_t, s42_n, s4_fR3, s43_a, s43_t, s43_n, s4_fR5, s45_a, s45_t, s45_n, s4_fR7, s47_a, s47_t, s47_n, s4_fR8, s48_a, s48_t, s48_n, s4_fR10, s410_a, s410_t, s410_n, s4_fR11, s411_a, s411_t, s411_n, s4_fR12, s412_a, s412_t, s412_n, s4_fR13, s413_a, s413_t, s413_n, fX4_fewestStrokes_L5, s4_nb hsK, e1]) (fun n' t hT => by
    obtain ⟨c, K⟩ := t
    obtain ⟨h1, h2, h3⟩ := hT
    dsimp only at h1 h2 h3 ⊢
    have hsK : RS 4 H K := RS_of (fun q z1 z2 => h2.1 q (by omega)) hs
    simp (disch := first | assumption | omega | rfl) only [i_rem, i_pred, i_addn1, i_lit, i_n1, i_add, i_mul, i_sub, i_le, i_lt, i_eq, i_ne1, n1_ne, n1_lt, n1_le, i_lt1, i_le1, bd_s, nar_bi, nar_0, nar_1, if_pos, if_neg, ↓reduceIte, reduceCtorEq, eq_self, if_true, if_false, not_true_eq_false, not_false_eq_true, me_k, me_fI, me_fL, me_pI, me_pL, me_z0, me_z1, me_fR0, be_k, be_fI, be_fL, be_pI, be_pL, be_z0, be_z1, be_fR0, be_fR1, be1_a, be1_t, be1_n, be_fR2, be2_a, be2_t, be2_n, be_fR3, be3_a, be3_t, be3_n, be_fR4, be4_a, be4_t, be4_n, be_fR5, be5_a, be5_t, be5_n, be_fR6, be6_a, be6_t, be6_n, be_fR7, be7_a, be7_t, be7_n, s4_k, s4_fI, s4_fL, s4_pI, s4_pL, s4_z0, s4_z1, s4_fR1, s41_a, s41_t, s41_n, s4_fR2, s42_a, s42_t, s42_n, s4_fR3, s43_a, s43_t, s43_n, s4_fR5, s45_a, s45_t, s45_n, s4_fR7, s47_a, s47_t, s47_n, s4_fR8, s48_a, s48_t, s48_n, s4_fR10, s410_a, s410_t, s410_n, s4_fR11, s411_a, s411_t, s411_n, s4_fR12, s412_a, s412_t, s412_n, s4_fR13, s413_a, s413_t, s413_n, fX4_fewestStrokes_L5, s4_nb hsK]) (n := N) (by omega) (s := (none, I)) ⟨rfl, ⟨fun _ _ => rfl, rfl⟩, fun x hx => by cases hx⟩
  dsimp only at e
  rw [g1] at e g2
  exact ⟨t.2, e, g2⟩
theorem Iv_np {l b p x : Nat} (h : Iv H B l (H 0) 0 (some (x, b, p))) : b < H 0 ∧ p < np H l b := by
  have := h.1
  unfold prd at this
  dsimp only at this
  omega
/-- the least of all -/
def mb (H : Nat → Nat) (B : Nat → Int32) (l : Nat) : Nat := fo (fun b s => if llk H B l b ≤ s then llk H B l b else s) 100000 (H 0)
theorem mb_le {l x : Nat} : mb H B l ≤ x ↔ 100000 ≤ x ∨ ∃ b, b < H 0 ∧ llk H B l b ≤ x := fo_min (f := fun b => llk H B l b) _ x
theorem mb_none {l : Nat} (h : Iv H B l (H 0) 0 none) : mb H B l = 100000 := by
  have h1 : mb H B l ≤ 100000 := mb_le.mpr (Or.inl (Nat.le_refl _))
  by_cases h2 : mb H B l ≤ 99999
  · rcases mb_le.mp h2 with z | ⟨b, hb, z⟩
    · omega
    · rcases llk_le.mp z with z | ⟨p, hp, z⟩
      · omega
      · have := h b p (Or.inl ⟨hb, hp⟩)
        omega
  · omega
theorem mb_some {l b p x : Nat} (h : Iv H B l (H 0) 0 (some (x, b, p))) : mb H B l = x ∧ llk H B l b = x ∧ (∀ k, k < b → ¬ llk H B l k = x) ∧ (∀ k, k < p → ¬ lak H B l (12 * b + k) = x) ∧ lak H B l (12 * b + p) = x ∧ x < 100000 := by
  obtain ⟨hb, hp⟩ := Iv_np h
  obtain ⟨h1, h2, h3, h4, h5⟩ := h
  dsimp only at h1 h2 h3 h4 h5
  have k1 : llk H B l b ≤ x := llk_le.mpr (Or.inr ⟨p, hp, by omega⟩)
  have k2 : mb H B l ≤ x := mb_le.mpr (Or.inr ⟨b, hb, k1⟩)
  have k3 : ∀ k y, k < H 0 → llk H B l k ≤ y → y < 100000 → ∃ q, q < np H l k ∧ lak H B l (12 * k + q) ≤ y := fun k y hk hy h0 => by
    rcases llk_le.mp hy with z | z
    · omega
    · exact z
  have k4 : ∀ k, k < H 0 → x ≤ llk H B l k := fun k hk => by
    by_cases hc : llk H B l k < x
    · obtain ⟨q, hq, z⟩ := k3 k _ hk (Nat.le_refl _) (by omega)
      have := h4 k q (Or.inl ⟨hk, hq⟩)
      omega
    · omega
  refine ⟨?_, by have := k4 b hb; omega, fun k hk e => ?_, fun k hk e => ?_, h2, h3⟩
  · by_cases hc : mb H B l < x
    · rcases mb_le.mp (Nat.le_refl (mb H B l)) with z | ⟨q, hq, z⟩
      · omega
      · have := k4 q hq; omega
    · omega
  · obtain ⟨q, hq, z⟩ := k3 k x (by omega) (by omega) h3
    have := h5 k q (Or.inl ⟨by omega, hq⟩) (Or.inl hk)
    omega
  · have := h5 b k (Or.inl ⟨hb, by omega⟩) (Or.inr ⟨rfl, hk⟩)
    omega
theorem m_mend20 (hN : 1200 < N) (hO : hOk H) (hm : MR H B I) {l : Nat} (hl : l < H 2) : fX11_mend_L20 N 186 (i32 l) N (i32 100000) (i32 0) (mk I L r) = some (i32 (mb H B l), mk I L r) := by
  have o0 := hO.1; have o1 := hO.2.1; have o2 := hO.2.2.1; have o3 := hO.2.2.2.1; have o4 := hO.2.2.2.2.1; have o5 := hO.2.2.2.2.2.1
  rw [lp_foJ (F := fun n v s => fX11_mend_L20 N 186 (i32 l) n (i32 s) v (mk I L r)) (m := H 0) (fun k s => s ≤ 100000) (fun b s => if llk H B l b ≤ s then llk H B l b else s) (fun s => (i32 s, mk I L r)) ?_ ?_ ?_ (by omega) 100000 (by omega)]
  · rfl
  · intro n k s hk hs
    have h1 := llk_100 (H := H) (B := B) (l := l) (b := k)
    simp (disch := first | assumption | omega | rfl) only [i_rem, i_pred, i_addn1, i_lit, i_n1, i_add, i_mul, i_sub, i_le, i_lt, i_eq, i_ne1, n1_ne, n1_lt, n1_le, i_lt1, i_le1, bd_s, nar_bi, nar_0, nar_1, if_pos, if_neg, ↓reduceIte, reduceCtorEq, eq_self, if_true, if_false, not_true_eq_false, not_false_eq_true, mo_k, mo_fI, mo_fL, mo_pI, mo_pL, mo_z0, mo_z1, mo_fR1, mo1_a, mo1_t, mo1_n, mo_fR14, mo14_a, mo14_t, mo14_n, mo_fR15, mo15_a, mo15_t, mo15_n, mo_fR16, mo16_a, mo16_t, mo16_n, mo_fR17, mo17_a, mo17_t, mo17_n, mo_fR18, mo18_a, mo18_t, mo18_n, mo_fR19, mo19_a, mo19_t, mo19_n, mo_fR20, mo20_a, mo20_t, mo20_n, mo_fR21, mo21_a, mo21_t, mo21_n, mo_fR22, mo22_a, mo22_t, mo22_n, mo_fR25, mo25_a, mo25_t, mo25_n, mo_fR26, mo26_a, mo26_t, mo26_n, mo_fR28, mo28_a, mo28_t, mo28_n, mo_fR29, mo29_a, mo29_t, mo29_n, mo_fR30, mo30_a, mo30_t, mo30_n, mo_fR33, mo33_a, mo33_t, mo33_n, mo_fR36, mo36_a, mo36_t, mo36_n, mo_fR37, mo37_a, mo37_t, mo37_n, mo_fR40, mo40_a, mo40_t, mo40_n, fX11_mend_L20, m_nb hm, m_leastLacks hN hO hm, m_least]
  · intro k s hk hs
    have h1 := llk_100 (H := H) (B := B) (l := l) (b := k)
    show (if _ then _ else _) ≤ _
    split <;> omega
  · intro n s hs
    simp (disch := first | assumption | omega | rfl) only [i_rem, i_pred, i_addn1, i_lit, i_n1, i_add, i_mul, i_sub, i_le, i_lt, i_eq, i_ne1, n1_ne, n1_lt, n1_le, i_lt1, i_le1, bd_s, nar_bi, nar_0, nar_1, if_pos, if_neg, ↓reduceIte, reduceCtorEq, eq_self, if_true, if_false, not_true_eq_false, not_false_eq_true, mo_k, mo_fI, mo_fL, mo_pI, mo_pL, mo_z0, mo_z1, mo_fR1, mo1_a, mo1_t, mo1_n, mo_fR14, mo14_a, mo14_t, mo14_n, mo_fR15, mo15_a, mo15_t, mo15_n, mo_fR16, mo16_a, mo16_t, mo16_n, mo_fR17, mo17_a, mo17_t, mo17_n, mo_fR18, mo18_a, mo18_t, mo18_n, mo_fR19, mo19_a, mo19_t, mo19_n, mo_fR20, mo20_a, mo20_t, mo20_n, mo_fR21, mo21_a, mo21_t, mo21_n, mo_fR22, mo22_a, mo22_t, mo22_n, mo_fR25, mo25_a, mo25_t, mo25_n, mo_fR26, mo26_a, mo26_t, mo26_n, mo_fR28, mo28_a, mo28_t, mo28_n, mo_fR29, mo29_a, mo29_t, mo29_n, mo_fR30, mo30_a, mo30_t, mo30_n, mo_fR33, mo33_a, mo33_t, mo33_n, mo_fR36, mo36_a, mo36_t, mo36_n, mo_fR37, mo37_a, mo37_t, mo37_n, mo_fR40, mo40_a, mo40_t, mo40_n, fX11_mend_L20, m_nb hm]
theorem m_mend119 (hN : 1200 < N) (hO : hOk H) (hm : MR H B I) {l b p : Nat} {v2 : Int32} (hl : l < H 2) (hbb : b < H 0) (hp : p < np H l b) (h0 : I 198 2 = i32 0) : ∃ J, fX11_mend_L119 N 186 (i32 l) v2 (i32 b) (i32 p) N (i32 0) (mk I L r) = some (mk J L r) ∧ J 198 2 = bset (ms2 B (12 * b + p)) (lg H l) ∧ (∀ k, k ≠ 2 → J 198 k = I 198 k) ∧ ∀ q, q ≠ 198 → J q = I q := by
  have o0 := hO.1; have o1 := hO.2.1; have o2 := hO.2.2.1; have o3 := hO.2.2.2.1; have o4 := hO.2.2.2.2.1; have o5 := hO.2.2.2.2.2.1; have lg2_l := lg_2 (H := H) (l := l); have lg3_l := lg_3 (H := H) (l := l); have wd_b := hO.2.2.2.2.2.2.1 b (by assumption)
  have hnp := np_d (H := H) (l := l) (b := b)
  obtain ⟨J, e, g1, g2, g3⟩ := lp_st (F := fun n' v J => fX11_mend_L119 N 186 (i32 l) v2 (i32 b) (i32 p) n' v (mk J L r)) (m := lg H l) (fun k J => J 198 2 = bset (ms2 B (12 * b + p)) k ∧ (∀ j, j ≠ 2 → J 198 j = I 198 j) ∧ ∀ q, q ≠ 198 → J q = I q) (fun J => mk J L r) (fun n' k J hk hT => by
    obtain ⟨h1, h2, h3⟩ := hT
    have hmJ : MR H B J := by unfold MR; rw [h3 188 (by omega)]; exact hm
    have e0 : B (20 + (12 * b + (p + k))) = B (20 + (12 * b + p + k)) := by rw [Nat.add_assoc (12 * b)]
    by_cases hc : B (20 + (12 * b + p + k)) = n1
    · refine ⟨up J 198 2 (bset (ms2 B (12 * b + p)) k ||| (i32 1 <<< (i32 k &&& i32 31))), ?_, ?_, fun j hj => ?_, fun q hq => ?_⟩
      · simp (disch := first | assumption | omega | rfl) only [i_rem, i_pred, i_addn1, i_lit, i_n1, i_add, i_mul, i_sub, i_le, i_lt, i_eq, i_ne1, n1_ne, n1_lt, n1_le, i_lt1, i_le1, bd_s, nar_bi, nar_0, nar_1, if_pos, if_neg, ↓reduceIte, reduceCtorEq, eq_self, if_true, if_false, not_true_eq_false, not_false_eq_true, mo_k, mo_fI, mo_fL, mo_pI, mo_pL, mo_z0, mo_z1, mo_fR1, mo1_a, mo1_t, mo1_n, mo_fR14, mo14_a, mo14_t, mo14_n, mo_fR15, mo15_a, mo15_t, mo15_n, mo_fR16, mo16_a, mo16_t, mo16_n, mo_fR17, mo17_a, mo17_t, mo17_n, mo_fR18, mo18_a, mo18_t, mo18_n, mo_fR19, mo19_a, mo19_t, mo19_n, mo_fR20, mo20_a, mo20_t, mo20_n, mo_fR21, mo21_a, mo21_t, mo21_n, mo_fR22, mo22_a, mo22_t, mo22_n, mo_fR25, mo25_a, mo25_t, mo25_n, mo_fR26, mo26_a, mo26_t, mo26_n, mo_fR28, mo28_a, mo28_t, mo28_n, mo_fR29, mo29_a, mo29_t, mo29_n, mo_fR30, mo30_a, mo30_t, mo30_n, mo_fR33, mo33_a, mo33_t, mo33_n, mo_fR36, mo36_a, mo36_t, mo36_n, mo_fR37, mo37_a, mo37_t, mo37_n, mo_fR40, mo40_a, mo40_t, mo40_n, fX11_mend_L119, m_longOf hO hmJ, m_signAt hmJ, e0, hc, h1]
      · rw [up_self, bset_s, ms2, decide_eq_true hc]; rfl
      · rw [up_ofk hj]; exact h2 j hj
      · rw [up_row hq]; exact h3 q hq
    · refine ⟨J, ?_, ?_, h2, h3⟩
      · simp (disch := first | assumption | omega | rfl) only [i_rem, i_pred, i_addn1, i_lit, i_n1, i_add, i_mul, i_sub, i_le, i_lt, i_eq, i_ne1, n1_ne, n1_lt, n1_le, i_lt1, i_le1, bd_s, nar_bi, nar_0, nar_1, if_pos, if_neg, ↓reduceIte, reduceCtorEq, eq_self, if_true, if_false, not_true_eq_false, not_false_eq_true, mo_k, mo_fI, mo_fL, mo_pI, mo_pL, mo_z0, mo_z1, mo_fR1, mo1_a, mo1_t, mo1_n, mo_fR14, mo14_a, mo14_t, mo14_n, mo_fR15, mo15_a, mo15_t, mo15_n, mo_fR16, mo16_a, mo16_t, mo16_n, mo_fR17, mo17_a, mo17_t, mo17_n, mo_fR18, mo18_a, mo18_t, mo18_n, mo_fR19, mo19_a, mo19_t, mo19_n, mo_fR20, mo20_a, mo20_t, mo20_n, mo_fR21, mo21_a, mo21_t, mo21_n, mo_fR22, mo22_a, mo22_t, mo22_n, mo_fR25, mo25_a, mo25_t, mo25_n, mo_fR26, mo26_a, mo26_t, mo26_n, mo_fR28, mo28_a, mo28_t, mo28_n, mo_fR29, mo29_a, mo29_t, mo29_n, mo_fR30, mo30_a, mo30_t, mo30_n, mo_fR33, mo33_a, mo33_t, mo33_n, mo_fR36, mo36_a, mo36_t, mo36_n, mo_fR37, mo37_a, mo37_t, mo37_n, mo_fR40, mo40_a, mo40_t, mo40_n, fX11_mend_L119, m_longOf hO hmJ, m_signAt hmJ, e0, hc]
      · rw [h1, bset_s, ms2, decide_eq_false hc]; rfl) (fun n' J hT => by
    obtain ⟨h1, h2, h3⟩ := hT
    have hmJ : MR H B J := by unfold MR; rw [h3 188 (by omega)]; exact hm
    simp (disch := first | assumption | omega | rfl) only [i_rem, i_pred, i_addn1, i_lit, i_n1, i_add, i_mul, i_sub, i_le, i_lt, i_eq, i_ne1, n1_ne, n1_lt, n1_le, i_lt1, i_le1, bd_s, nar_bi, nar_0, nar_1, if_pos, if_neg, ↓reduceIte, reduceCtorEq, eq_self, if_true, if_false, not_true_eq_false, not_false_eq_true, mo_k, mo_fI, mo_fL, mo_pI, mo_pL, mo_z0, mo_z1, mo_fR1, mo1_a, mo1_t, mo1_n, mo_fR14, mo14_a, mo14_t, mo14_n, mo_fR15, mo15_a, mo15_t, mo15_n, mo_fR16, mo16_a, mo16_t, mo16_n, mo_fR17, mo17_a, mo17_t, mo17_n, mo_fR18, mo18_a, mo18_t, mo18_n, mo_fR19, mo19_a, mo19_t, mo19_n, mo_fR20, mo20_a, mo20_t, mo20_n, mo_fR21, mo21_a, mo21_t, mo21_n, mo_fR22, mo22_a, mo22_t, mo22_n, mo_fR25, mo25_a, mo25_t, mo25_n, mo_fR26, mo26_a, mo26_t, mo26_n, mo_fR28, mo28_a, mo28_t, mo28_n, mo_fR29, mo29_a, mo29_t, mo29_n, mo_fR30, mo30_a, mo30_t, mo30_n, mo_fR33, mo33_a, mo33_t, mo33_n, mo_fR36, mo36_a, mo36_t, mo36_n, mo_fR37, mo37_a, mo37_t, mo37_n, mo_fR40, mo40_a, mo40_t, mo40_n, fX11_mend_L119, m_longOf hO hmJ]) (n := N) (by omega) (s := I) ⟨h0, fun _ _ => rfl, fun _ _ => rfl⟩
  exact ⟨J, e, g1, g2, g3⟩
end
section
variable {I : Nat → Nat → Int32} {L : Nat → Nat → Int64} {r : Bool} {N : Nat}
theorem q_mend (hN : 1200 < N) (h : Ok I L) {u : Int32} : Step2 (fX10_mend N 0 u) (fX11_mend N 186 u) I L r := by
  obtain ⟨⟨H, W, B, D⟩, G, s, P, n, T, f, E, hC, hM, hI⟩ := h
  have hO : hOk H := hI.1.1
  have hB : bOk H B := hI.1.2.2
  have hs : RS 4 H I := hC.1.1
  have hb : BR 26 B I := hC.1.2.2.1
  have hm : MR H B (up I 186 0 (i32 0)) := WM_R (WM_t hM)
  have ha : isBe 26 = true := rfl
  have o0 := hO.1; have o1 := hO.2.1; have o2 := hO.2.2.1; have o3 := hO.2.2.2.1; have o4 := hO.2.2.2.2.1; have o5 := hO.2.2.2.2.2.1
  rcases i_in u (n := H 2) (by omega) with ⟨l, hl, rfl⟩ | hu
  · have lg2_l := lg_2 (H := H) (l := l); have lg3_l := lg_3 (H := H) (l := l)
    obtain ⟨K, e1, g1, g2⟩ := c_mendA (N := N) (L := L) (r := r) hN hO hs ha hb hl
    have hIv := Iv_a (H := H) (B := B) (l := l) (H 0)
    cases hS : mRs H B l (H 0) with
    | none =>
      rw [hS] at e1 g2 hIv
      have g2' : K = I := g2
      subst g2'
      have e2 := m_mend20 (N := N) (L := L) (r := r) hN hO hm hl
      rw [mb_none hIv] at e2
      refine Step_q (x := n1) (v := i32 0) ⟨hC, hM, hI⟩ ?_ ?_
      · unfold fX10_mend fX4_fewestStrokes
        simp (disch := first | assumption | omega | rfl) only [i_rem, i_pred, i_addn1, i_lit, i_n1, i_add, i_mul, i_sub, i_le, i_lt, i_eq, i_ne1, n1_ne, n1_lt, n1_le, i_lt1, i_le1, bd_s, nar_bi, nar_0, nar_1, if_pos, if_neg, ↓reduceIte, reduceCtorEq, eq_self, if_true, if_false, not_true_eq_false, not_false_eq_true, x0_k, x0_fI, x0_fL, x0_pI, x0_pL, x0_z0, x0_z1, x0_fR0, x0_fR1, x0_fR2, x0_fR3, x0_fR4, x0_fR5, x0_fR6, x0_fR7, x0_fR8, x0_fR9, x0_fR10, x0_fR11, x0_fR12, x0_fR13, x013_a, x013_t, x013_n, x0_fR15, x0_fR16, x0_fR17, x0_fR18, x018_a, x018_t, x018_n, s4_k, s4_fI, s4_fL, s4_pI, s4_pL, s4_z0, s4_z1, s4_fR1, s41_a, s41_t, s41_n, s4_fR2, s42_a, s42_t, s42_n, s4_fR3, s43_a, s43_t, s43_n, s4_fR5, s45_a, s45_t, s45_n, s4_fR7, s47_a, s47_t, s47_n, s4_fR8, s48_a, s48_t, s48_n, s4_fR10, s410_a, s410_t, s410_n, s4_fR11, s411_a, s411_t, s411_n, s4_fR12, s412_a, s412_t, s412_n, s4_fR13, s413_a, s413_t, s413_n, me_k, me_fI, me_fL, me_pI, me_pL, me_z0, me_z1, me_fR0, c_hasLaw hO hs, hl, decide_true, bi_z, e1, men]
      · unfold fX11_mend
        simp (disch := first | assumption | omega | rfl) only [i_rem, i_pred, i_addn1, i_lit, i_n1, i_add, i_mul, i_sub, i_le, i_lt, i_eq, i_ne1, n1_ne, n1_lt, n1_le, i_lt1, i_le1, bd_s, nar_bi, nar_0, nar_1, if_pos, if_neg, ↓reduceIte, reduceCtorEq, eq_self, if_true, if_false, not_true_eq_false, not_false_eq_true, mo_k, mo_fI, mo_fL, mo_pI, mo_pL, mo_z0, mo_z1, mo_fR1, mo1_a, mo1_t, mo1_n, mo_fR14, mo14_a, mo14_t, mo14_n, mo_fR15, mo15_a, mo15_t, mo15_n, mo_fR16, mo16_a, mo16_t, mo16_n, mo_fR17, mo17_a, mo17_t, mo17_n, mo_fR18, mo18_a, mo18_t, mo18_n, mo_fR19, mo19_a, mo19_t, mo19_n, mo_fR20, mo20_a, mo20_t, mo20_n, mo_fR21, mo21_a, mo21_t, mo21_n, mo_fR22, mo22_a, mo22_t, mo22_n, mo_fR25, mo25_a, mo25_t, mo25_n, mo_fR26, mo26_a, mo26_t, mo26_n, mo_fR28, mo28_a, mo28_t, mo28_n, mo_fR29, mo29_a, mo29_t, mo29_n, mo_fR30, mo30_a, mo30_t, mo30_n, mo_fR33, mo33_a, mo33_t, mo33_n, mo_fR36, mo36_a, mo36_t, mo36_n, mo_fR37, mo37_a, mo37_t, mo37_n, mo_fR40, mo40_a, mo40_t, mo40_n, m_isLaw hO hm, hl, decide_true, bi_z, e2]
    | some t =>
      obtain ⟨x, b, p⟩ := t
      rw [hS] at e1 g2 hIv
      obtain ⟨k1, k2⟩ : K 127 1 = i32 b ∧ K 127 2 = i32 p := g2
      obtain ⟨hbb, hp⟩ := Iv_np hIv
      have wd_b := hO.2.2.2.2.2.2.1 b (by assumption)
      have hnp := np_d (H := H) (l := l) (b := b)
      obtain ⟨m1, m2, m3, m4, m5, m6⟩ := mb_some hIv
      have hsK : RS 4 H K := RS_of (fun q z1 z2 => g1 q (by omega)) hs
      have hbK : BR 26 B K := BR_of (fun q z1 z2 => g1 q (by omega)) hb
      have e2 := c_signsMissing (N := N) (L := L) (r := r) hN hO hsK ha hbK (i := 12 * b + p) hl (by omega)
      have fr : ∀ q, q ≠ 127 → up K 127 3 (bset (ms2 B (12 * b + p)) (lg H l)) q = I q := fun q hq => by rw [up_row hq]; exact g1 q hq
      have hM2 := WM_c (J := up K 127 3 (bset (ms2 B (12 * b + p)) (lg H l))) (K := L) (fun q hq => fr q (by omega)) (fun _ _ _ => rfl) hM
      have hM3 := WM_t (v := i32 0) hM2
      have hm2 := WM_R hM3
      generalize hZ : up K 127 3 (bset (ms2 B (12 * b + p)) (lg H l)) = Z at fr hM2 hM3 hm2
      have e3 := m_mend20 (N := N) (L := L) (r := r) hN hO hm2 hl
      rw [m1] at e3
      have e4 : fX11_mend_L57 N 186 (i32 l) (i32 x) N (i32 0) (mk (up Z 186 0 (i32 0)) L r) = some (i32 b, mk (up Z 186 0 (i32 0)) L r) := lp_wh (F := fun n v => fX11_mend_L57 N 186 (i32 l) (i32 x) n v (mk (up Z 186 0 (i32 0)) L r)) (m := b) _ (fun n k hk => by
          have h1 := llk_100 (H := H) (B := B) (l := l) (b := k)
          have h2 := m3 k hk
          simp (disch := first | assumption | omega | rfl) only [i_rem, i_pred, i_addn1, i_lit, i_n1, i_add, i_mul, i_sub, i_le, i_lt, i_eq, i_ne1, n1_ne, n1_lt, n1_le, i_lt1, i_le1, bd_s, nar_bi, nar_0, nar_1, if_pos, if_neg, ↓reduceIte, reduceCtorEq, eq_self, if_true, if_false, not_true_eq_false, not_false_eq_true, mo_k, mo_fI, mo_fL, mo_pI, mo_pL, mo_z0, mo_z1, mo_fR1, mo1_a, mo1_t, mo1_n, mo_fR14, mo14_a, mo14_t, mo14_n, mo_fR15, mo15_a, mo15_t, mo15_n, mo_fR16, mo16_a, mo16_t, mo16_n, mo_fR17, mo17_a, mo17_t, mo17_n, mo_fR18, mo18_a, mo18_t, mo18_n, mo_fR19, mo19_a, mo19_t, mo19_n, mo_fR20, mo20_a, mo20_t, mo20_n, mo_fR21, mo21_a, mo21_t, mo21_n, mo_fR22, mo22_a, mo22_t, mo22_n, mo_fR25, mo25_a, mo25_t, mo25_n, mo_fR26, mo26_a, mo26_t, mo26_n, mo_fR28, mo28_a, mo28_t, mo28_n, mo_fR29, mo29_a, mo29_t, mo29_n, mo_fR30, mo30_a, mo30_t, mo30_n, mo_fR33, mo33_a, mo33_t, mo33_n, mo_fR36, mo36_a, mo36_t, mo36_n, mo_fR37, mo37_a, mo37_t, mo37_n, mo_fR40, mo40_a, mo40_t, mo40_n, fX11_mend_L57, m_leastLacks hN hO hm2]) (fun n => by
          simp (disch := first | assumption | omega | rfl) only [i_rem, i_pred, i_addn1, i_lit, i_n1, i_add, i_mul, i_sub, i_le, i_lt, i_eq, i_ne1, n1_ne, n1_lt, n1_le, i_lt1, i_le1, bd_s, nar_bi, nar_0, nar_1, if_pos, if_neg, ↓reduceIte, reduceCtorEq, eq_self, if_true, if_false, not_true_eq_false, not_false_eq_true, mo_k, mo_fI, mo_fL, mo_pI, mo_pL, mo_z0, mo_z1, mo_fR1, mo1_a, mo1_t, mo1_n, mo_fR14, mo14_a, mo14_t, mo14_n, mo_fR15, mo15_a, mo15_t, mo15_n, mo_fR16, mo16_a, mo16_t, mo16_n, mo_fR17, mo17_a, mo17_t, mo17_n, mo_fR18, mo18_a, mo18_t, mo18_n, mo_fR19, mo19_a, mo19_t, mo19_n, mo_fR20, mo20_a, mo20_t, mo20_n, mo_fR21, mo21_a, mo21_t, mo21_n, mo_fR22, mo22_a, mo22_t, mo22_n, mo_fR25, mo25_a, mo25_t, mo25_n, mo_fR26, mo26_a, mo26_t, mo26_n, mo_fR28, mo28_a, mo28_t, mo28_n, mo_fR29, mo29_a, mo29_t, mo29_n, mo_fR30, mo30_a, mo30_t, mo30_n, mo_fR33, mo33_a, mo33_t, mo33_n, mo_fR36, mo36_a, mo36_t, mo36_n, mo_fR37, mo37_a, mo37_t, mo37_n, mo_fR40, mo40_a, mo40_t, mo40_n, fX11_mend_L57, m_leastLacks hN hO hm2, m2]) (by omega)
      have e5 : fX11_mend_L76 N 186 (i32 l) (i32 x) (i32 b) N (i32 0) (mk (up Z 186 0 (i32 0)) L r) = some (i32 p, mk (up Z 186 0 (i32 0)) L r) := lp_wh (F := fun n v => fX11_mend_L76 N 186 (i32 l) (i32 x) (i32 b) n v (mk (up Z 186 0 (i32 0)) L r)) (m := p) _ (fun n k hk => by
          have h1 := lak_le (H := H) (B := B) (l := l) (i := 12 * b + k)
          have h2 := m4 k hk
          simp (disch := first | assumption | omega | rfl) only [i_rem, i_pred, i_addn1, i_lit, i_n1, i_add, i_mul, i_sub, i_le, i_lt, i_eq, i_ne1, n1_ne, n1_lt, n1_le, i_lt1, i_le1, bd_s, nar_bi, nar_0, nar_1, if_pos, if_neg, ↓reduceIte, reduceCtorEq, eq_self, if_true, if_false, not_true_eq_false, not_false_eq_true, mo_k, mo_fI, mo_fL, mo_pI, mo_pL, mo_z0, mo_z1, mo_fR1, mo1_a, mo1_t, mo1_n, mo_fR14, mo14_a, mo14_t, mo14_n, mo_fR15, mo15_a, mo15_t, mo15_n, mo_fR16, mo16_a, mo16_t, mo16_n, mo_fR17, mo17_a, mo17_t, mo17_n, mo_fR18, mo18_a, mo18_t, mo18_n, mo_fR19, mo19_a, mo19_t, mo19_n, mo_fR20, mo20_a, mo20_t, mo20_n, mo_fR21, mo21_a, mo21_t, mo21_n, mo_fR22, mo22_a, mo22_t, mo22_n, mo_fR25, mo25_a, mo25_t, mo25_n, mo_fR26, mo26_a, mo26_t, mo26_n, mo_fR28, mo28_a, mo28_t, mo28_n, mo_fR29, mo29_a, mo29_t, mo29_n, mo_fR30, mo30_a, mo30_t, mo30_n, mo_fR33, mo33_a, mo33_t, mo33_n, mo_fR36, mo36_a, mo36_t, mo36_n, mo_fR37, mo37_a, mo37_t, mo37_n, mo_fR40, mo40_a, mo40_t, mo40_n, fX11_mend_L76, m_lacks hN hO hm2]) (fun n => by
          simp (disch := first | assumption | omega | rfl) only [i_rem, i_pred, i_addn1, i_lit, i_n1, i_add, i_mul, i_sub, i_le, i_lt, i_eq, i_ne1, n1_ne, n1_lt, n1_le, i_lt1, i_le1, bd_s, nar_bi, nar_0, nar_1, if_pos, if_neg, ↓reduceIte, reduceCtorEq, eq_self, if_true, if_false, not_true_eq_false, not_false_eq_true, mo_k, mo_fI, mo_fL, mo_pI, mo_pL, mo_z0, mo_z1, mo_fR1, mo1_a, mo1_t, mo1_n, mo_fR14, mo14_a, mo14_t, mo14_n, mo_fR15, mo15_a, mo15_t, mo15_n, mo_fR16, mo16_a, mo16_t, mo16_n, mo_fR17, mo17_a, mo17_t, mo17_n, mo_fR18, mo18_a, mo18_t, mo18_n, mo_fR19, mo19_a, mo19_t, mo19_n, mo_fR20, mo20_a, mo20_t, mo20_n, mo_fR21, mo21_a, mo21_t, mo21_n, mo_fR22, mo22_a, mo22_t, mo22_n, mo_fR25, mo25_a, mo25_t, mo25_n, mo_fR26, mo26_a, mo26_t, mo26_n, mo_fR28, mo28_a, mo28_t, mo28_n, mo_fR29, mo29_a, mo29_t, mo29_n, mo_fR30, mo30_a, mo30_t, mo30_n, mo_fR33, mo33_a, mo33_t, mo33_n, mo_fR36, mo36_a, mo36_t, mo36_n, mo_fR37, mo37_a, mo37_t, mo37_n, mo_fR40, mo40_a, mo40_t, mo40_n, fX11_mend_L76, m_lacks hN hO hm2, m5]) (by omega)
      have hm3 : MR H B (up (up (up (up Z 186 0 (i32 0)) 198 0 (i32 b)) 198 1 (i32 p)) 198 2 (i32 0)) := by
        unfold MR; rw [up_row (by omega), up_row (by omega), up_row (by omega)]; exact hm2
      obtain ⟨J, e6, q1, q2, q3⟩ := m_mend119 (N := N) (L := L) (r := r) (v2 := i32 x) hN hO hm3 hl hbb hp up_self
      refine ⟨i32 x, Z, L, r, up J 186 27 (i32 1), L, ?_, ?_, (H, W, B, D), G, s, P, n, T, f, (fun k => if k = 0 then i32 b else if k = 1 then i32 p else bset (ms2 B (12 * b + p)) (lg H l), E.2), ?_, ?_, hI⟩
      · unfold fX10_mend fX4_fewestStrokes
        simp (disch := first | assumption | omega | rfl) only [i_rem, i_pred, i_addn1, i_lit, i_n1, i_add, i_mul, i_sub, i_le, i_lt, i_eq, i_ne1, n1_ne, n1_lt, n1_le, i_lt1, i_le1, bd_s, nar_bi, nar_0, nar_1, if_pos, if_neg, ↓reduceIte, reduceCtorEq, eq_self, if_true, if_false, not_true_eq_false, not_false_eq_true, x0_k, x0_fI, x0_fL, x0_pI, x0_pL, x0_z0, x0_z1, x0_fR0, x0_fR1, x0_fR2, x0_fR3, x0_fR4, x0_fR5, x0_fR6, x0_fR7, x0_fR8, x0_fR9, x0_fR10, x0_fR11, x0_fR12, x0_fR13, x013_a, x013_t, x013_n, x0_fR15, x0_fR16, x0_fR17, x0_fR18, x018_a, x018_t, x018_n, s4_k, s4_fI, s4_fL, s4_pI, s4_pL, s4_z0, s4_z1, s4_fR1, s41_a, s41_t, s41_n, s4_fR2, s42_a, s42_t, s42_n, s4_fR3, s43_a, s43_t, s43_n, s4_fR5, s45_a, s45_t, s45_n, s4_fR7, s47_a, s47_t, s47_n, s4_fR8, s48_a, s48_t, s48_n, s4_fR10, s410_a, s410_t, s410_n, s4_fR11, s411_a, s411_t, s411_n, s4_fR12, s412_a, s412_t, s412_n, s4_fR13, s413_a, s413_t, s413_n, me_k, me_fI, me_fL, me_pI, me_pL, me_z0, me_z1, me_fR0, c_hasLaw hO hs, hl, decide_true, bi_z, e1, men, k1, k2, c_placeIndex, e2, hZ]
      · unfold fX11_mend
        simp (disch := first | assumption | omega | rfl) only [i_rem, i_pred, i_addn1, i_lit, i_n1, i_add, i_mul, i_sub, i_le, i_lt, i_eq, i_ne1, n1_ne, n1_lt, n1_le, i_lt1, i_le1, bd_s, nar_bi, nar_0, nar_1, if_pos, if_neg, ↓reduceIte, reduceCtorEq, eq_self, if_true, if_false, not_true_eq_false, not_false_eq_true, mo_k, mo_fI, mo_fL, mo_pI, mo_pL, mo_z0, mo_z1, mo_fR1, mo1_a, mo1_t, mo1_n, mo_fR14, mo14_a, mo14_t, mo14_n, mo_fR15, mo15_a, mo15_t, mo15_n, mo_fR16, mo16_a, mo16_t, mo16_n, mo_fR17, mo17_a, mo17_t, mo17_n, mo_fR18, mo18_a, mo18_t, mo18_n, mo_fR19, mo19_a, mo19_t, mo19_n, mo_fR20, mo20_a, mo20_t, mo20_n, mo_fR21, mo21_a, mo21_t, mo21_n, mo_fR22, mo22_a, mo22_t, mo22_n, mo_fR25, mo25_a, mo25_t, mo25_n, mo_fR26, mo26_a, mo26_t, mo26_n, mo_fR28, mo28_a, mo28_t, mo28_n, mo_fR29, mo29_a, mo29_t, mo29_n, mo_fR30, mo30_a, mo30_t, mo30_n, mo_fR33, mo33_a, mo33_t, mo33_n, mo_fR36, mo36_a, mo36_t, mo36_n, mo_fR37, mo37_a, mo37_t, mo37_n, mo_fR40, mo40_a, mo40_t, mo40_n, m_isLaw hO hm2, hl, decide_true, bi_z, e3, e4, e5, e6]
      · have fr2 : ∀ q, q < 186 → q ≠ 127 → up J 186 27 (i32 1) q = I q := fun q z1 z2 => by
          rw [up_row (by omega), q3 q (by omega), up_row (by omega), up_row (by omega), up_row (by omega), up_row (by omega)]; exact fr q z2
        have fr3 : up J 186 27 (i32 1) 127 = Z 127 := by
          rw [up_row (by omega), q3 127 (by omega), up_row (by omega), up_row (by omega), up_row (by omega), up_row (by omega)]
        obtain ⟨⟨h1, h2, h3, h4, h9⟩, h5, h6, h7, h8⟩ := hC
        refine ⟨⟨RS_of (fun q z1 z2 => fr2 q (by omega) (by omega)) h1, h2, BR_of (fun q z1 z2 => fr2 q (by omega) (by omega)) h3, SS_of (fun q z1 z2 => fr2 q (by omega) (by omega)) h4, LT_of (fr2 _ (by omega) (by omega)) h9⟩, PR_of (fun q z1 z2 => fr2 q (by omega) (by omega)) h5, fun k hk => CG_of hk (fun q z1 z2 => fr2 q (by omega) (by omega)) (fun _ _ _ => rfl) (h6 k hk), CT_of (fr2 1 (by omega) (by omega)) (fr2 2 (by omega) (by omega)) rfl h7, ?_⟩
        obtain ⟨a1, a2, a3, a4, a5, a6⟩ := h8
        refine ⟨fun k hk => ?_, fun k hk => ?_, fun k hk => ?_, ?_, a5, fun k hk => ?_⟩
        · rw [fr3, ← hZ]
          dsimp only
          obtain rfl | rfl | rfl : k = 0 ∨ k = 1 ∨ k = 2 := by omega
          · rw [up_ofk (by omega), if_pos rfl]; exact k1
          · rw [up_ofk (by omega), if_neg (by omega), if_pos rfl]; exact k2
          · rw [if_neg (by omega), if_neg (by omega)]; exact up_self
        · rw [fr2 131 (by omega) (by omega)]; exact a2 k hk
        · rw [fr2 108 (by omega) (by omega)]; exact a3 k hk
        · rw [fr2 0 (by omega) (by omega)]; exact a4
        · rw [fr2 133 (by omega) (by omega)]; exact a6 k hk
      · have fr2 : ∀ q, 187 ≤ q → q ≠ 198 → up J 186 27 (i32 1) q = Z q := fun q z1 z2 => by
          rw [up_row (by omega), q3 q (by omega), up_row (by omega), up_row (by omega), up_row (by omega), up_row (by omega)]
        have fr4 : ∀ k, k ≠ 0 → k ≠ 27 → up J 186 27 (i32 1) 186 k = Z 186 k := fun k z1 z2 => by
          rw [up_ofk z2, q3 186 (by omega), up_row (by omega), up_row (by omega), up_row (by omega), up_ofk z1]
        obtain ⟨h1, h2, h3, h4, h5⟩ := hM2
        refine ⟨?_, ?_, ?_, ?_, ?_⟩
        · rw [fr2 188 (by omega) (by omega)]; exact h1
        · unfold MP at *; rw [fr2 191 (by omega) (by omega), fr4 24 (by omega) (by omega)]; exact h2
        · exact fun k hk => MG_of (fr2 _ (by omega) (by omega)) (fr2 _ (by omega) (by omega)) rfl (h3 k hk)
        · unfold MT at *; rw [fr2 187 (by omega) (by omega), fr4 2 (by omega) (by omega), fr4 10 (by omega) (by omega)]; exact h4
        · unfold ME at *; rw [fr2 200 (by omega) (by omega), fr2 202 (by omega) (by omega), fr2 204 (by omega) (by omega), fr4 32 (by omega) (by omega), fr4 31 (by omega) (by omega), fr4 39 (by omega) (by omega), fr4 34 (by omega) (by omega)]
          refine ⟨Or.inr ⟨up_self, fun k hk => ?_⟩, h5.2⟩
          rw [up_row (by omega)]
          dsimp only
          obtain rfl | rfl | rfl : k = 0 ∨ k = 1 ∨ k = 2 := by omega
          · rw [if_pos rfl, q2 0 (by omega), up_ofk (by omega), up_ofk (by omega), up_self]
          · rw [if_neg (by omega), if_pos rfl, q2 1 (by omega), up_ofk (by omega), up_self]
          · rw [if_neg (by omega), if_neg (by omega)]; exact q1
  · refine Step_q (x := n1) (v := i32 0) ⟨hC, hM, hI⟩ ?_ ?_
    · unfold fX10_mend
      simp (disch := first | assumption | omega | rfl) only [i_rem, i_pred, i_addn1, i_lit, i_n1, i_add, i_mul, i_sub, i_le, i_lt, i_eq, i_ne1, n1_ne, n1_lt, n1_le, i_lt1, i_le1, bd_s, nar_bi, nar_0, nar_1, if_pos, if_neg, ↓reduceIte, reduceCtorEq, eq_self, if_true, if_false, not_true_eq_false, not_false_eq_true, x0_k, x0_fI, x0_fL, x0_pI, x0_pL, x0_z0, x0_z1, x0_fR0, x0_fR1, x0_fR2, x0_fR3, x0_fR4, x0_fR5, x0_fR6, x0_fR7, x0_fR8, x0_fR9, x0_fR10, x0_fR11, x0_fR12, x0_fR13, x013_a, x013_t, x013_n, x0_fR15, x0_fR16, x0_fR17, x0_fR18, x018_a, x018_t, x018_n, s4_k, s4_fI, s4_fL, s4_pI, s4_pL, s4_z0, s4_z1, s4_fR1, s41_a, s41_t, s41_n, s4_fR2, s42_a, s42_t, s42_n, s4_fR3, s43_a, s43_t, s43_n, s4_fR5, s45_a, s45_t, s45_n, s4_fR7, s47_a, s47_t, s47_n, s4_fR8, s48_a, s48_t, s48_n, s4_fR10, s410_a, s410_t, s410_n, s4_fR11, s411_a, s411_t, s411_n, s4_fR12, s412_a, s412_t, s412_n, s4_fR13, s413_a, s413_t, s413_n, be_k, be_fI, be_fL, be_pI, be_pL, be_z0, be_z1, be_fR0, be_fR1, be1_a, be1_t, be1_n, be_fR2, be2_a, be2_t, be2_n, be_fR3, be3_a, be3_t, be3_n, be_fR4, be4_a, be4_t, be4_n, be_fR5, be5_a, be5_t, be5_n, be_fR6, be6_a, be6_t, be6_n, be_fR7, be7_a, be7_t, be7_n, c_hasLaw_n hs hu]
    · unfold fX11_mend
      simp (disch := first | assumption | omega | rfl) only [i_rem, i_pred, i_addn1, i_lit, i_n1, i_add, i_mul, i_sub, i_le, i_lt, i_eq, i_ne1, n1_ne, n1_lt, n1_le, i_lt1, i_le1, bd_s, nar_bi, nar_0, nar_1, if_pos, if_neg, ↓reduceIte, reduceCtorEq, eq_self, if_true, if_false, not_true_eq_false, not_false_eq_true, mo_k, mo_fI, mo_fL, mo_pI, mo_pL, mo_z0, mo_z1, mo_fR1, mo1_a, mo1_t, mo1_n, mo_fR14, mo14_a, mo14_t, mo14_n, mo_fR15, mo15_a, mo15_t, mo15_n, mo_fR16, mo16_a, mo16_t, mo16_n, mo_fR17, mo17_a, mo17_t, mo17_n, mo_fR18, mo18_a, mo18_t, mo18_n, mo_fR19, mo19_a, mo19_t, mo19_n, mo_fR20, mo20_a, mo20_t, mo20_n, mo_fR21, mo21_a, mo21_t, mo21_n, mo_fR22, mo22_a, mo22_t, mo22_n, mo_fR25, mo25_a, mo25_t, mo25_n, mo_fR26, mo26_a, mo26_t, mo26_n, mo_fR28, mo28_a, mo28_t, mo28_n, mo_fR29, mo29_a, mo29_t, mo29_n, mo_fR30, mo30_a, mo30_t, mo30_n, mo_fR33, mo33_a, mo33_t, mo33_n, mo_fR36, mo36_a, mo36_t, mo36_n, mo_fR37, mo37_a, mo37_t, mo37_n, mo_fR40, mo40_a, mo40_t, mo40_n, m_isLaw_n hO hm hu]
end
