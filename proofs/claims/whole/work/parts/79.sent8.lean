/-! the reference: its nodes -/
/-- the node k says d, and all below it have numbers below f -/
def nd2 (H : Nat → Nat) (g : Nat → Int32) : Nat → Nat → Say → Prop
  | 0, _, _ => False
  | f + 1, k, d => k ≤ f ∧ ((∃ x d1, g (4 * k) = i32 1 ∧ g (4 * k + 1) = i32 x ∧ nd2 H g f x d1 ∧ ∀ B b, d B b = !(d1 B b)) ∨
    (∃ x y d1 d2, g (4 * k) = i32 2 ∧ g (4 * k + 1) = i32 x ∧ g (4 * k + 2) = i32 y ∧ nd2 H g f x d1 ∧ nd2 H g f y d2 ∧ ∀ B b, d B b = (d1 B b && d2 B b)) ∨
    (∃ x y d1 d2, g (4 * k) = i32 3 ∧ g (4 * k + 1) = i32 x ∧ g (4 * k + 2) = i32 y ∧ nd2 H g f x d1 ∧ nd2 H g f y d2 ∧ ∀ B b, d B b = (d1 B b || d2 B b)) ∨
    (∃ q x y, g (4 * k) = i32 (50 + q) ∧ atOk H q x y ∧ (q < 16 → g (4 * k + 1) = i32 x) ∧ (16 ≤ q → g (4 * k + 2) = i32 y ∧ g (4 * k + 3) = i32 x) ∧ ∀ B b, d B b = atm H q x y B b))
section
variable {I J : Nat → Nat → Int32} {L K : Nat → Nat → Int64} {r : Bool} {N : Nat} {H : Nat → Nat}
theorem nd2_k {g : Nat → Int32} {f k : Nat} {d : Say} (h : nd2 H g f k d) : k < f := by
  cases f with
  | zero => exact absurd h id
  | succ f => have := h.1; omega
theorem nd2_fr {g g' : Nat → Int32} : ∀ f k d, (∀ i, i < 4 * f → g' i = g i) → nd2 H g f k d → nd2 H g' f k d := by
  intro f
  induction f with
  | zero => intro k d _ h; exact absurd h id
  | succ f ih =>
    intro k d e h
    have e' : ∀ i, i < 4 * f → g' i = g i := fun i hi => e i (by omega)
    obtain ⟨hk, h⟩ := h
    refine ⟨hk, ?_⟩
    rw [e (4 * k) (by omega), e (4 * k + 1) (by omega), e (4 * k + 2) (by omega), e (4 * k + 3) (by omega)]
    rcases h with ⟨x, d1, a1, a2, a3, a4⟩ | ⟨x, y, d1, d2, a1, a2, a3, a4, a5, a6⟩ | ⟨x, y, d1, d2, a1, a2, a3, a4, a5, a6⟩ | ⟨q, x, y, a1, a2, a3, a4, a5⟩
    · exact Or.inl ⟨x, d1, a1, a2, ih x d1 e' a3, a4⟩
    · exact Or.inr (Or.inl ⟨x, y, d1, d2, a1, a2, a3, ih x d1 e' a4, ih y d2 e' a5, a6⟩)
    · exact Or.inr (Or.inr (Or.inl ⟨x, y, d1, d2, a1, a2, a3, ih x d1 e' a4, ih y d2 e' a5, a6⟩))
    · exact Or.inr (Or.inr (Or.inr ⟨q, x, y, a1, a2, a3, a4, a5⟩))
theorem nd2_s {g : Nat → Int32} : ∀ f k d, nd2 H g f k d → nd2 H g (f + 1) k d := by
  intro f
  induction f with
  | zero => intro k d h; exact absurd h id
  | succ f ih =>
    intro k d h
    obtain ⟨hk, h⟩ := h
    refine ⟨by omega, ?_⟩
    rcases h with ⟨x, d1, a1, a2, a3, a4⟩ | ⟨x, y, d1, d2, a1, a2, a3, a4, a5, a6⟩ | ⟨x, y, d1, d2, a1, a2, a3, a4, a5, a6⟩ | ⟨q, x, y, a1, a2, a3, a4, a5⟩
    · exact Or.inl ⟨x, d1, a1, a2, ih x d1 a3, a4⟩
    · exact Or.inr (Or.inl ⟨x, y, d1, d2, a1, a2, a3, ih x d1 a4, ih y d2 a5, a6⟩)
    · exact Or.inr (Or.inr (Or.inl ⟨x, y, d1, d2, a1, a2, a3, ih x d1 a4, ih y d2 a5, a6⟩))
    · exact Or.inr (Or.inr (Or.inr ⟨q, x, y, a1, a2, a3, a4, a5⟩))
theorem nd2_m {g : Nat → Int32} {f k : Nat} {d : Say} (h : nd2 H g f k d) : ∀ j, nd2 H g (f + j) k d := by
  intro j
  induction j with
  | zero => exact h
  | succ j ih => exact nd2_s _ _ _ ih
/-- the same as the model's nodes, from o on -/
theorem nd2_nd {g g' : Nat → Int32} {o : Nat} : ∀ f k d, f ≤ 60 → (∀ i, i < 4 * f → g' (o + i) = g i) → nd2 H g f k d → nd H g' o f k d := by
  intro f
  induction f with
  | zero => intro k d _ _ h; exact absurd h id
  | succ f ih =>
    intro k d hf e h
    have e' : ∀ i, i < 4 * f → g' (o + i) = g i := fun i hi => e i (by omega)
    obtain ⟨hk, h⟩ := h
    have f0 := e (4 * k) (by omega)
    have f1 := e (4 * k + 1) (by omega)
    have f2 := e (4 * k + 2) (by omega)
    have f3 := e (4 * k + 3) (by omega)
    rw [← Nat.add_assoc] at f1 f2 f3
    refine ⟨by omega, ?_⟩
    rw [f0, f1, f2, f3]
    rcases h with ⟨x, d1, a1, a2, a3, a4⟩ | ⟨x, y, d1, d2, a1, a2, a3, a4, a5, a6⟩ | ⟨x, y, d1, d2, a1, a2, a3, a4, a5, a6⟩ | ⟨q, x, y, a1, a2, a3, a4, a5⟩
    · exact Or.inl ⟨x, d1, a1, a2, ih x d1 (by omega) e' a3, a4⟩
    · exact Or.inr (Or.inl ⟨x, y, d1, d2, a1, a2, a3, ih x d1 (by omega) e' a4, ih y d2 (by omega) e' a5, a6⟩)
    · exact Or.inr (Or.inr (Or.inl ⟨x, y, d1, d2, a1, a2, a3, ih x d1 (by omega) e' a4, ih y d2 (by omega) e' a5, a6⟩))
    · exact Or.inr (Or.inr (Or.inr ⟨q, x, y, a1, a2, a3, a4, a5⟩))
def sayM (I : Nat → Nat → Int32) (c : Nat) (v1 v2 v3 v4 : Int32) : Nat → Nat → Int32 := up (up (up (up (up I 205 (4 * c) v1) 205 (4 * c + 1) v2) 205 (4 * c + 2) v3) 205 (4 * c + 3) v4) 186 41 (i32 (c + 1))
theorem m_saysOne {c : Nat} {v1 v2 v3 v4 : Int32} (h : I 186 41 = i32 c) (hc : c < 60) : fX11_saysOne N 186 v1 v2 v3 v4 (mk I L r) = some (i32 c, mk (sayM I c v1 v2 v3 v4) L r) := by
  unfold fX11_saysOne sayM
  simp (disch := first | assumption | omega | rfl) only [i_rem, i_pred, i_addn1, i_lit, i_n1, i_add, i_mul, i_sub, i_le, i_lt, i_eq, i_ne1, n1_ne, n1_lt, n1_le, i_lt1, i_le1, bd_s, nar_bi, nar_0, nar_1, if_pos, if_neg, ↓reduceIte, reduceCtorEq, eq_self, if_true, if_false, not_true_eq_false, not_false_eq_true, mo_k, mo_fI, mo_fL, mo_pI, mo_pL, mo_z0, mo_z1, mo_fR1, mo1_a, mo1_t, mo1_n, mo_fR14, mo14_a, mo14_t, mo14_n, mo_fR15, mo15_a, mo15_t, mo15_n, mo_fR16, mo16_a, mo16_t, mo16_n, mo_fR17, mo17_a, mo17_t, mo17_n, mo_fR18, mo18_a, mo18_t, mo18_n, mo_fR19, mo19_a, mo19_t, mo19_n, mo_fR20, mo20_a, mo20_t, mo20_n, mo_fR21, mo21_a, mo21_t, mo21_n, mo_fR22, mo22_a, mo22_t, mo22_n, mo_fR25, mo25_a, mo25_t, mo25_n, mo_fR26, mo26_a, mo26_t, mo26_n, mo_fR28, mo28_a, mo28_t, mo28_n, mo_fR29, mo29_a, mo29_t, mo29_n, mo_fR30, mo30_a, mo30_t, mo30_n, mo_fR33, mo33_a, mo33_t, mo33_n, mo_fR36, mo36_a, mo36_t, mo36_n, mo_fR37, mo37_a, mo37_t, mo37_n, mo_fR40, mo40_a, mo40_t, mo40_n, h, up_off, up_self, Nat.add_sub_cancel]
theorem sayM_5 {c : Nat} {v1 v2 v3 v4 : Int32} : sayM I c v1 v2 v3 v4 205 (4 * c) = v1 ∧ sayM I c v1 v2 v3 v4 205 (4 * c + 1) = v2 ∧ sayM I c v1 v2 v3 v4 205 (4 * c + 2) = v3 ∧ sayM I c v1 v2 v3 v4 205 (4 * c + 3) = v4 := by
  unfold sayM
  refine ⟨?_, ?_, ?_, ?_⟩ <;> simp (disch := omega) only [up_at, up_off, upL_at, upL_off, if_pos, if_neg, if_true, true_or, or_true, true_and, and_true]
theorem sayM_o {c i : Nat} {v1 v2 v3 v4 : Int32} (hi : i < 4 * c) : sayM I c v1 v2 v3 v4 205 i = I 205 i := by
  unfold sayM
  rw [up_off (by omega), up_ofk (by omega), up_ofk (by omega), up_ofk (by omega), up_ofk (by omega)]
end
