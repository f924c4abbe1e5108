/-! ===== all lines of a book ===== -/
def lnOk (H : Nat → Nat) (x : Ln) : Prop := x.1 ≤ 2 ∧ (x.1 = 0 → x.2.1 < H 1 ∧ x.2.2.2.2 ≤ 9) ∧ (x.1 ≠ 2 → x.2.2.1 < H 0 ∧ x.2.2.2.1 ≤ 11) ∧ (x.1 = 2 → x.2.1 ≤ 60)
abbrev BkR : Type := (Nat × Nat) ⊕ (Nat × (Nat → Ln))
def bkL (n : Nat) (T : Nat → Nat) (m : Nat) (H : Nat → Nat) (W : Nat → List Nat) : Nat → Nat → (Nat → Ln) → Tok → BkR
  | 0, _, _, _ => .inl (1, 0)
  | f + 1, i, X, t => if t.1 = 0 then .inr (i, X) else match oM n T m 59 (blO n T m H W i t) with
    | .inl e => .inl e
    | .inr t' => bkL n T m H W f (i + 1) (u1 X i (blV n T m H W t)) t'
def bkG (H : Nat → Nat) (o : BkR) : Prop := match o with
  | .inl _ => True
  | .inr x => x.1 ≤ 40 ∧ ∀ j, j < x.1 → lnOk H (x.2 j)
def CbO (n : Nat) (T : Nat → Nat) (m : Nat) (o : BkR) (I : Nat → Nat → Int32) (L : Nat → Nat → Int64) : Prop := match o with
  | .inl e => CqR n T m (.inl e) I L
  | .inr x => (∃ t, CqR n T m (.inr t) I L) ∧ CL x.1 x.2 I
def MbO (n : Nat) (T : Nat → Nat) (m : Nat) (o : BkR) (I : Nat → Nat → Int32) (L : Nat → Nat → Int64) : Prop := match o with
  | .inl e => MqR n T m (.inl e) I L
  | .inr x => (∃ t, MqR n T m (.inr t) I L) ∧ ML x.1 x.2 I
def MbA (o : BkR) (M : Mem) : Mem ⊕ (Int32 × Mem) := match o with
  | .inl e => .inr (-(i32 2) - i32 e.2, M)
  | .inr _ => .inl M
def FrY' (I J : Nat → Nat → Int32) (L K : Nat → Nat → Int64) : Prop := (∀ z, z ≠ 186 → z ≠ 203 → J z = I z) ∧ (∀ k, ¬ (5 ≤ k ∧ k ≤ 13) → k ≠ 38 → J 186 k = I 186 k) ∧ ∀ z, z ≠ 186 → K z = L z
section
variable {I J : Nat → Nat → Int32} {L K : Nat → Nat → Int64} {r : Bool} {N : Nat} {T : Nat → Nat} {n m : Nat} {t : Tok} {e : Nat × Nat} {o : Oc} {H : Nat → Nat} {W : Nat → List Nat}
theorem FrY.p (h : FrY I J L K) : FrY' I J L K := ⟨h.1, fun k h1 _ => h.2.1 k h1, h.2.2⟩
theorem FrY'.tr {I2 : Nat → Nat → Int32} {L2 : Nat → Nat → Int64} (h : FrY' I J L K) (g : FrY' J I2 K L2) : FrY' I I2 L L2 := ⟨fun z h1 h2 => (g.1 z h1 h2).trans (h.1 z h1 h2), fun k h1 h2 => (g.2.1 k h1 h2).trans (h.2.1 k h1 h2), fun z h1 => (g.2.2 z h1).trans (h.2.2 z h1)⟩
theorem FrY'.u {v : Int32} (h : FrY' I J L K) : FrY' I (up J 186 38 v) L K := ⟨fun z h1 h2 => by rw [up_row h1]; exact h.1 z h1 h2, fun j h1 h2 => by rw [up_ofk h2]; exact h.2.1 j h1 h2, h.2.2⟩
theorem nfO_R {s : Nat} {Wf : Nat → List Nat} (h : isR (nfO n T m s Wf o) = true) : nfV s Wf o < s := by
  cases o with
  | inl e => cases h
  | inr t =>
    unfold nfO at h
    unfold nfV
    dsimp only at h ⊢
    by_cases c1 : isNm t = true
    · rw [if_pos c1] at h
      cases hf : nfI s Wf t with
      | none => rw [hf, if_pos rfl] at h; cases h
      | some k => exact (fd_some.mp hf).1
    · rw [if_neg c1] at h; cases h
theorem bl_ok {i : Nat} (hR : isR (blO n T m H W i t) = true) : i < 40 ∧ lnOk H (blV n T m H W t) := by
  unfold blO at hR
  unfold blV
  by_cases c6 : kk t = some 6
  · rw [if_pos c6] at hR ⊢
    by_cases ci : i < 40
    · rw [if_pos ci] at hR
      have h1 := oN_R hR
      exact ⟨ci, (by decide : 1 ≤ 2), fun z => absurd (show (1 : Nat) = 0 from z) (by decide), fun _ => ⟨nfO_R h1.1, h1.2.2⟩, fun z => absurd (show (1 : Nat) = 2 from z) (by decide)⟩
    · rw [if_neg ci] at hR; cases hR
  · rw [if_neg c6] at hR ⊢
    by_cases c7 : kk t = some 7
    · rw [if_pos c7] at hR ⊢
      by_cases ci : i < 40
      · rw [if_pos ci] at hR
        have h1 := oN_R hR
        exact ⟨ci, (by decide : 2 ≤ 2), fun z => absurd (show (2 : Nat) = 0 from z) (by decide), fun z => absurd rfl z, fun _ => h1.2.2⟩
      · rw [if_neg ci] at hR; cases hR
    · rw [if_neg c7] at hR ⊢
      by_cases c1 : isNm t = true
      · rw [if_pos c1] at hR
        cases hf : nfI (H 1) (fun i => W (6 + i)) t with
        | none => rw [hf, if_pos rfl] at hR; cases hR
        | some k =>
          rw [hf, if_neg (by intro z; cases z)] at hR
          by_cases ci : i < 40
          · rw [if_pos ci] at hR
            have h1 := oN_R hR
            have h2 := oN_R h1.1
            have hk := (fd_some.mp hf).1
            exact ⟨ci, (by decide : 0 ≤ 2), fun _ => ⟨hk, h1.2.2⟩, fun _ => ⟨nfO_R h2.1, h2.2.2⟩, fun z => absurd (show (0 : Nat) = 2 from z) (by decide)⟩
          · rw [if_neg ci] at hR; cases hR
      · rw [if_neg c1] at hR; cases hR
theorem c_bkL (hN : 1200 < N) (hO : hOk H) (hn : nOk H W) : ∀ f i F X t I L, f + i = 41 → i ≤ 40 → f + 2 ≤ F → (∀ j, j < i → lnOk H (X j)) → RS 4 H I → NS 4 H W L → CL i X I → CqR n T m (.inr t) I L → bkG H (bkL n T m H W f i X t) ∧ ∃ J K, fX1_readFrom_L14 N 108 1 F (i32 i) (mk I L r) = some (mk J K r) ∧ CbO n T m (bkL n T m H W f i X t) J K ∧ FrB I J L K := by
  intro f
  induction f with
  | zero => intro i F X t I L hf hi; omega
  | succ f ih =>
    intro i F X t I L hf hi hF hX hs hw hc h
    obtain ⟨F, rfl⟩ : ∃ G, F = G + 1 := ⟨F - 1, by omega⟩
    have x10 : I 1 10 = i32 0 := h.2.2.1
    have x5 : I 1 5 = i32 t.1 := h.2.1.1
    have t4 : t.1 ≤ 4 := h.2.2.2.1
    have hi40 : ¬ i32 40 < i32 i := by rw [i_lt (by omega) (by omega)]; omega
    rw [bkL]
    by_cases c0 : t.1 = 0
    · rw [if_pos c0]
      refine ⟨⟨hi, hX⟩, I, L, ?_, ⟨⟨t, h⟩, hc⟩, FrB.rf⟩
      unfold fX1_readFrom_L14
      repeat (first | (with_reducible apply bd_eq; (focus (simp (disch := first | assumption | omega | rfl) only [i_rem, i_pred, i_addn1, i_lit, i_n1, i_add, i_mul, i_sub, i_le, i_lt, i_eq, i_ne1, n1_ne, n1_lt, n1_le, i_lt1, i_le1, bd_s, nar_bi, nar_0, nar_1, if_pos, if_neg, ↓reduceIte, reduceCtorEq, eq_self, if_true, if_false, not_true_eq_false, not_false_eq_true, tp_k, tp_fI, tp_fL, tp_pI, tp_pL, tp_z0, tp_z1, tp_fR0, tp0_a, tp0_t, tp0_n, tp_fR1, tp1_a, tp1_t, tp1_n, bk_k, bk_fI, bk_fL, bk_pI, bk_pL, bk_z0, bk_z1, bk_fR0, bk_fR1, bk1_a, bk1_t, bk1_n, bk_fR2, bk2_a, bk2_t, bk2_n, bk_fR3, bk3_a, bk3_t, bk3_n, bk_fR4, bk4_a, bk4_t, bk4_n, bk_fR5, bk5_a, bk5_t, bk5_n, hi40, x10, x5, c0]; first | done | (with_reducible rfl; done))); try dsimp only) | (with_reducible apply it_p; (focus (first | assumption | (simp (disch := first | assumption | omega | rfl) only [i_rem, i_pred, i_addn1, i_lit, i_n1, i_add, i_mul, i_sub, i_le, i_lt, i_eq, i_ne1, n1_ne, n1_lt, n1_le, i_lt1, i_le1, bd_s, nar_bi, nar_0, nar_1, if_pos, if_neg, ↓reduceIte, reduceCtorEq, eq_self, if_true, if_false, not_true_eq_false, not_false_eq_true, tp_k, tp_fI, tp_fL, tp_pI, tp_pL, tp_z0, tp_z1, tp_fR0, tp0_a, tp0_t, tp0_n, tp_fR1, tp1_a, tp1_t, tp1_n, bk_k, bk_fI, bk_fL, bk_pI, bk_pL, bk_z0, bk_z1, bk_fR0, bk_fR1, bk1_a, bk1_t, bk1_n, bk_fR2, bk2_a, bk2_t, bk2_n, bk_fR3, bk3_a, bk3_t, bk3_n, bk_fR4, bk4_a, bk4_t, bk4_n, bk_fR5, bk5_a, bk5_t, bk5_n, hi40, x10, x5, c0]; first | done | omega)))) | (with_reducible apply it_n; (focus (first | assumption | (simp (disch := first | assumption | omega | rfl) only [i_rem, i_pred, i_addn1, i_lit, i_n1, i_add, i_mul, i_sub, i_le, i_lt, i_eq, i_ne1, n1_ne, n1_lt, n1_le, i_lt1, i_le1, bd_s, nar_bi, nar_0, nar_1, if_pos, if_neg, ↓reduceIte, reduceCtorEq, eq_self, if_true, if_false, not_true_eq_false, not_false_eq_true, tp_k, tp_fI, tp_fL, tp_pI, tp_pL, tp_z0, tp_z1, tp_fR0, tp0_a, tp0_t, tp0_n, tp_fR1, tp1_a, tp1_t, tp1_n, bk_k, bk_fI, bk_fL, bk_pI, bk_pL, bk_z0, bk_z1, bk_fR0, bk_fR1, bk1_a, bk1_t, bk1_n, bk_fR2, bk2_a, bk2_t, bk2_n, bk_fR3, bk3_a, bk3_t, bk3_n, bk_fR4, bk4_a, bk4_t, bk4_n, bk_fR5, bk5_a, bk5_t, bk5_n, hi40, x10, x5, c0]; first | done | omega)))))
      all_goals rfl
    · rw [if_neg c0]
      obtain ⟨J1, K1, e1, g1, g2, g3⟩ := c_bkLine (N := N) (r := r) hN hO hn hs hw h hc hi
      obtain ⟨J2, K2, e2, g4, g5⟩ := c_takeMark (N := N) (r := r) (c := 59) hN g1 (by omega)
      have fr : FrB I J2 L K2 := g3.tr g5.b
      have st : fX1_readFrom_L14 N 108 1 (F + 1) (i32 i) (mk I L r) = fX1_readFrom_L14 N 108 1 F (i32 (i + 1)) (mk J2 K2 r) := by
        conv => lhs; unfold fX1_readFrom_L14
        repeat (first | (with_reducible apply bd_eq; (focus (simp (disch := first | assumption | omega | rfl) only [i_rem, i_pred, i_addn1, i_lit, i_n1, i_add, i_mul, i_sub, i_le, i_lt, i_eq, i_ne1, n1_ne, n1_lt, n1_le, i_lt1, i_le1, bd_s, nar_bi, nar_0, nar_1, if_pos, if_neg, ↓reduceIte, reduceCtorEq, eq_self, if_true, if_false, not_true_eq_false, not_false_eq_true, tp_k, tp_fI, tp_fL, tp_pI, tp_pL, tp_z0, tp_z1, tp_fR0, tp0_a, tp0_t, tp0_n, tp_fR1, tp1_a, tp1_t, tp1_n, bk_k, bk_fI, bk_fL, bk_pI, bk_pL, bk_z0, bk_z1, bk_fR0, bk_fR1, bk1_a, bk1_t, bk1_n, bk_fR2, bk2_a, bk2_t, bk2_n, bk_fR3, bk3_a, bk3_t, bk3_n, bk_fR4, bk4_a, bk4_t, bk4_n, bk_fR5, bk5_a, bk5_t, bk5_n, hi40, x10, x5, c0, e1, e2]; first | done | (with_reducible rfl; done))); try dsimp only) | (with_reducible apply it_p; (focus (first | assumption | (simp (disch := first | assumption | omega | rfl) only [i_rem, i_pred, i_addn1, i_lit, i_n1, i_add, i_mul, i_sub, i_le, i_lt, i_eq, i_ne1, n1_ne, n1_lt, n1_le, i_lt1, i_le1, bd_s, nar_bi, nar_0, nar_1, if_pos, if_neg, ↓reduceIte, reduceCtorEq, eq_self, if_true, if_false, not_true_eq_false, not_false_eq_true, tp_k, tp_fI, tp_fL, tp_pI, tp_pL, tp_z0, tp_z1, tp_fR0, tp0_a, tp0_t, tp0_n, tp_fR1, tp1_a, tp1_t, tp1_n, bk_k, bk_fI, bk_fL, bk_pI, bk_pL, bk_z0, bk_z1, bk_fR0, bk_fR1, bk1_a, bk1_t, bk1_n, bk_fR2, bk2_a, bk2_t, bk2_n, bk_fR3, bk3_a, bk3_t, bk3_n, bk_fR4, bk4_a, bk4_t, bk4_n, bk_fR5, bk5_a, bk5_t, bk5_n, hi40, x10, x5, c0, e1, e2]; first | done | omega)))) | (with_reducible apply it_n; (focus (first | assumption | (simp (disch := first | assumption | omega | rfl) only [i_rem, i_pred, i_addn1, i_lit, i_n1, i_add, i_mul, i_sub, i_le, i_lt, i_eq, i_ne1, n1_ne, n1_lt, n1_le, i_lt1, i_le1, bd_s, nar_bi, nar_0, nar_1, if_pos, if_neg, ↓reduceIte, reduceCtorEq, eq_self, if_true, if_false, not_true_eq_false, not_false_eq_true, tp_k, tp_fI, tp_fL, tp_pI, tp_pL, tp_z0, tp_z1, tp_fR0, tp0_a, tp0_t, tp0_n, tp_fR1, tp1_a, tp1_t, tp1_n, bk_k, bk_fI, bk_fL, bk_pI, bk_pL, bk_z0, bk_z1, bk_fR0, bk_fR1, bk1_a, bk1_t, bk1_n, bk_fR2, bk2_a, bk2_t, bk2_n, bk_fR3, bk3_a, bk3_t, bk3_n, bk_fR4, bk4_a, bk4_t, bk4_n, bk_fR5, bk5_a, bk5_t, bk5_n, hi40, x10, x5, c0, e1, e2]; first | done | omega)))))
        all_goals simp (disch := first | assumption | omega | rfl) only [i_rem, i_pred, i_addn1, i_lit, i_n1, i_add, i_mul, i_sub, i_le, i_lt, i_eq, i_ne1, n1_ne, n1_lt, n1_le, i_lt1, i_le1, bd_s, nar_bi, nar_0, nar_1, if_pos, if_neg, ↓reduceIte, reduceCtorEq, eq_self, if_true, if_false, not_true_eq_false, not_false_eq_true]
      rw [st]
      cases ho : oM n T m 59 (blO n T m H W i t) with
      | inl e =>
        rw [ho] at g4
        dsimp only
        refine ⟨trivial, J2, K2, ?_, g4, fr⟩
        obtain ⟨F, rfl⟩ : ∃ G, F = G + 1 := ⟨F - 1, by omega⟩
        have x10 := (fault_0 g4).2 rfl
        unfold fX1_readFrom_L14
        by_cases ci : i32 40 < i32 (i + 1)
        · repeat (first | (with_reducible apply bd_eq; (focus (simp (disch := first | assumption | omega | rfl) only [i_rem, i_pred, i_addn1, i_lit, i_n1, i_add, i_mul, i_sub, i_le, i_lt, i_eq, i_ne1, n1_ne, n1_lt, n1_le, i_lt1, i_le1, bd_s, nar_bi, nar_0, nar_1, if_pos, if_neg, ↓reduceIte, reduceCtorEq, eq_self, if_true, if_false, not_true_eq_false, not_false_eq_true, tp_k, tp_fI, tp_fL, tp_pI, tp_pL, tp_z0, tp_z1, tp_fR0, tp0_a, tp0_t, tp0_n, tp_fR1, tp1_a, tp1_t, tp1_n, bk_k, bk_fI, bk_fL, bk_pI, bk_pL, bk_z0, bk_z1, bk_fR0, bk_fR1, bk1_a, bk1_t, bk1_n, bk_fR2, bk2_a, bk2_t, bk2_n, bk_fR3, bk3_a, bk3_t, bk3_n, bk_fR4, bk4_a, bk4_t, bk4_n, bk_fR5, bk5_a, bk5_t, bk5_n, ci]; first | done | (with_reducible rfl; done))); try dsimp only) | (with_reducible apply it_p; (focus (first | assumption | (simp (disch := first | assumption | omega | rfl) only [i_rem, i_pred, i_addn1, i_lit, i_n1, i_add, i_mul, i_sub, i_le, i_lt, i_eq, i_ne1, n1_ne, n1_lt, n1_le, i_lt1, i_le1, bd_s, nar_bi, nar_0, nar_1, if_pos, if_neg, ↓reduceIte, reduceCtorEq, eq_self, if_true, if_false, not_true_eq_false, not_false_eq_true, tp_k, tp_fI, tp_fL, tp_pI, tp_pL, tp_z0, tp_z1, tp_fR0, tp0_a, tp0_t, tp0_n, tp_fR1, tp1_a, tp1_t, tp1_n, bk_k, bk_fI, bk_fL, bk_pI, bk_pL, bk_z0, bk_z1, bk_fR0, bk_fR1, bk1_a, bk1_t, bk1_n, bk_fR2, bk2_a, bk2_t, bk2_n, bk_fR3, bk3_a, bk3_t, bk3_n, bk_fR4, bk4_a, bk4_t, bk4_n, bk_fR5, bk5_a, bk5_t, bk5_n, ci]; first | done | omega)))) | (with_reducible apply it_n; (focus (first | assumption | (simp (disch := first | assumption | omega | rfl) only [i_rem, i_pred, i_addn1, i_lit, i_n1, i_add, i_mul, i_sub, i_le, i_lt, i_eq, i_ne1, n1_ne, n1_lt, n1_le, i_lt1, i_le1, bd_s, nar_bi, nar_0, nar_1, if_pos, if_neg, ↓reduceIte, reduceCtorEq, eq_self, if_true, if_false, not_true_eq_false, not_false_eq_true, tp_k, tp_fI, tp_fL, tp_pI, tp_pL, tp_z0, tp_z1, tp_fR0, tp0_a, tp0_t, tp0_n, tp_fR1, tp1_a, tp1_t, tp1_n, bk_k, bk_fI, bk_fL, bk_pI, bk_pL, bk_z0, bk_z1, bk_fR0, bk_fR1, bk1_a, bk1_t, bk1_n, bk_fR2, bk2_a, bk2_t, bk2_n, bk_fR3, bk3_a, bk3_t, bk3_n, bk_fR4, bk4_a, bk4_t, bk4_n, bk_fR5, bk5_a, bk5_t, bk5_n, ci]; first | done | omega)))))
          all_goals rfl
        · repeat (first | (with_reducible apply bd_eq; (focus (simp (disch := first | assumption | omega | rfl) only [i_rem, i_pred, i_addn1, i_lit, i_n1, i_add, i_mul, i_sub, i_le, i_lt, i_eq, i_ne1, n1_ne, n1_lt, n1_le, i_lt1, i_le1, bd_s, nar_bi, nar_0, nar_1, if_pos, if_neg, ↓reduceIte, reduceCtorEq, eq_self, if_true, if_false, not_true_eq_false, not_false_eq_true, tp_k, tp_fI, tp_fL, tp_pI, tp_pL, tp_z0, tp_z1, tp_fR0, tp0_a, tp0_t, tp0_n, tp_fR1, tp1_a, tp1_t, tp1_n, bk_k, bk_fI, bk_fL, bk_pI, bk_pL, bk_z0, bk_z1, bk_fR0, bk_fR1, bk1_a, bk1_t, bk1_n, bk_fR2, bk2_a, bk2_t, bk2_n, bk_fR3, bk3_a, bk3_t, bk3_n, bk_fR4, bk4_a, bk4_t, bk4_n, bk_fR5, bk5_a, bk5_t, bk5_n, ci, x10]; first | done | (with_reducible rfl; done))); try dsimp only) | (with_reducible apply it_p; (focus (first | assumption | (simp (disch := first | assumption | omega | rfl) only [i_rem, i_pred, i_addn1, i_lit, i_n1, i_add, i_mul, i_sub, i_le, i_lt, i_eq, i_ne1, n1_ne, n1_lt, n1_le, i_lt1, i_le1, bd_s, nar_bi, nar_0, nar_1, if_pos, if_neg, ↓reduceIte, reduceCtorEq, eq_self, if_true, if_false, not_true_eq_false, not_false_eq_true, tp_k, tp_fI, tp_fL, tp_pI, tp_pL, tp_z0, tp_z1, tp_fR0, tp0_a, tp0_t, tp0_n, tp_fR1, tp1_a, tp1_t, tp1_n, bk_k, bk_fI, bk_fL, bk_pI, bk_pL, bk_z0, bk_z1, bk_fR0, bk_fR1, bk1_a, bk1_t, bk1_n, bk_fR2, bk2_a, bk2_t, bk2_n, bk_fR3, bk3_a, bk3_t, bk3_n, bk_fR4, bk4_a, bk4_t, bk4_n, bk_fR5, bk5_a, bk5_t, bk5_n, ci, x10]; first | done | omega)))) | (with_reducible apply it_n; (focus (first | assumption | (simp (disch := first | assumption | omega | rfl) only [i_rem, i_pred, i_addn1, i_lit, i_n1, i_add, i_mul, i_sub, i_le, i_lt, i_eq, i_ne1, n1_ne, n1_lt, n1_le, i_lt1, i_le1, bd_s, nar_bi, nar_0, nar_1, if_pos, if_neg, ↓reduceIte, reduceCtorEq, eq_self, if_true, if_false, not_true_eq_false, not_false_eq_true, tp_k, tp_fI, tp_fL, tp_pI, tp_pL, tp_z0, tp_z1, tp_fR0, tp0_a, tp0_t, tp0_n, tp_fR1, tp1_a, tp1_t, tp1_n, bk_k, bk_fI, bk_fL, bk_pI, bk_pL, bk_z0, bk_z1, bk_fR0, bk_fR1, bk1_a, bk1_t, bk1_n, bk_fR2, bk2_a, bk2_t, bk2_n, bk_fR3, bk3_a, bk3_t, bk3_n, bk_fR4, bk4_a, bk4_t, bk4_n, bk_fR5, bk5_a, bk5_t, bk5_n, ci, x10]; first | done | omega)))))
          all_goals rfl
      | inr t' =>
        rw [ho] at g4
        have hR : isR (blO n T m H W i t) = true := oM_R (k := 59) (n := n) (T := T) (m := m) (by rw [ho]; rfl)
        obtain ⟨o1, o2⟩ := bl_ok hR
        have s1 := g2 hR
        have s2 : CL (i + 1) (u1 X i (blV n T m H W t)) J2 := by
          unfold CL lnC5 at *
          rw [g5.1 108 (by omega), g5.1 109 (by omega), g5.1 110 (by omega), g5.1 111 (by omega), g5.1 112 (by omega), g5.1 113 (by omega)]
          exact s1
        have hX' : ∀ j, j < i + 1 → lnOk H (u1 X i (blV n T m H W t) j) := fun j hj => by
          by_cases hji : j = i
          · subst hji; rw [u1_eq]; exact o2
          · rw [u1_ne hji]; exact hX j (by omega)
        obtain ⟨q1, J, K, q2, q3, q4⟩ := ih (i + 1) F _ t' _ K2 (by omega) (by omega) (by omega) hX' (RS_of (fun q z1 z2 => fr.1 q (by omega) (by omega)) hs) (NS_of (fun q z1 z2 => fr.2.2.2 q (by omega)) hw) s2 g4
        exact ⟨q1, J, K, q2, q3, fr.tr q4⟩
theorem m_bkL {u : Int32} (hN : 1200 < N) (hO : hOk H) (hn : nOk H W) : ∀ f i F X t I L, f + i = 41 → i ≤ 40 → f + 2 ≤ F → MNm H W I L → ML i X I → MqR n T m (.inr t) I L → ∃ J K, fX11_book_L30 N 186 u F (mk I L r) = some (MbA (bkL n T m H W f i X t) (mk J K r)) ∧ MbO n T m (bkL n T m H W f i X t) J K ∧ FrY' I J L K := by
  intro f
  induction f with
  | zero => intro i F X t I L hf hi; omega
  | succ f ih =>
    intro i F X t I L hf hi hF hm hc h
    obtain ⟨F, rfl⟩ : ∃ G, F = G + 1 := ⟨F - 1, by omega⟩
    have x7 : I 186 7 = i32 (kM t.1) := h.2.1.1
    have t4 : t.1 ≤ 4 := h.2.2.2.1
    have kt : ¬ bi true = i32 0 := by decide
    have kf : bi false = i32 0 := rfl
    rw [bkL]
    by_cases c0 : t.1 = 0
    · rw [if_pos c0]
      have x7 : I 186 7 = i32 0 := by rw [x7, c0]; rfl
      refine ⟨I, L, ?_, ⟨⟨t, h⟩, hc⟩, FrY.rf.p⟩
      unfold fX11_book_L30
      repeat (first | (with_reducible apply bd_eq; (focus (simp (disch := first | assumption | omega | rfl) only [i_rem, i_pred, i_addn1, i_lit, i_n1, i_add, i_mul, i_sub, i_le, i_lt, i_eq, i_ne1, n1_ne, n1_lt, n1_le, i_lt1, i_le1, bd_s, nar_bi, nar_0, nar_1, if_pos, if_neg, ↓reduceIte, reduceCtorEq, eq_self, if_true, if_false, not_true_eq_false, not_false_eq_true, mo_k, mo_fI, mo_fL, mo_pI, mo_pL, mo_z0, mo_z1, mo_fR1, mo1_a, mo1_t, mo1_n, mo_fR14, mo14_a, mo14_t, mo14_n, mo_fR15, mo15_a, mo15_t, mo15_n, mo_fR16, mo16_a, mo16_t, mo16_n, mo_fR17, mo17_a, mo17_t, mo17_n, mo_fR18, mo18_a, mo18_t, mo18_n, mo_fR19, mo19_a, mo19_t, mo19_n, mo_fR20, mo20_a, mo20_t, mo20_n, mo_fR21, mo21_a, mo21_t, mo21_n, mo_fR22, mo22_a, mo22_t, mo22_n, mo_fR25, mo25_a, mo25_t, mo25_n, mo_fR26, mo26_a, mo26_t, mo26_n, mo_fR28, mo28_a, mo28_t, mo28_n, mo_fR29, mo29_a, mo29_t, mo29_n, mo_fR30, mo30_a, mo30_t, mo30_n, mo_fR33, mo33_a, mo33_t, mo33_n, mo_fR36, mo36_a, mo36_t, mo36_n, mo_fR37, mo37_a, mo37_t, mo37_n, mo_fR40, mo40_a, mo40_t, mo40_n, x7]; first | done | (with_reducible rfl; done))); try dsimp only) | (with_reducible apply it_p; (focus (first | assumption | (simp (disch := first | assumption | omega | rfl) only [i_rem, i_pred, i_addn1, i_lit, i_n1, i_add, i_mul, i_sub, i_le, i_lt, i_eq, i_ne1, n1_ne, n1_lt, n1_le, i_lt1, i_le1, bd_s, nar_bi, nar_0, nar_1, if_pos, if_neg, ↓reduceIte, reduceCtorEq, eq_self, if_true, if_false, not_true_eq_false, not_false_eq_true, mo_k, mo_fI, mo_fL, mo_pI, mo_pL, mo_z0, mo_z1, mo_fR1, mo1_a, mo1_t, mo1_n, mo_fR14, mo14_a, mo14_t, mo14_n, mo_fR15, mo15_a, mo15_t, mo15_n, mo_fR16, mo16_a, mo16_t, mo16_n, mo_fR17, mo17_a, mo17_t, mo17_n, mo_fR18, mo18_a, mo18_t, mo18_n, mo_fR19, mo19_a, mo19_t, mo19_n, mo_fR20, mo20_a, mo20_t, mo20_n, mo_fR21, mo21_a, mo21_t, mo21_n, mo_fR22, mo22_a, mo22_t, mo22_n, mo_fR25, mo25_a, mo25_t, mo25_n, mo_fR26, mo26_a, mo26_t, mo26_n, mo_fR28, mo28_a, mo28_t, mo28_n, mo_fR29, mo29_a, mo29_t, mo29_n, mo_fR30, mo30_a, mo30_t, mo30_n, mo_fR33, mo33_a, mo33_t, mo33_n, mo_fR36, mo36_a, mo36_t, mo36_n, mo_fR37, mo37_a, mo37_t, mo37_n, mo_fR40, mo40_a, mo40_t, mo40_n, x7]; first | done | omega)))) | (with_reducible apply it_n; (focus (first | assumption | (simp (disch := first | assumption | omega | rfl) only [i_rem, i_pred, i_addn1, i_lit, i_n1, i_add, i_mul, i_sub, i_le, i_lt, i_eq, i_ne1, n1_ne, n1_lt, n1_le, i_lt1, i_le1, bd_s, nar_bi, nar_0, nar_1, if_pos, if_neg, ↓reduceIte, reduceCtorEq, eq_self, if_true, if_false, not_true_eq_false, not_false_eq_true, mo_k, mo_fI, mo_fL, mo_pI, mo_pL, mo_z0, mo_z1, mo_fR1, mo1_a, mo1_t, mo1_n, mo_fR14, mo14_a, mo14_t, mo14_n, mo_fR15, mo15_a, mo15_t, mo15_n, mo_fR16, mo16_a, mo16_t, mo16_n, mo_fR17, mo17_a, mo17_t, mo17_n, mo_fR18, mo18_a, mo18_t, mo18_n, mo_fR19, mo19_a, mo19_t, mo19_n, mo_fR20, mo20_a, mo20_t, mo20_n, mo_fR21, mo21_a, mo21_t, mo21_n, mo_fR22, mo22_a, mo22_t, mo22_n, mo_fR25, mo25_a, mo25_t, mo25_n, mo_fR26, mo26_a, mo26_t, mo26_n, mo_fR28, mo28_a, mo28_t, mo28_n, mo_fR29, mo29_a, mo29_t, mo29_n, mo_fR30, mo30_a, mo30_t, mo30_n, mo_fR33, mo33_a, mo33_t, mo33_n, mo_fR36, mo36_a, mo36_t, mo36_n, mo_fR37, mo37_a, mo37_t, mo37_n, mo_fR40, mo40_a, mo40_t, mo40_n, x7]; first | done | omega)))))
      all_goals rfl
    · rw [if_neg c0]
      have x7 : ¬ I 186 7 = i32 0 := by
        rw [x7, i_eq (by unfold kM; split <;> (try split) <;> (try split) <;> (try split) <;> omega) (by omega)]
        unfold kM; rw [if_neg c0]; split <;> (try split) <;> (try split) <;> omega
      obtain ⟨J1, K1, e1, g1, g2, g3⟩ := m_bkLine (N := N) (r := r) hN hO hn hm h hc hi
      cases ho : oM n T m 59 (blO n T m H W i t) with
      | inl e =>
        rw [ho] at e1 g1
        have y : J1 186 11 = i32 e.2 := g1.2.2
        refine ⟨J1, K1, ?_, g1, g3.p⟩
        unfold fX11_book_L30
        repeat (first | (with_reducible apply bd_eq; (focus (simp (disch := first | assumption | omega | rfl) only [i_rem, i_pred, i_addn1, i_lit, i_n1, i_add, i_mul, i_sub, i_le, i_lt, i_eq, i_ne1, n1_ne, n1_lt, n1_le, i_lt1, i_le1, bd_s, nar_bi, nar_0, nar_1, if_pos, if_neg, ↓reduceIte, reduceCtorEq, eq_self, if_true, if_false, not_true_eq_false, not_false_eq_true, mo_k, mo_fI, mo_fL, mo_pI, mo_pL, mo_z0, mo_z1, mo_fR1, mo1_a, mo1_t, mo1_n, mo_fR14, mo14_a, mo14_t, mo14_n, mo_fR15, mo15_a, mo15_t, mo15_n, mo_fR16, mo16_a, mo16_t, mo16_n, mo_fR17, mo17_a, mo17_t, mo17_n, mo_fR18, mo18_a, mo18_t, mo18_n, mo_fR19, mo19_a, mo19_t, mo19_n, mo_fR20, mo20_a, mo20_t, mo20_n, mo_fR21, mo21_a, mo21_t, mo21_n, mo_fR22, mo22_a, mo22_t, mo22_n, mo_fR25, mo25_a, mo25_t, mo25_n, mo_fR26, mo26_a, mo26_t, mo26_n, mo_fR28, mo28_a, mo28_t, mo28_n, mo_fR29, mo29_a, mo29_t, mo29_n, mo_fR30, mo30_a, mo30_t, mo30_n, mo_fR33, mo33_a, mo33_t, mo33_n, mo_fR36, mo36_a, mo36_t, mo36_n, mo_fR37, mo37_a, mo37_t, mo37_n, mo_fR40, mo40_a, mo40_t, mo40_n, x7, e1, isR, kf, y]; first | done | (with_reducible rfl; done))); try dsimp only) | (with_reducible apply it_p; (focus (first | assumption | (simp (disch := first | assumption | omega | rfl) only [i_rem, i_pred, i_addn1, i_lit, i_n1, i_add, i_mul, i_sub, i_le, i_lt, i_eq, i_ne1, n1_ne, n1_lt, n1_le, i_lt1, i_le1, bd_s, nar_bi, nar_0, nar_1, if_pos, if_neg, ↓reduceIte, reduceCtorEq, eq_self, if_true, if_false, not_true_eq_false, not_false_eq_true, mo_k, mo_fI, mo_fL, mo_pI, mo_pL, mo_z0, mo_z1, mo_fR1, mo1_a, mo1_t, mo1_n, mo_fR14, mo14_a, mo14_t, mo14_n, mo_fR15, mo15_a, mo15_t, mo15_n, mo_fR16, mo16_a, mo16_t, mo16_n, mo_fR17, mo17_a, mo17_t, mo17_n, mo_fR18, mo18_a, mo18_t, mo18_n, mo_fR19, mo19_a, mo19_t, mo19_n, mo_fR20, mo20_a, mo20_t, mo20_n, mo_fR21, mo21_a, mo21_t, mo21_n, mo_fR22, mo22_a, mo22_t, mo22_n, mo_fR25, mo25_a, mo25_t, mo25_n, mo_fR26, mo26_a, mo26_t, mo26_n, mo_fR28, mo28_a, mo28_t, mo28_n, mo_fR29, mo29_a, mo29_t, mo29_n, mo_fR30, mo30_a, mo30_t, mo30_n, mo_fR33, mo33_a, mo33_t, mo33_n, mo_fR36, mo36_a, mo36_t, mo36_n, mo_fR37, mo37_a, mo37_t, mo37_n, mo_fR40, mo40_a, mo40_t, mo40_n, x7, e1, isR, kf, y]; first | done | omega)))) | (with_reducible apply it_n; (focus (first | assumption | (simp (disch := first | assumption | omega | rfl) only [i_rem, i_pred, i_addn1, i_lit, i_n1, i_add, i_mul, i_sub, i_le, i_lt, i_eq, i_ne1, n1_ne, n1_lt, n1_le, i_lt1, i_le1, bd_s, nar_bi, nar_0, nar_1, if_pos, if_neg, ↓reduceIte, reduceCtorEq, eq_self, if_true, if_false, not_true_eq_false, not_false_eq_true, mo_k, mo_fI, mo_fL, mo_pI, mo_pL, mo_z0, mo_z1, mo_fR1, mo1_a, mo1_t, mo1_n, mo_fR14, mo14_a, mo14_t, mo14_n, mo_fR15, mo15_a, mo15_t, mo15_n, mo_fR16, mo16_a, mo16_t, mo16_n, mo_fR17, mo17_a, mo17_t, mo17_n, mo_fR18, mo18_a, mo18_t, mo18_n, mo_fR19, mo19_a, mo19_t, mo19_n, mo_fR20, mo20_a, mo20_t, mo20_n, mo_fR21, mo21_a, mo21_t, mo21_n, mo_fR22, mo22_a, mo22_t, mo22_n, mo_fR25, mo25_a, mo25_t, mo25_n, mo_fR26, mo26_a, mo26_t, mo26_n, mo_fR28, mo28_a, mo28_t, mo28_n, mo_fR29, mo29_a, mo29_t, mo29_n, mo_fR30, mo30_a, mo30_t, mo30_n, mo_fR33, mo33_a, mo33_t, mo33_n, mo_fR36, mo36_a, mo36_t, mo36_n, mo_fR37, mo37_a, mo37_t, mo37_n, mo_fR40, mo40_a, mo40_t, mo40_n, x7, e1, isR, kf, y]; first | done | omega)))))
        all_goals rfl
      | inr t' =>
        have g2 := g2 (by rw [ho]; rfl)
        rw [ho] at e1 g1
        have hR : isR (blO n T m H W i t) = true := oM_R (k := 59) (n := n) (T := T) (m := m) (by rw [ho]; rfl)
        obtain ⟨o1, o2⟩ := bl_ok hR
        have y38 : J1 186 38 = i32 i := by rw [g3.2.1 38 (by omega)]; exact hc.1
        have st : fX11_book_L30 N 186 u (F + 1) (mk I L r) = fX11_book_L30 N 186 u F (mk (up J1 186 38 (i32 (i + 1))) K1 r) := by
          conv => lhs; unfold fX11_book_L30
          repeat (first | (with_reducible apply bd_eq; (focus (simp (disch := first | assumption | omega | rfl) only [i_rem, i_pred, i_addn1, i_lit, i_n1, i_add, i_mul, i_sub, i_le, i_lt, i_eq, i_ne1, n1_ne, n1_lt, n1_le, i_lt1, i_le1, bd_s, nar_bi, nar_0, nar_1, if_pos, if_neg, ↓reduceIte, reduceCtorEq, eq_self, if_true, if_false, not_true_eq_false, not_false_eq_true, mo_k, mo_fI, mo_fL, mo_pI, mo_pL, mo_z0, mo_z1, mo_fR1, mo1_a, mo1_t, mo1_n, mo_fR14, mo14_a, mo14_t, mo14_n, mo_fR15, mo15_a, mo15_t, mo15_n, mo_fR16, mo16_a, mo16_t, mo16_n, mo_fR17, mo17_a, mo17_t, mo17_n, mo_fR18, mo18_a, mo18_t, mo18_n, mo_fR19, mo19_a, mo19_t, mo19_n, mo_fR20, mo20_a, mo20_t, mo20_n, mo_fR21, mo21_a, mo21_t, mo21_n, mo_fR22, mo22_a, mo22_t, mo22_n, mo_fR25, mo25_a, mo25_t, mo25_n, mo_fR26, mo26_a, mo26_t, mo26_n, mo_fR28, mo28_a, mo28_t, mo28_n, mo_fR29, mo29_a, mo29_t, mo29_n, mo_fR30, mo30_a, mo30_t, mo30_n, mo_fR33, mo33_a, mo33_t, mo33_n, mo_fR36, mo36_a, mo36_t, mo36_n, mo_fR37, mo37_a, mo37_t, mo37_n, mo_fR40, mo40_a, mo40_t, mo40_n, x7, e1, isR, kt, y38]; first | done | (with_reducible rfl; done))); try dsimp only) | (with_reducible apply it_p; (focus (first | assumption | (simp (disch := first | assumption | omega | rfl) only [i_rem, i_pred, i_addn1, i_lit, i_n1, i_add, i_mul, i_sub, i_le, i_lt, i_eq, i_ne1, n1_ne, n1_lt, n1_le, i_lt1, i_le1, bd_s, nar_bi, nar_0, nar_1, if_pos, if_neg, ↓reduceIte, reduceCtorEq, eq_self, if_true, if_false, not_true_eq_false, not_false_eq_true, mo_k, mo_fI, mo_fL, mo_pI, mo_pL, mo_z0, mo_z1, mo_fR1, mo1_a, mo1_t, mo1_n, mo_fR14, mo14_a, mo14_t, mo14_n, mo_fR15, mo15_a, mo15_t, mo15_n, mo_fR16, mo16_a, mo16_t, mo16_n, mo_fR17, mo17_a, mo17_t, mo17_n, mo_fR18, mo18_a, mo18_t, mo18_n, mo_fR19, mo19_a, mo19_t, mo19_n, mo_fR20, mo20_a, mo20_t, mo20_n, mo_fR21, mo21_a, mo21_t, mo21_n, mo_fR22, mo22_a, mo22_t, mo22_n, mo_fR25, mo25_a, mo25_t, mo25_n, mo_fR26, mo26_a, mo26_t, mo26_n, mo_fR28, mo28_a, mo28_t, mo28_n, mo_fR29, mo29_a, mo29_t, mo29_n, mo_fR30, mo30_a, mo30_t, mo30_n, mo_fR33, mo33_a, mo33_t, mo33_n, mo_fR36, mo36_a, mo36_t, mo36_n, mo_fR37, mo37_a, mo37_t, mo37_n, mo_fR40, mo40_a, mo40_t, mo40_n, x7, e1, isR, kt, y38]; first | done | omega)))) | (with_reducible apply it_n; (focus (first | assumption | (simp (disch := first | assumption | omega | rfl) only [i_rem, i_pred, i_addn1, i_lit, i_n1, i_add, i_mul, i_sub, i_le, i_lt, i_eq, i_ne1, n1_ne, n1_lt, n1_le, i_lt1, i_le1, bd_s, nar_bi, nar_0, nar_1, if_pos, if_neg, ↓reduceIte, reduceCtorEq, eq_self, if_true, if_false, not_true_eq_false, not_false_eq_true, mo_k, mo_fI, mo_fL, mo_pI, mo_pL, mo_z0, mo_z1, mo_fR1, mo1_a, mo1_t, mo1_n, mo_fR14, mo14_a, mo14_t, mo14_n, mo_fR15, mo15_a, mo15_t, mo15_n, mo_fR16, mo16_a, mo16_t, mo16_n, mo_fR17, mo17_a, mo17_t, mo17_n, mo_fR18, mo18_a, mo18_t, mo18_n, mo_fR19, mo19_a, mo19_t, mo19_n, mo_fR20, mo20_a, mo20_t, mo20_n, mo_fR21, mo21_a, mo21_t, mo21_n, mo_fR22, mo22_a, mo22_t, mo22_n, mo_fR25, mo25_a, mo25_t, mo25_n, mo_fR26, mo26_a, mo26_t, mo26_n, mo_fR28, mo28_a, mo28_t, mo28_n, mo_fR29, mo29_a, mo29_t, mo29_n, mo_fR30, mo30_a, mo30_t, mo30_n, mo_fR33, mo33_a, mo33_t, mo33_n, mo_fR36, mo36_a, mo36_t, mo36_n, mo_fR37, mo37_a, mo37_t, mo37_n, mo_fR40, mo40_a, mo40_t, mo40_n, x7, e1, isR, kt, y38]; first | done | omega)))))
          all_goals simp (disch := first | assumption | omega | rfl) only [i_rem, i_pred, i_addn1, i_lit, i_n1, i_add, i_mul, i_sub, i_le, i_lt, i_eq, i_ne1, n1_ne, n1_lt, n1_le, i_lt1, i_le1, bd_s, nar_bi, nar_0, nar_1, if_pos, if_neg, ↓reduceIte, reduceCtorEq, eq_self, if_true, if_false, not_true_eq_false, not_false_eq_true]
        rw [st]
        have fr : FrY' I (up J1 186 38 (i32 (i + 1))) L K1 := g3.p.u
        have g4 : MqR n T m (.inr t') (up J1 186 38 (i32 (i + 1))) K1 := MqR_s g1 (fun k hk => up_ofk (by omega)) (up_row (by omega)) rfl
        have m2 : MNm H W (up J1 186 38 (i32 (i + 1))) K1 := by
          have := MNm_y hm g3
          unfold MNm at *; rw [up_row (by omega)]; exact this
        have s2 : ML (i + 1) (u1 X i (blV n T m H W t)) (up J1 186 38 (i32 (i + 1))) := by
          refine ⟨up_self, fun j hj => ?_⟩
          have := g2 j hj
          unfold lnM at *; rw [up_row (by omega)]; exact this
        obtain ⟨J, K, q2, q3, q4⟩ := ih (i + 1) F _ t' _ K1 (by omega) (by omega) (by omega) m2 s2 g4
        exact ⟨J, K, q2, q3, fr.tr q4⟩
end
