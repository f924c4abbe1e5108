section
variable {I J : Nat → Nat → Int32} {L K : Nat → Nat → Int64} {r : Bool} {N : Nat} {T : Nat → Nat} {n m : Nat} {t : Tok} {e : Nat × Nat} {o : Oc} {H : Nat → Nat} {W : Nat → List Nat}
theorem c_oneF {rf : Nat → Nat → Nat → Int32 → Mem → Option (Unit × Mem)} {u s0 : Int32} {k : Nat} (h : CqR n T m (.inr t) I L) (hk : I 119 6 = i32 k) (hk2 : k ≤ 20) (hc : ∃ a, a ≤ 40 ∧ I 119 5 = i32 a) {x : Nat} (hx : (x = 1 ∧ ¬ i32 10 ≤ s0) ∨ (x = 4 ∧ i32 10 ≤ s0 ∧ (20 ≤ k ∨ ¬ u ≤ i32 8))) : ∃ J, fX7_readOne_J18 N rf 119 1 u s0 (mk I L r) = some ((), mk J L r) ∧ CpO n T m [] (.inl (x, t.2.1)) J L ∧ FrZe I J L L := by
  have hse : isSe 119 = true := by decide
  have g0 : ∀ I k, fI (mk I L r) 7 119 k = some (I 119 k) := fun I k => se_fI hse
  have x10 : I 1 10 = i32 0 := h.2.2.1
  obtain ⟨a, ha, ga⟩ := hc
  rcases hx with ⟨rfl, hx⟩ | ⟨rfl, hx, hx2⟩
  · obtain ⟨J, e3, g1, g2⟩ := c_failR (N := N) (r := r) (k := 1) h (by omega)
    refine ⟨J, ?_, ⟨g1, a, ha, by rw [g2.1 119 (by omega)]; exact ga⟩, g2.ze⟩
    unfold fX7_readOne_J18
    repeat (first | (with_reducible apply bd_eq; (focus (simp (disch := first | assumption | omega | rfl) only [i_rem, i_pred, i_addn1, i_lit, i_n1, i_add, i_mul, i_sub, i_le, i_lt, i_eq, i_ne1, n1_ne, n1_lt, n1_le, i_lt1, i_le1, bd_s, nar_bi, nar_0, nar_1, if_pos, if_neg, ↓reduceIte, reduceCtorEq, eq_self, if_true, if_false, not_true_eq_false, not_false_eq_true, tp_k, tp_fI, tp_fL, tp_pI, tp_pL, tp_z0, tp_z1, tp_fR0, tp0_a, tp0_t, tp0_n, tp_fR1, tp1_a, tp1_t, tp1_n, x10, hx, e3]; first | done | (with_reducible rfl; done))); try dsimp only) | (with_reducible apply it_p; (focus (first | assumption | (simp (disch := first | assumption | omega | rfl) only [i_rem, i_pred, i_addn1, i_lit, i_n1, i_add, i_mul, i_sub, i_le, i_lt, i_eq, i_ne1, n1_ne, n1_lt, n1_le, i_lt1, i_le1, bd_s, nar_bi, nar_0, nar_1, if_pos, if_neg, ↓reduceIte, reduceCtorEq, eq_self, if_true, if_false, not_true_eq_false, not_false_eq_true, tp_k, tp_fI, tp_fL, tp_pI, tp_pL, tp_z0, tp_z1, tp_fR0, tp0_a, tp0_t, tp0_n, tp_fR1, tp1_a, tp1_t, tp1_n, x10, hx, e3]; first | done | omega)))) | (with_reducible apply it_n; (focus (first | assumption | (simp (disch := first | assumption | omega | rfl) only [i_rem, i_pred, i_addn1, i_lit, i_n1, i_add, i_mul, i_sub, i_le, i_lt, i_eq, i_ne1, n1_ne, n1_lt, n1_le, i_lt1, i_le1, bd_s, nar_bi, nar_0, nar_1, if_pos, if_neg, ↓reduceIte, reduceCtorEq, eq_self, if_true, if_false, not_true_eq_false, not_false_eq_true, tp_k, tp_fI, tp_fL, tp_pI, tp_pL, tp_z0, tp_z1, tp_fR0, tp0_a, tp0_t, tp0_n, tp_fR1, tp1_a, tp1_t, tp1_n, x10, hx, e3]; first | done | omega)))))
    all_goals rfl
  · obtain ⟨J, e3, g1, g2⟩ := c_failR (N := N) (r := r) (k := 4) h (by omega)
    refine ⟨J, ?_, ⟨g1, a, ha, by rw [g2.1 119 (by omega)]; exact ga⟩, g2.ze⟩
    unfold fX7_readOne_J18
    by_cases c20 : 20 ≤ k
    · have c20' : i32 20 ≤ i32 k := (i_le (by omega) (by omega)).mpr c20
      repeat (first | (with_reducible apply bd_eq; (focus (simp (disch := first | assumption | omega | rfl) only [i_rem, i_pred, i_addn1, i_lit, i_n1, i_add, i_mul, i_sub, i_le, i_lt, i_eq, i_ne1, n1_ne, n1_lt, n1_le, i_lt1, i_le1, bd_s, nar_bi, nar_0, nar_1, if_pos, if_neg, ↓reduceIte, reduceCtorEq, eq_self, if_true, if_false, not_true_eq_false, not_false_eq_true, tp_k, tp_fI, tp_fL, tp_pI, tp_pL, tp_z0, tp_z1, tp_fR0, tp0_a, tp0_t, tp0_n, tp_fR1, tp1_a, tp1_t, tp1_n, x10, hx, g0, hk, c20', e3]; first | done | (with_reducible rfl; done))); try dsimp only) | (with_reducible apply it_p; (focus (first | assumption | (simp (disch := first | assumption | omega | rfl) only [i_rem, i_pred, i_addn1, i_lit, i_n1, i_add, i_mul, i_sub, i_le, i_lt, i_eq, i_ne1, n1_ne, n1_lt, n1_le, i_lt1, i_le1, bd_s, nar_bi, nar_0, nar_1, if_pos, if_neg, ↓reduceIte, reduceCtorEq, eq_self, if_true, if_false, not_true_eq_false, not_false_eq_true, tp_k, tp_fI, tp_fL, tp_pI, tp_pL, tp_z0, tp_z1, tp_fR0, tp0_a, tp0_t, tp0_n, tp_fR1, tp1_a, tp1_t, tp1_n, x10, hx, g0, hk, c20', e3]; first | done | omega)))) | (with_reducible apply it_n; (focus (first | assumption | (simp (disch := first | assumption | omega | rfl) only [i_rem, i_pred, i_addn1, i_lit, i_n1, i_add, i_mul, i_sub, i_le, i_lt, i_eq, i_ne1, n1_ne, n1_lt, n1_le, i_lt1, i_le1, bd_s, nar_bi, nar_0, nar_1, if_pos, if_neg, ↓reduceIte, reduceCtorEq, eq_self, if_true, if_false, not_true_eq_false, not_false_eq_true, tp_k, tp_fI, tp_fL, tp_pI, tp_pL, tp_z0, tp_z1, tp_fR0, tp0_a, tp0_t, tp0_n, tp_fR1, tp1_a, tp1_t, tp1_n, x10, hx, g0, hk, c20', e3]; first | done | omega)))))
      all_goals rfl
    · have c20' : ¬ i32 20 ≤ i32 k := by rw [i_le (by omega) (by omega)]; exact c20
      have hu : ¬ u ≤ i32 8 := by
        rcases hx2 with z | z
        · exact absurd z c20
        · exact z
      repeat (first | (with_reducible apply bd_eq; (focus (simp (disch := first | assumption | omega | rfl) only [i_rem, i_pred, i_addn1, i_lit, i_n1, i_add, i_mul, i_sub, i_le, i_lt, i_eq, i_ne1, n1_ne, n1_lt, n1_le, i_lt1, i_le1, bd_s, nar_bi, nar_0, nar_1, if_pos, if_neg, ↓reduceIte, reduceCtorEq, eq_self, if_true, if_false, not_true_eq_false, not_false_eq_true, tp_k, tp_fI, tp_fL, tp_pI, tp_pL, tp_z0, tp_z1, tp_fR0, tp0_a, tp0_t, tp0_n, tp_fR1, tp1_a, tp1_t, tp1_n, x10, hx, g0, hk, c20', hu, e3]; first | done | (with_reducible rfl; done))); try dsimp only) | (with_reducible apply it_p; (focus (first | assumption | (simp (disch := first | assumption | omega | rfl) only [i_rem, i_pred, i_addn1, i_lit, i_n1, i_add, i_mul, i_sub, i_le, i_lt, i_eq, i_ne1, n1_ne, n1_lt, n1_le, i_lt1, i_le1, bd_s, nar_bi, nar_0, nar_1, if_pos, if_neg, ↓reduceIte, reduceCtorEq, eq_self, if_true, if_false, not_true_eq_false, not_false_eq_true, tp_k, tp_fI, tp_fL, tp_pI, tp_pL, tp_z0, tp_z1, tp_fR0, tp0_a, tp0_t, tp0_n, tp_fR1, tp1_a, tp1_t, tp1_n, x10, hx, g0, hk, c20', hu, e3]; first | done | omega)))) | (with_reducible apply it_n; (focus (first | assumption | (simp (disch := first | assumption | omega | rfl) only [i_rem, i_pred, i_addn1, i_lit, i_n1, i_add, i_mul, i_sub, i_le, i_lt, i_eq, i_ne1, n1_ne, n1_lt, n1_le, i_lt1, i_le1, bd_s, nar_bi, nar_0, nar_1, if_pos, if_neg, ↓reduceIte, reduceCtorEq, eq_self, if_true, if_false, not_true_eq_false, not_false_eq_true, tp_k, tp_fI, tp_fL, tp_pI, tp_pL, tp_z0, tp_z1, tp_fR0, tp0_a, tp0_t, tp0_n, tp_fR1, tp1_a, tp1_t, tp1_n, x10, hx, g0, hk, c20', hu, e3]; first | done | omega)))))
      all_goals rfl
theorem c_rd (hN : 1200 < N) (hO : hOk H) (hn : nOk H W) (h9 : n ≤ 940) (hT : ∀ k, k < n → T k < 256) : ∀ g, g ≤ 8 → ∀ d, 2 * g + 1 ≤ d → RfOk n T m H W r (fX7_rd N d) (i32 (9 - g)) (pOn n T m H W g) := by
  have hse : isSe 119 = true := by decide
  have k9 : ∀ I L, mK (mk I L r) 119 = 8 := fun I L => se_k hse
  have gg : ∀ I L k, fI (mk I L r) 7 119 k = some (I 119 k) := fun I L k => se_fI hse
  have pp : ∀ I L k v, pI (mk I L r) 7 119 k v = some (mk (up I 119 k v) L r) := fun I L k v => se_pI hse
  have kt : ¬ bi true = i32 0 := by decide
  have kf : bi false = i32 0 := rfl
  have ten : i32 10 ≤ i32 20 := by decide
  intro g
  induction g with
  | zero =>
    intro _ d hd k pre t I L hs hw hc hk hk2 hl h
    obtain ⟨d, rfl⟩ : ∃ d', d = d' + 1 := ⟨d - 1, by omega⟩
    rw [fX7_rd, if_neg (by decide)]
    rw [pOn]
    have am := c_atMark (N := N) (r := r) (c := 40) h (by omega)
    obtain ⟨w1, w2, w3⟩ := c_stW h
    have u9 : ¬ i32 (9 - 0) ≤ i32 8 := by decide
    have ca : ∃ a, a ≤ 40 ∧ I 119 5 = i32 a := ⟨_, hc.2.1, hc.1⟩
    cases hb : isBk t with
    | true =>
      rw [w1 hb, if_neg (by intro z; cases z)]
      have am : fX9_atMark N 1 (i32 40) (mk I L r) = some (bi true, mk I L r) := by rw [am]; exact congrArg (fun b => some (bi b, mk I L r)) hb
      obtain ⟨J, e1, g1, g2⟩ := c_oneF (N := N) (r := r) (rf := fX7_rd N d) (u := i32 (9 - 0)) (s0 := i32 20) h hk hk2 ca (Or.inr ⟨rfl, ten, Or.inr u9⟩)
      refine ⟨J, L, ?_, g1, g2⟩
      unfold fX7_readOne_b
      repeat (first | (with_reducible apply bd_eq; (focus (simp (disch := first | assumption | omega | rfl) only [i_rem, i_pred, i_addn1, i_lit, i_n1, i_add, i_mul, i_sub, i_le, i_lt, i_eq, i_ne1, n1_ne, n1_lt, n1_le, i_lt1, i_le1, bd_s, nar_bi, nar_0, nar_1, if_pos, if_neg, ↓reduceIte, reduceCtorEq, eq_self, if_true, if_false, not_true_eq_false, not_false_eq_true, tp_k, tp_fI, tp_fL, tp_pI, tp_pL, tp_z0, tp_z1, tp_fR0, tp0_a, tp0_t, tp0_n, tp_fR1, tp1_a, tp1_t, tp1_n, am, kt]; first | done | (with_reducible rfl; done))); try dsimp only) | (with_reducible apply it_p; (focus (first | assumption | (simp (disch := first | assumption | omega | rfl) only [i_rem, i_pred, i_addn1, i_lit, i_n1, i_add, i_mul, i_sub, i_le, i_lt, i_eq, i_ne1, n1_ne, n1_lt, n1_le, i_lt1, i_le1, bd_s, nar_bi, nar_0, nar_1, if_pos, if_neg, ↓reduceIte, reduceCtorEq, eq_self, if_true, if_false, not_true_eq_false, not_false_eq_true, tp_k, tp_fI, tp_fL, tp_pI, tp_pL, tp_z0, tp_z1, tp_fR0, tp0_a, tp0_t, tp0_n, tp_fR1, tp1_a, tp1_t, tp1_n, am, kt]; first | done | omega)))) | (with_reducible apply it_n; (focus (first | assumption | (simp (disch := first | assumption | omega | rfl) only [i_rem, i_pred, i_addn1, i_lit, i_n1, i_add, i_mul, i_sub, i_le, i_lt, i_eq, i_ne1, n1_ne, n1_lt, n1_le, i_lt1, i_le1, bd_s, nar_bi, nar_0, nar_1, if_pos, if_neg, ↓reduceIte, reduceCtorEq, eq_self, if_true, if_false, not_true_eq_false, not_false_eq_true, tp_k, tp_fI, tp_fL, tp_pI, tp_pL, tp_z0, tp_z1, tp_fR0, tp0_a, tp0_t, tp0_n, tp_fR1, tp1_a, tp1_t, tp1_n, am, kt]; first | done | omega)))))
      all_goals exact e1
    | false =>
      have am : fX9_atMark N 1 (i32 40) (mk I L r) = some (bi false, mk I L r) := by rw [am]; exact congrArg (fun b => some (bi b, mk I L r)) hb
      cases hq : stW t with
      | none =>
        rw [if_pos rfl]
        obtain ⟨J, e1, g1, g2⟩ := c_oneF (N := N) (r := r) (rf := fX7_rd N d) (u := i32 (9 - 0)) (s0 := I 1 9) h hk hk2 ca (Or.inl ⟨rfl, w2 hb hq⟩)
        refine ⟨J, L, ?_, g1, g2⟩
        unfold fX7_readOne_b
        repeat (first | (with_reducible apply bd_eq; (focus (simp (disch := first | assumption | omega | rfl) only [i_rem, i_pred, i_addn1, i_lit, i_n1, i_add, i_mul, i_sub, i_le, i_lt, i_eq, i_ne1, n1_ne, n1_lt, n1_le, i_lt1, i_le1, bd_s, nar_bi, nar_0, nar_1, if_pos, if_neg, ↓reduceIte, reduceCtorEq, eq_self, if_true, if_false, not_true_eq_false, not_false_eq_true, tp_k, tp_fI, tp_fL, tp_pI, tp_pL, tp_z0, tp_z1, tp_fR0, tp0_a, tp0_t, tp0_n, tp_fR1, tp1_a, tp1_t, tp1_n, am, kf]; first | done | (with_reducible rfl; done))); try dsimp only) | (with_reducible apply it_p; (focus (first | assumption | (simp (disch := first | assumption | omega | rfl) only [i_rem, i_pred, i_addn1, i_lit, i_n1, i_add, i_mul, i_sub, i_le, i_lt, i_eq, i_ne1, n1_ne, n1_lt, n1_le, i_lt1, i_le1, bd_s, nar_bi, nar_0, nar_1, if_pos, if_neg, ↓reduceIte, reduceCtorEq, eq_self, if_true, if_false, not_true_eq_false, not_false_eq_true, tp_k, tp_fI, tp_fL, tp_pI, tp_pL, tp_z0, tp_z1, tp_fR0, tp0_a, tp0_t, tp0_n, tp_fR1, tp1_a, tp1_t, tp1_n, am, kf]; first | done | omega)))) | (with_reducible apply it_n; (focus (first | assumption | (simp (disch := first | assumption | omega | rfl) only [i_rem, i_pred, i_addn1, i_lit, i_n1, i_add, i_mul, i_sub, i_le, i_lt, i_eq, i_ne1, n1_ne, n1_lt, n1_le, i_lt1, i_le1, bd_s, nar_bi, nar_0, nar_1, if_pos, if_neg, ↓reduceIte, reduceCtorEq, eq_self, if_true, if_false, not_true_eq_false, not_false_eq_true, tp_k, tp_fI, tp_fL, tp_pI, tp_pL, tp_z0, tp_z1, tp_fR0, tp0_a, tp0_t, tp0_n, tp_fR1, tp1_a, tp1_t, tp1_n, am, kf]; first | done | omega)))))
        all_goals exact e1
      | some q =>
        rw [if_neg (by intro z; cases z)]
        obtain ⟨z1, z2, z3⟩ := w3 q hb hq
        have ten' : i32 10 ≤ I 1 9 := by rw [z1, i_le (by omega) (by omega)]; exact z2
        obtain ⟨J, e1, g1, g2⟩ := c_oneF (N := N) (r := r) (rf := fX7_rd N d) (u := i32 (9 - 0)) (s0 := I 1 9) h hk hk2 ca (Or.inr ⟨rfl, ten', Or.inr u9⟩)
        refine ⟨J, L, ?_, g1, g2⟩
        unfold fX7_readOne_b
        repeat (first | (with_reducible apply bd_eq; (focus (simp (disch := first | assumption | omega | rfl) only [i_rem, i_pred, i_addn1, i_lit, i_n1, i_add, i_mul, i_sub, i_le, i_lt, i_eq, i_ne1, n1_ne, n1_lt, n1_le, i_lt1, i_le1, bd_s, nar_bi, nar_0, nar_1, if_pos, if_neg, ↓reduceIte, reduceCtorEq, eq_self, if_true, if_false, not_true_eq_false, not_false_eq_true, tp_k, tp_fI, tp_fL, tp_pI, tp_pL, tp_z0, tp_z1, tp_fR0, tp0_a, tp0_t, tp0_n, tp_fR1, tp1_a, tp1_t, tp1_n, am, kf]; first | done | (with_reducible rfl; done))); try dsimp only) | (with_reducible apply it_p; (focus (first | assumption | (simp (disch := first | assumption | omega | rfl) only [i_rem, i_pred, i_addn1, i_lit, i_n1, i_add, i_mul, i_sub, i_le, i_lt, i_eq, i_ne1, n1_ne, n1_lt, n1_le, i_lt1, i_le1, bd_s, nar_bi, nar_0, nar_1, if_pos, if_neg, ↓reduceIte, reduceCtorEq, eq_self, if_true, if_false, not_true_eq_false, not_false_eq_true, tp_k, tp_fI, tp_fL, tp_pI, tp_pL, tp_z0, tp_z1, tp_fR0, tp0_a, tp0_t, tp0_n, tp_fR1, tp1_a, tp1_t, tp1_n, am, kf]; first | done | omega)))) | (with_reducible apply it_n; (focus (first | assumption | (simp (disch := first | assumption | omega | rfl) only [i_rem, i_pred, i_addn1, i_lit, i_n1, i_add, i_mul, i_sub, i_le, i_lt, i_eq, i_ne1, n1_ne, n1_lt, n1_le, i_lt1, i_le1, bd_s, nar_bi, nar_0, nar_1, if_pos, if_neg, ↓reduceIte, reduceCtorEq, eq_self, if_true, if_false, not_true_eq_false, not_false_eq_true, tp_k, tp_fI, tp_fL, tp_pI, tp_pL, tp_z0, tp_z1, tp_fR0, tp0_a, tp0_t, tp0_n, tp_fR1, tp1_a, tp1_t, tp1_n, am, kf]; first | done | omega)))))
        all_goals exact e1
  | succ g ih =>
    intro hg d hd k pre t I L hs hw hc hk hk2 hl h
    obtain ⟨d, rfl⟩ : ∃ d', d = d' + 1 + 1 := ⟨d - 2, by omega⟩
    have hP := pOn_ok (m := m) (W := W) hO h9 hT g
    have ih1 := ih (by omega) (d + 1) (by omega)
    have ih0 := ih (by omega) d (by omega)
    rw [fX7_rd, if_neg (by decide)]
    rw [pOn]
    have am := c_atMark (N := N) (r := r) (c := 40) h (by omega)
    obtain ⟨w1, w2, w3⟩ := c_stW h
    have x10 : I 1 10 = i32 0 := h.2.2.1
    have u8 : i32 (9 - (g + 1)) ≤ i32 8 := (i_le (by omega) (by omega)).mpr (by omega)
    have u1' : i32 (9 - (g + 1)) + i32 1 = i32 (9 - g) := by rw [i_add]; congr 1; omega
    have ca : ∃ a, a ≤ 40 ∧ I 119 5 = i32 a := ⟨_, hc.2.1, hc.1⟩
    -- the head of a one: counted, its first word passed
    have h' : CqR n T m (.inr t) (up I 119 6 (i32 (k + 1))) L := CqR_s h (up_row (by omega)) (up_row (by omega)) rfl rfl
    obtain ⟨J1, K1, e1, g1, g2⟩ := c_adv (N := N) (r := r) hN h'
    have fr1 : FrZe I J1 L K1 := (FrZe.rf.u (by omega)).tr g2.ze
    have cs1 : CS 119 pre J1 := by
      unfold CS at *
      rw [g2.1 119 (by omega), g2.1 120 (by omega), g2.1 121 (by omega), g2.1 122 (by omega), up_ofk (by omega), up_row (by omega), up_row (by omega), up_row (by omega)]
      exact hc
    have k1 : J1 119 6 = i32 (k + 1) := by rw [g2.1 119 (by omega), up_self]
    have rs1 : RS 4 H J1 := RS_of (fun q z1 z2 => fr1.1 q (by omega) (by omega)) hs
    have ns1 : NS 4 H W K1 := NS_of (fun q z1 z2 => fr1.2.2 q (by omega)) hw
    cases hb : isBk t with
    | true =>
      have am : fX9_atMark N 1 (i32 40) (mk I L r) = some (bi true, mk I L r) := by rw [am]; exact congrArg (fun b => some (bi b, mk I L r)) hb
      rw [w1 hb]
      dsimp only
      by_cases ck : 20 ≤ k
      · rw [if_pos ck]
        obtain ⟨J, e1, g1, g2⟩ := c_oneF (N := N) (r := r) (rf := fX7_rd N (d + 1)) (u := i32 (9 - (g + 1))) (s0 := i32 20) h hk hk2 ca (Or.inr ⟨rfl, ten, Or.inl ck⟩)
        refine ⟨J, L, ?_, g1, g2⟩
        unfold fX7_readOne_b
        repeat (first | (with_reducible apply bd_eq; (focus (simp (disch := first | assumption | omega | rfl) only [i_rem, i_pred, i_addn1, i_lit, i_n1, i_add, i_mul, i_sub, i_le, i_lt, i_eq, i_ne1, n1_ne, n1_lt, n1_le, i_lt1, i_le1, bd_s, nar_bi, nar_0, nar_1, if_pos, if_neg, ↓reduceIte, reduceCtorEq, eq_self, if_true, if_false, not_true_eq_false, not_false_eq_true, tp_k, tp_fI, tp_fL, tp_pI, tp_pL, tp_z0, tp_z1, tp_fR0, tp0_a, tp0_t, tp0_n, tp_fR1, tp1_a, tp1_t, tp1_n, am, kt]; first | done | (with_reducible rfl; done))); try dsimp only) | (with_reducible apply it_p; (focus (first | assumption | (simp (disch := first | assumption | omega | rfl) only [i_rem, i_pred, i_addn1, i_lit, i_n1, i_add, i_mul, i_sub, i_le, i_lt, i_eq, i_ne1, n1_ne, n1_lt, n1_le, i_lt1, i_le1, bd_s, nar_bi, nar_0, nar_1, if_pos, if_neg, ↓reduceIte, reduceCtorEq, eq_self, if_true, if_false, not_true_eq_false, not_false_eq_true, tp_k, tp_fI, tp_fL, tp_pI, tp_pL, tp_z0, tp_z1, tp_fR0, tp0_a, tp0_t, tp0_n, tp_fR1, tp1_a, tp1_t, tp1_n, am, kt]; first | done | omega)))) | (with_reducible apply it_n; (focus (first | assumption | (simp (disch := first | assumption | omega | rfl) only [i_rem, i_pred, i_addn1, i_lit, i_n1, i_add, i_mul, i_sub, i_le, i_lt, i_eq, i_ne1, n1_ne, n1_lt, n1_le, i_lt1, i_le1, bd_s, nar_bi, nar_0, nar_1, if_pos, if_neg, ↓reduceIte, reduceCtorEq, eq_self, if_true, if_false, not_true_eq_false, not_false_eq_true, tp_k, tp_fI, tp_fL, tp_pI, tp_pL, tp_z0, tp_z1, tp_fR0, tp0_a, tp0_t, tp0_n, tp_fR1, tp1_a, tp1_t, tp1_n, am, kt]; first | done | omega)))))
        all_goals exact e1
      · rw [if_neg ck, if_neg (by omega), if_pos rfl]
        have ck' : ¬ i32 20 ≤ i32 k := by rw [i_le (by omega) (by omega)]; exact ck
        obtain ⟨J2, K2, e2, g3, g4⟩ := c_cond (N := N) hN h9 hT ih0 hP rs1 ns1 cs1 k1 (by omega) (by omega) g1
        have e2' : fX7_rd N (d + 1) 0 119 1 (i32 (9 - g)) (mk J1 K1 r) = some ((), mk J2 K2 r) := by rw [fX7_rd, if_pos rfl]; exact e2
        cases hx : pCo n T m (pOn n T m H W g) (k + 1) (nt n T m t) with
        | inl e =>
          rw [hx] at g3
          obtain ⟨g3, a, ha, ga⟩ := g3
          obtain ⟨J3, K3, e3, g5, g6⟩ := c_takeMark (N := N) (r := r) (c := 41) hN g3 (by omega)
          refine ⟨J3, K3, ?_, ⟨g5, a, ha, by rw [g6.1 119 (by omega)]; exact ga⟩, (fr1.tr g4).tr g6.ze⟩
          unfold fX7_readOne_b fX7_readOne_J18
          repeat (first | (with_reducible apply bd_eq; (focus (simp (disch := first | assumption | omega | rfl) only [i_rem, i_pred, i_addn1, i_lit, i_n1, i_add, i_mul, i_sub, i_le, i_lt, i_eq, i_ne1, n1_ne, n1_lt, n1_le, i_lt1, i_le1, bd_s, nar_bi, nar_0, nar_1, if_pos, if_neg, ↓reduceIte, reduceCtorEq, eq_self, if_true, if_false, not_true_eq_false, not_false_eq_true, tp_k, tp_fI, tp_fL, tp_pI, tp_pL, tp_z0, tp_z1, tp_fR0, tp0_a, tp0_t, tp0_n, tp_fR1, tp1_a, tp1_t, tp1_n, am, kt, x10, gg, hk, ck', u8, pp, e1, u1', e2', k9, e3]; first | done | (with_reducible rfl; done))); try dsimp only) | (with_reducible apply it_p; (focus (first | assumption | (simp (disch := first | assumption | omega | rfl) only [i_rem, i_pred, i_addn1, i_lit, i_n1, i_add, i_mul, i_sub, i_le, i_lt, i_eq, i_ne1, n1_ne, n1_lt, n1_le, i_lt1, i_le1, bd_s, nar_bi, nar_0, nar_1, if_pos, if_neg, ↓reduceIte, reduceCtorEq, eq_self, if_true, if_false, not_true_eq_false, not_false_eq_true, tp_k, tp_fI, tp_fL, tp_pI, tp_pL, tp_z0, tp_z1, tp_fR0, tp0_a, tp0_t, tp0_n, tp_fR1, tp1_a, tp1_t, tp1_n, am, kt, x10, gg, hk, ck', u8, pp, e1, u1', e2', k9, e3]; first | done | omega)))) | (with_reducible apply it_n; (focus (first | assumption | (simp (disch := first | assumption | omega | rfl) only [i_rem, i_pred, i_addn1, i_lit, i_n1, i_add, i_mul, i_sub, i_le, i_lt, i_eq, i_ne1, n1_ne, n1_lt, n1_le, i_lt1, i_le1, bd_s, nar_bi, nar_0, nar_1, if_pos, if_neg, ↓reduceIte, reduceCtorEq, eq_self, if_true, if_false, not_true_eq_false, not_false_eq_true, tp_k, tp_fI, tp_fL, tp_pI, tp_pL, tp_z0, tp_z1, tp_fR0, tp0_a, tp0_t, tp0_n, tp_fR1, tp1_a, tp1_t, tp1_n, am, kt, x10, gg, hk, ck', u8, pp, e1, u1', e2', k9, e3]; first | done | omega)))))
          all_goals rfl
        | inr x =>
          rw [hx] at g3
          obtain ⟨g3, g7, g8⟩ := g3
          obtain ⟨J3, K3, e3, g5, g6⟩ := c_takeMark (N := N) (r := r) (c := 41) hN g3 (by omega)
          refine ⟨J3, K3, ?_, ?_, (fr1.tr g4).tr g6.ze⟩
          · unfold fX7_readOne_b fX7_readOne_J18
            repeat (first | (with_reducible apply bd_eq; (focus (simp (disch := first | assumption | omega | rfl) only [i_rem, i_pred, i_addn1, i_lit, i_n1, i_add, i_mul, i_sub, i_le, i_lt, i_eq, i_ne1, n1_ne, n1_lt, n1_le, i_lt1, i_le1, bd_s, nar_bi, nar_0, nar_1, if_pos, if_neg, ↓reduceIte, reduceCtorEq, eq_self, if_true, if_false, not_true_eq_false, not_false_eq_true, tp_k, tp_fI, tp_fL, tp_pI, tp_pL, tp_z0, tp_z1, tp_fR0, tp0_a, tp0_t, tp0_n, tp_fR1, tp1_a, tp1_t, tp1_n, am, kt, x10, gg, hk, ck', u8, pp, e1, u1', e2', k9, e3]; first | done | (with_reducible rfl; done))); try dsimp only) | (with_reducible apply it_p; (focus (first | assumption | (simp (disch := first | assumption | omega | rfl) only [i_rem, i_pred, i_addn1, i_lit, i_n1, i_add, i_mul, i_sub, i_le, i_lt, i_eq, i_ne1, n1_ne, n1_lt, n1_le, i_lt1, i_le1, bd_s, nar_bi, nar_0, nar_1, if_pos, if_neg, ↓reduceIte, reduceCtorEq, eq_self, if_true, if_false, not_true_eq_false, not_false_eq_true, tp_k, tp_fI, tp_fL, tp_pI, tp_pL, tp_z0, tp_z1, tp_fR0, tp0_a, tp0_t, tp0_n, tp_fR1, tp1_a, tp1_t, tp1_n, am, kt, x10, gg, hk, ck', u8, pp, e1, u1', e2', k9, e3]; first | done | omega)))) | (with_reducible apply it_n; (focus (first | assumption | (simp (disch := first | assumption | omega | rfl) only [i_rem, i_pred, i_addn1, i_lit, i_n1, i_add, i_mul, i_sub, i_le, i_lt, i_eq, i_ne1, n1_ne, n1_lt, n1_le, i_lt1, i_le1, bd_s, nar_bi, nar_0, nar_1, if_pos, if_neg, ↓reduceIte, reduceCtorEq, eq_self, if_true, if_false, not_true_eq_false, not_false_eq_true, tp_k, tp_fI, tp_fL, tp_pI, tp_pL, tp_z0, tp_z1, tp_fR0, tp0_a, tp0_t, tp0_n, tp_fR1, tp1_a, tp1_t, tp1_n, am, kt, x10, gg, hk, ck', u8, pp, e1, u1', e2', k9, e3]; first | done | omega)))))
            all_goals rfl
          · dsimp only
            cases ho : oM n T m 41 (.inr x.2.1) with
            | inl e =>
              rw [ho] at g5
              exact ⟨g5, _, g7.2.1, by rw [g6.1 119 (by omega)]; exact g7.1⟩
            | inr t' =>
              rw [ho] at g5
              exact ⟨g5, CS_e g7 g6, by rw [g6.1 119 (by omega)]; exact g8⟩
    | false =>
      have am : fX9_atMark N 1 (i32 40) (mk I L r) = some (bi false, mk I L r) := by rw [am]; exact congrArg (fun b => some (bi b, mk I L r)) hb
      cases hq : stW t with
      | none =>
        dsimp only
        obtain ⟨J, e1, g1, g2⟩ := c_oneF (N := N) (r := r) (rf := fX7_rd N (d + 1)) (u := i32 (9 - (g + 1))) (s0 := I 1 9) h hk hk2 ca (Or.inl ⟨rfl, w2 hb hq⟩)
        refine ⟨J, L, ?_, g1, g2⟩
        unfold fX7_readOne_b
        repeat (first | (with_reducible apply bd_eq; (focus (simp (disch := first | assumption | omega | rfl) only [i_rem, i_pred, i_addn1, i_lit, i_n1, i_add, i_mul, i_sub, i_le, i_lt, i_eq, i_ne1, n1_ne, n1_lt, n1_le, i_lt1, i_le1, bd_s, nar_bi, nar_0, nar_1, if_pos, if_neg, ↓reduceIte, reduceCtorEq, eq_self, if_true, if_false, not_true_eq_false, not_false_eq_true, tp_k, tp_fI, tp_fL, tp_pI, tp_pL, tp_z0, tp_z1, tp_fR0, tp0_a, tp0_t, tp0_n, tp_fR1, tp1_a, tp1_t, tp1_n, am, kf]; first | done | (with_reducible rfl; done))); try dsimp only) | (with_reducible apply it_p; (focus (first | assumption | (simp (disch := first | assumption | omega | rfl) only [i_rem, i_pred, i_addn1, i_lit, i_n1, i_add, i_mul, i_sub, i_le, i_lt, i_eq, i_ne1, n1_ne, n1_lt, n1_le, i_lt1, i_le1, bd_s, nar_bi, nar_0, nar_1, if_pos, if_neg, ↓reduceIte, reduceCtorEq, eq_self, if_true, if_false, not_true_eq_false, not_false_eq_true, tp_k, tp_fI, tp_fL, tp_pI, tp_pL, tp_z0, tp_z1, tp_fR0, tp0_a, tp0_t, tp0_n, tp_fR1, tp1_a, tp1_t, tp1_n, am, kf]; first | done | omega)))) | (with_reducible apply it_n; (focus (first | assumption | (simp (disch := first | assumption | omega | rfl) only [i_rem, i_pred, i_addn1, i_lit, i_n1, i_add, i_mul, i_sub, i_le, i_lt, i_eq, i_ne1, n1_ne, n1_lt, n1_le, i_lt1, i_le1, bd_s, nar_bi, nar_0, nar_1, if_pos, if_neg, ↓reduceIte, reduceCtorEq, eq_self, if_true, if_false, not_true_eq_false, not_false_eq_true, tp_k, tp_fI, tp_fL, tp_pI, tp_pL, tp_z0, tp_z1, tp_fR0, tp0_a, tp0_t, tp0_n, tp_fR1, tp1_a, tp1_t, tp1_n, am, kf]; first | done | omega)))))
        all_goals exact e1
      | some q =>
        dsimp only
        obtain ⟨z1, z2, z3⟩ := w3 q hb hq
        have ten' : i32 10 ≤ I 1 9 := by rw [z1, i_le (by omega) (by omega)]; exact z2
        by_cases ck : 20 ≤ k
        · rw [if_pos ck]
          obtain ⟨J, e1, g1, g2⟩ := c_oneF (N := N) (r := r) (rf := fX7_rd N (d + 1)) (u := i32 (9 - (g + 1))) (s0 := I 1 9) h hk hk2 ca (Or.inr ⟨rfl, ten', Or.inl ck⟩)
          refine ⟨J, L, ?_, g1, g2⟩
          unfold fX7_readOne_b
          repeat (first | (with_reducible apply bd_eq; (focus (simp (disch := first | assumption | omega | rfl) only [i_rem, i_pred, i_addn1, i_lit, i_n1, i_add, i_mul, i_sub, i_le, i_lt, i_eq, i_ne1, n1_ne, n1_lt, n1_le, i_lt1, i_le1, bd_s, nar_bi, nar_0, nar_1, if_pos, if_neg, ↓reduceIte, reduceCtorEq, eq_self, if_true, if_false, not_true_eq_false, not_false_eq_true, tp_k, tp_fI, tp_fL, tp_pI, tp_pL, tp_z0, tp_z1, tp_fR0, tp0_a, tp0_t, tp0_n, tp_fR1, tp1_a, tp1_t, tp1_n, am, kf]; first | done | (with_reducible rfl; done))); try dsimp only) | (with_reducible apply it_p; (focus (first | assumption | (simp (disch := first | assumption | omega | rfl) only [i_rem, i_pred, i_addn1, i_lit, i_n1, i_add, i_mul, i_sub, i_le, i_lt, i_eq, i_ne1, n1_ne, n1_lt, n1_le, i_lt1, i_le1, bd_s, nar_bi, nar_0, nar_1, if_pos, if_neg, ↓reduceIte, reduceCtorEq, eq_self, if_true, if_false, not_true_eq_false, not_false_eq_true, tp_k, tp_fI, tp_fL, tp_pI, tp_pL, tp_z0, tp_z1, tp_fR0, tp0_a, tp0_t, tp0_n, tp_fR1, tp1_a, tp1_t, tp1_n, am, kf]; first | done | omega)))) | (with_reducible apply it_n; (focus (first | assumption | (simp (disch := first | assumption | omega | rfl) only [i_rem, i_pred, i_addn1, i_lit, i_n1, i_add, i_mul, i_sub, i_le, i_lt, i_eq, i_ne1, n1_ne, n1_lt, n1_le, i_lt1, i_le1, bd_s, nar_bi, nar_0, nar_1, if_pos, if_neg, ↓reduceIte, reduceCtorEq, eq_self, if_true, if_false, not_true_eq_false, not_false_eq_true, tp_k, tp_fI, tp_fL, tp_pI, tp_pL, tp_z0, tp_z1, tp_fR0, tp0_a, tp0_t, tp0_n, tp_fR1, tp1_a, tp1_t, tp1_n, am, kf]; first | done | omega)))))
          all_goals exact e1
        · rw [if_neg ck]
          have ck' : ¬ i32 20 ≤ i32 k := by rw [i_le (by omega) (by omega)]; exact ck
          have tq : i32 10 ≤ i32 q := (i_le (by omega) (by omega)).mpr z2
          by_cases c10 : q = 10
          · rw [if_pos c10]
            subst c10
            obtain ⟨J2, K2, e2, g3, g4⟩ := ih1 (k + 1) pre _ J1 K1 rs1 ns1 cs1 k1 (by omega) (by omega) g1
            have pk := hP (k + 1) (nt n T m t) (nt_k h9 hT h.2.2.2)
            cases hx : pOn n T m H W g (k + 1) (nt n T m t) with
            | inl e =>
              rw [hx] at g3
              obtain ⟨g3, a, ha, ga⟩ := g3
              obtain ⟨J3, e3, g5, g6, g7⟩ := c_addAny (N := N) (r := r) (v1 := i32 10) (v2 := i32 0) (v3 := i32 0) ga ha g3
              refine ⟨J3, K2, ?_, ⟨g5, g6⟩, (fr1.tr g4).tr g7⟩
              unfold fX7_readOne_b fX7_readOne_J18
              repeat (first | (with_reducible apply bd_eq; (focus (simp (disch := first | assumption | omega | rfl) only [i_rem, i_pred, i_addn1, i_lit, i_n1, i_add, i_mul, i_sub, i_le, i_lt, i_eq, i_ne1, n1_ne, n1_lt, n1_le, i_lt1, i_le1, bd_s, nar_bi, nar_0, nar_1, if_pos, if_neg, ↓reduceIte, reduceCtorEq, eq_self, if_true, if_false, not_true_eq_false, not_false_eq_true, tp_k, tp_fI, tp_fL, tp_pI, tp_pL, tp_z0, tp_z1, tp_fR0, tp0_a, tp0_t, tp0_n, tp_fR1, tp1_a, tp1_t, tp1_n, am, kf, z1, x10, gg, hk, ck', u8, pp, e1, u1', e2, k9, e3]; first | done | (with_reducible rfl; done))); try dsimp only) | (with_reducible apply it_p; (focus (first | assumption | (simp (disch := first | assumption | omega | rfl) only [i_rem, i_pred, i_addn1, i_lit, i_n1, i_add, i_mul, i_sub, i_le, i_lt, i_eq, i_ne1, n1_ne, n1_lt, n1_le, i_lt1, i_le1, bd_s, nar_bi, nar_0, nar_1, if_pos, if_neg, ↓reduceIte, reduceCtorEq, eq_self, if_true, if_false, not_true_eq_false, not_false_eq_true, tp_k, tp_fI, tp_fL, tp_pI, tp_pL, tp_z0, tp_z1, tp_fR0, tp0_a, tp0_t, tp0_n, tp_fR1, tp1_a, tp1_t, tp1_n, am, kf, z1, x10, gg, hk, ck', u8, pp, e1, u1', e2, k9, e3]; first | done | omega)))) | (with_reducible apply it_n; (focus (first | assumption | (simp (disch := first | assumption | omega | rfl) only [i_rem, i_pred, i_addn1, i_lit, i_n1, i_add, i_mul, i_sub, i_le, i_lt, i_eq, i_ne1, n1_ne, n1_lt, n1_le, i_lt1, i_le1, bd_s, nar_bi, nar_0, nar_1, if_pos, if_neg, ↓reduceIte, reduceCtorEq, eq_self, if_true, if_false, not_true_eq_false, not_false_eq_true, tp_k, tp_fI, tp_fL, tp_pI, tp_pL, tp_z0, tp_z1, tp_fR0, tp0_a, tp0_t, tp0_n, tp_fR1, tp1_a, tp1_t, tp1_n, am, kf, z1, x10, gg, hk, ck', u8, pp, e1, u1', e2, k9, e3]; first | done | omega)))))
              all_goals rfl
            | inr x =>
              rw [hx] at g3 pk
              obtain ⟨g3, g5, g6⟩ := g3
              obtain ⟨b1, b2, b3, b4, b5, b6⟩ := pk
              obtain ⟨J3, e3, g7, g8, g9, g10⟩ := c_addOk (N := N) (r := r) (x := 10) (y := 0) (z := 0) g5 (by rw [List.length_append]; omega) g3
              refine ⟨J3, K2, ?_, ⟨g7, by rw [List.append_assoc] at g8; exact g8, by rw [g9]; exact g6⟩, (fr1.tr g4).tr g10⟩
              unfold fX7_readOne_b fX7_readOne_J18
              repeat (first | (with_reducible apply bd_eq; (focus (simp (disch := first | assumption | omega | rfl) only [i_rem, i_pred, i_addn1, i_lit, i_n1, i_add, i_mul, i_sub, i_le, i_lt, i_eq, i_ne1, n1_ne, n1_lt, n1_le, i_lt1, i_le1, bd_s, nar_bi, nar_0, nar_1, if_pos, if_neg, ↓reduceIte, reduceCtorEq, eq_self, if_true, if_false, not_true_eq_false, not_false_eq_true, tp_k, tp_fI, tp_fL, tp_pI, tp_pL, tp_z0, tp_z1, tp_fR0, tp0_a, tp0_t, tp0_n, tp_fR1, tp1_a, tp1_t, tp1_n, am, kf, z1, x10, gg, hk, ck', u8, pp, e1, u1', e2, k9, e3]; first | done | (with_reducible rfl; done))); try dsimp only) | (with_reducible apply it_p; (focus (first | assumption | (simp (disch := first | assumption | omega | rfl) only [i_rem, i_pred, i_addn1, i_lit, i_n1, i_add, i_mul, i_sub, i_le, i_lt, i_eq, i_ne1, n1_ne, n1_lt, n1_le, i_lt1, i_le1, bd_s, nar_bi, nar_0, nar_1, if_pos, if_neg, ↓reduceIte, reduceCtorEq, eq_self, if_true, if_false, not_true_eq_false, not_false_eq_true, tp_k, tp_fI, tp_fL, tp_pI, tp_pL, tp_z0, tp_z1, tp_fR0, tp0_a, tp0_t, tp0_n, tp_fR1, tp1_a, tp1_t, tp1_n, am, kf, z1, x10, gg, hk, ck', u8, pp, e1, u1', e2, k9, e3]; first | done | omega)))) | (with_reducible apply it_n; (focus (first | assumption | (simp (disch := first | assumption | omega | rfl) only [i_rem, i_pred, i_addn1, i_lit, i_n1, i_add, i_mul, i_sub, i_le, i_lt, i_eq, i_ne1, n1_ne, n1_lt, n1_le, i_lt1, i_le1, bd_s, nar_bi, nar_0, nar_1, if_pos, if_neg, ↓reduceIte, reduceCtorEq, eq_self, if_true, if_false, not_true_eq_false, not_false_eq_true, tp_k, tp_fI, tp_fL, tp_pI, tp_pL, tp_z0, tp_z1, tp_fR0, tp0_a, tp0_t, tp0_n, tp_fR1, tp1_a, tp1_t, tp1_n, am, kf, z1, x10, gg, hk, ck', u8, pp, e1, u1', e2, k9, e3]; first | done | omega)))))
              all_goals rfl
          · rw [if_neg c10, if_neg (by omega)]
            have n10 : ¬ i32 q = i32 10 := by rw [i_eq (by omega) (by omega)]; exact c10
            have n20 : ¬ i32 q = i32 20 := by rw [i_eq (by omega) (by omega)]; omega
            obtain ⟨J2, K2, e2, g3, g4, g5, g6⟩ := c_readPlain (N := N) (r := r) (q := q) hN hO hn rs1 ns1 (by omega) g1 cs1 (by omega)
            refine ⟨J2, K2, ?_, ?_, fr1.tr g6⟩
            · unfold fX7_readOne_b fX7_readOne_J18
              repeat (first | (with_reducible apply bd_eq; (focus (simp (disch := first | assumption | omega | rfl) only [i_rem, i_pred, i_addn1, i_lit, i_n1, i_add, i_mul, i_sub, i_le, i_lt, i_eq, i_ne1, n1_ne, n1_lt, n1_le, i_lt1, i_le1, bd_s, nar_bi, nar_0, nar_1, if_pos, if_neg, ↓reduceIte, reduceCtorEq, eq_self, if_true, if_false, not_true_eq_false, not_false_eq_true, tp_k, tp_fI, tp_fL, tp_pI, tp_pL, tp_z0, tp_z1, tp_fR0, tp0_a, tp0_t, tp0_n, tp_fR1, tp1_a, tp1_t, tp1_n, am, kf, z1, x10, tq, gg, hk, ck', u8, pp, e1, n10, n20, k9, e2]; first | done | (with_reducible rfl; done))); try dsimp only) | (with_reducible apply it_p; (focus (first | assumption | (simp (disch := first | assumption | omega | rfl) only [i_rem, i_pred, i_addn1, i_lit, i_n1, i_add, i_mul, i_sub, i_le, i_lt, i_eq, i_ne1, n1_ne, n1_lt, n1_le, i_lt1, i_le1, bd_s, nar_bi, nar_0, nar_1, if_pos, if_neg, ↓reduceIte, reduceCtorEq, eq_self, if_true, if_false, not_true_eq_false, not_false_eq_true, tp_k, tp_fI, tp_fL, tp_pI, tp_pL, tp_z0, tp_z1, tp_fR0, tp0_a, tp0_t, tp0_n, tp_fR1, tp1_a, tp1_t, tp1_n, am, kf, z1, x10, tq, gg, hk, ck', u8, pp, e1, n10, n20, k9, e2]; first | done | omega)))) | (with_reducible apply it_n; (focus (first | assumption | (simp (disch := first | assumption | omega | rfl) only [i_rem, i_pred, i_addn1, i_lit, i_n1, i_add, i_mul, i_sub, i_le, i_lt, i_eq, i_ne1, n1_ne, n1_lt, n1_le, i_lt1, i_le1, bd_s, nar_bi, nar_0, nar_1, if_pos, if_neg, ↓reduceIte, reduceCtorEq, eq_self, if_true, if_false, not_true_eq_false, not_false_eq_true, tp_k, tp_fI, tp_fL, tp_pI, tp_pL, tp_z0, tp_z1, tp_fR0, tp0_a, tp0_t, tp0_n, tp_fR1, tp1_a, tp1_t, tp1_n, am, kf, z1, x10, tq, gg, hk, ck', u8, pp, e1, n10, n20, k9, e2]; first | done | omega)))))
              all_goals rfl
            · cases ho : plO n T m H W q (nt n T m t) with
              | inl e =>
                rw [ho] at g3
                exact ⟨g3, g5⟩
              | inr t' =>
                rw [ho] at g3 g4
                have g4 := g4 rfl
                exact ⟨g3, g4.1, by rw [g4.2]; exact k1⟩
end
