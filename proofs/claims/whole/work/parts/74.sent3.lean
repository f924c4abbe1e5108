/-! the class -/
def FrZe (I J : Nat → Nat → Int32) (L K : Nat → Nat → Int64) : Prop := (∀ z, z ≠ 1 → (z < 119 ∨ 124 ≤ z) → J z = I z) ∧ (∀ k, k < 4 → J 1 k = I 1 k) ∧ ∀ z, z ≠ 1 → K z = L z
def CpO (n : Nat) (T : Nat → Nat) (m : Nat) (pre : Cod) (o : Ps) (I : Nat → Nat → Int32) (L : Nat → Nat → Int64) : Prop := match o with
  | .inl e => CqR n T m (.inl e) I L ∧ ∃ a, a ≤ 40 ∧ I 119 5 = i32 a
  | .inr x => CqR n T m (.inr x.2.1) I L ∧ CS 119 (pre ++ x.2.2.1) I ∧ I 119 6 = i32 x.1
section
variable {I J : Nat → Nat → Int32} {L K : Nat → Nat → Int64} {r : Bool} {N : Nat} {T : Nat → Nat} {n m : Nat} {t : Tok} {e : Nat × Nat} {o : Oc} {H : Nat → Nat} {W : Nat → List Nat}
theorem FrZe.rf : FrZe I I L L := ⟨fun _ _ _ => rfl, fun _ _ => rfl, fun _ _ => rfl⟩
theorem FrZe.tr {I2 : Nat → Nat → Int32} {L2 : Nat → Nat → Int64} (h : FrZe I J L K) (g : FrZe J I2 K L2) : FrZe I I2 L L2 := ⟨fun z h1 h2 => (g.1 z h1 h2).trans (h.1 z h1 h2), fun k hk => (g.2.1 k hk).trans (h.2.1 k hk), fun z h1 => (g.2.2 z h1).trans (h.2.2 z h1)⟩
theorem FrT.ze (h : FrT 1 S4c I J L K) : FrZe I J L K := ⟨fun z h1 _ => h.1 z h1, fun k hk => h.2.1 k (by unfold S4c; omega), fun z h1 => h.2.2 z h1⟩
theorem FrZe.u {q k : Nat} {v : Int32} (hq : 119 ≤ q ∧ q < 124) (h : FrZe I J L K) : FrZe I (up J q k v) L K := ⟨fun z h1 h2 => by rw [up_row (by omega)]; exact h.1 z h1 h2, fun j hj => by rw [up_off (by omega)]; exact h.2.1 j hj, h.2.2⟩
def adM (I : Nat → Nat → Int32) (a : Nat) (v1 v2 v3 : Int32) : Nat → Nat → Int32 := up (up (up (up I 120 a v1) 121 a v2) 122 a v3) 119 5 (i32 (a + 1))
theorem c_addStep {a : Nat} {v1 v2 v3 : Int32} (h : I 119 5 = i32 a) (ha : a < 40) : fX7_addStep N 119 v1 v2 v3 (mk I L r) = some ((), mk (adM I a v1 v2 v3) L r) := by
  have hse : isSe 119 = true := by decide
  have c4 : ¬ i32 40 ≤ i32 a := by rw [i_le (by omega) (by omega)]; omega
  have f1 : ∀ I, fR (mk I L r) 7 119 1 = some 120 := fun I => se_fR1 hse
  have f2 : ∀ I, fR (mk I L r) 7 119 2 = some 121 := fun I => se_fR2 hse
  have f3 : ∀ I, fR (mk I L r) 7 119 3 = some 122 := fun I => se_fR3 hse
  have t1 : ∀ I v, tI (mk I L r) 120 (i32 a) v = some (mk (up I 120 a v) L r) := fun I v => se1_t hse ha
  have t2 : ∀ I v, tI (mk I L r) 121 (i32 a) v = some (mk (up I 121 a v) L r) := fun I v => se2_t hse ha
  have t3 : ∀ I v, tI (mk I L r) 122 (i32 a) v = some (mk (up I 122 a v) L r) := fun I v => se3_t hse ha
  have g0 : ∀ I k, fI (mk I L r) 7 119 k = some (I 119 k) := fun I k => se_fI hse
  have p0 : ∀ I k v, pI (mk I L r) 7 119 k v = some (mk (up I 119 k v) L r) := fun I k v => se_pI hse
  unfold fX7_addStep adM
  simp (disch := first | assumption | omega | rfl) only [i_rem, i_pred, i_addn1, i_lit, i_n1, i_add, i_mul, i_sub, i_le, i_lt, i_eq, i_ne1, n1_ne, n1_lt, n1_le, i_lt1, i_le1, bd_s, nar_bi, nar_0, nar_1, if_pos, if_neg, ↓reduceIte, reduceCtorEq, eq_self, if_true, if_false, not_true_eq_false, not_false_eq_true, g0, h, c4, f1, f2, f3, t1, t2, t3, p0, up_off]
theorem c_addFull {v1 v2 v3 : Int32} (h : I 119 5 = i32 40) : fX7_addStep N 119 v1 v2 v3 (mk I L r) = some ((), mk I L r) := by
  have hse : isSe 119 = true := by decide
  have g0 : ∀ I k, fI (mk I L r) 7 119 k = some (I 119 k) := fun I k => se_fI hse
  unfold fX7_addStep
  simp (disch := first | assumption | omega | rfl) only [i_rem, i_pred, i_addn1, i_lit, i_n1, i_add, i_mul, i_sub, i_le, i_lt, i_eq, i_ne1, n1_ne, n1_lt, n1_le, i_lt1, i_le1, bd_s, nar_bi, nar_0, nar_1, if_pos, if_neg, ↓reduceIte, reduceCtorEq, eq_self, if_true, if_false, not_true_eq_false, not_false_eq_true, g0, h]
theorem adM_e {a : Nat} {v1 v2 v3 : Int32} : FrZe I (adM I a v1 v2 v3) L L := (((FrZe.rf.u (by omega)).u (by omega)).u (by omega)).u (by omega)
theorem adM_q {a : Nat} {v1 v2 v3 : Int32} (h : CqR n T m o I L) : CqR n T m o (adM I a v1 v2 v3) L := CqR_s h (by unfold adM; simp (disch := omega) only [up_row]) (by unfold adM; simp (disch := omega) only [up_row]) rfl rfl
theorem adM_6 {a : Nat} {v1 v2 v3 : Int32} : adM I a v1 v2 v3 119 6 = I 119 6 := by unfold adM; rw [up_ofk (by omega)]; simp (disch := omega) only [up_row]
theorem adM_c {c : Cod} {x y z : Nat} (h : CS 119 c I) (hc : c.length < 40) : CS 119 (c ++ [(x, y, z)]) (adM I c.length (i32 x) (i32 y) (i32 z)) := by
  have hl : (c ++ [(x, y, z)]).length = c.length + 1 := by rw [List.length_append]; rfl
  refine ⟨by rw [hl]; unfold adM; rw [up_self], by rw [hl]; omega, fun i hi => ?_⟩
  rw [hl] at hi
  unfold adM
  by_cases c1 : i = c.length
  · subst c1
    have : (c ++ [(x, y, z)]).getD c.length (0, 0, 0) = (x, y, z) := by simp
    rw [this]
    refine ⟨?_, ?_, ?_⟩ <;> simp (disch := omega) only [up_at, up_off, upL_at, upL_off, if_pos, if_neg, if_true, true_or, or_true, true_and, and_true]
  · have := h.2.2 i (by omega)
    have e : (c ++ [(x, y, z)]).getD i (0, 0, 0) = c.getD i (0, 0, 0) := by
      simp only [List.getD_eq_getElem?_getD]
      rw [List.getElem?_append_left (by omega)]
    rw [e]
    refine ⟨?_, ?_, ?_⟩
    · rw [up_off (by omega), up_off (by omega), up_off (by omega), up_ofk c1]; exact this.1
    · rw [up_off (by omega), up_off (by omega), up_ofk c1, up_off (by omega)]; exact this.2.1
    · rw [up_off (by omega), up_ofk c1, up_off (by omega), up_off (by omega)]; exact this.2.2
/-- one step more, whatever was before -/
theorem c_addAny {a : Nat} {v1 v2 v3 : Int32} (h : I 119 5 = i32 a) (ha : a ≤ 40) (hq : CqR n T m o I L) : ∃ J, fX7_addStep N 119 v1 v2 v3 (mk I L r) = some ((), mk J L r) ∧ CqR n T m o J L ∧ (∃ b, b ≤ 40 ∧ J 119 5 = i32 b) ∧ FrZe I J L L := by
  by_cases c1 : a < 40
  · exact ⟨_, c_addStep h c1, adM_q hq, ⟨a + 1, by omega, by unfold adM; rw [up_self]⟩, adM_e⟩
  · have : a = 40 := by omega
    subst this
    exact ⟨I, c_addFull h, hq, ⟨40, by omega, h⟩, FrZe.rf⟩
theorem c_addOk {c : Cod} {x y z : Nat} (h : CS 119 c I) (hc : c.length < 40) (hq : CqR n T m o I L) : ∃ J, fX7_addStep N 119 (i32 x) (i32 y) (i32 z) (mk I L r) = some ((), mk J L r) ∧ CqR n T m o J L ∧ CS 119 (c ++ [(x, y, z)]) J ∧ J 119 6 = I 119 6 ∧ FrZe I J L L := ⟨_, c_addStep h.1 hc, adM_q hq, adM_c h hc, adM_6, adM_e⟩
theorem CS_e {c : Cod} (h : CS 119 c I) (f : FrT 1 S4c I J L K) : CS 119 c J := CS_of (fun q z1 z2 => f.1 q (by omega)) h
theorem c_takeRel (hN : 1200 < N) (h : CqR n T m (.inr t) I L) : ∃ x J K, fX7_takeRelation N 1 (mk I L r) = some (x, mk J K r) ∧ CqR n T m (rlO n T m t) J K ∧ (isR (rlO n T m t) = true → x = i32 t.2.2.2.2) ∧ FrT 1 S4c I J L K := by
  have kt : ¬ bi true = i32 0 := by decide
  have kf : bi false = i32 0 := rfl
  have a0 := c_atMark (N := N) (r := r) (c := 60) h (by omega)
  have a1 := c_atMark (N := N) (r := r) (c := 61) h (by omega)
  have a2 := c_atMark (N := N) (r := r) (c := 62) h (by omega)
  unfold rlO
  by_cases c1 : t.1 = 3 ∧ 60 ≤ t.2.2.2.2 ∧ t.2.2.2.2 ≤ 62
  · rw [if_pos c1]
    have x7 : I 1 7 = i32 t.2.2.2.2 := h.2.1.2.2.2.2.2 (Or.inr c1.1)
    obtain ⟨J, K, e3, g1, g2⟩ := c_adv (N := N) (r := r) hN h
    refine ⟨i32 t.2.2.2.2, J, K, ?_, g1, fun _ => rfl, g2⟩
    have hv : t.2.2.2.2 = 60 ∨ t.2.2.2.2 = 61 ∨ t.2.2.2.2 = 62 := by omega
    unfold fX7_takeRelation
    rcases hv with hv | hv | hv
    · rw [decide_eq_true (show t.1 = 3 ∧ t.2.2.2.2 = 60 from ⟨c1.1, hv⟩)] at a0
      repeat (first | (with_reducible apply bd_eq; (focus (simp (disch := first | assumption | omega | rfl) only [i_rem, i_pred, i_addn1, i_lit, i_n1, i_add, i_mul, i_sub, i_le, i_lt, i_eq, i_ne1, n1_ne, n1_lt, n1_le, i_lt1, i_le1, bd_s, nar_bi, nar_0, nar_1, if_pos, if_neg, ↓reduceIte, reduceCtorEq, eq_self, if_true, if_false, not_true_eq_false, not_false_eq_true, tp_k, tp_fI, tp_fL, tp_pI, tp_pL, tp_z0, tp_z1, tp_fR0, tp0_a, tp0_t, tp0_n, tp_fR1, tp1_a, tp1_t, tp1_n, x7, a0, kt, e3]; first | done | (with_reducible rfl; done))); try dsimp only) | (with_reducible apply it_p; (focus (first | assumption | (simp (disch := first | assumption | omega | rfl) only [i_rem, i_pred, i_addn1, i_lit, i_n1, i_add, i_mul, i_sub, i_le, i_lt, i_eq, i_ne1, n1_ne, n1_lt, n1_le, i_lt1, i_le1, bd_s, nar_bi, nar_0, nar_1, if_pos, if_neg, ↓reduceIte, reduceCtorEq, eq_self, if_true, if_false, not_true_eq_false, not_false_eq_true, tp_k, tp_fI, tp_fL, tp_pI, tp_pL, tp_z0, tp_z1, tp_fR0, tp0_a, tp0_t, tp0_n, tp_fR1, tp1_a, tp1_t, tp1_n, x7, a0, kt, e3]; first | done | omega)))) | (with_reducible apply it_n; (focus (first | assumption | (simp (disch := first | assumption | omega | rfl) only [i_rem, i_pred, i_addn1, i_lit, i_n1, i_add, i_mul, i_sub, i_le, i_lt, i_eq, i_ne1, n1_ne, n1_lt, n1_le, i_lt1, i_le1, bd_s, nar_bi, nar_0, nar_1, if_pos, if_neg, ↓reduceIte, reduceCtorEq, eq_self, if_true, if_false, not_true_eq_false, not_false_eq_true, tp_k, tp_fI, tp_fL, tp_pI, tp_pL, tp_z0, tp_z1, tp_fR0, tp0_a, tp0_t, tp0_n, tp_fR1, tp1_a, tp1_t, tp1_n, x7, a0, kt, e3]; first | done | omega)))))
      all_goals rfl
    · rw [decide_eq_false (show ¬ (t.1 = 3 ∧ t.2.2.2.2 = 60) by omega)] at a0
      rw [decide_eq_true (show t.1 = 3 ∧ t.2.2.2.2 = 61 from ⟨c1.1, hv⟩)] at a1
      repeat (first | (with_reducible apply bd_eq; (focus (simp (disch := first | assumption | omega | rfl) only [i_rem, i_pred, i_addn1, i_lit, i_n1, i_add, i_mul, i_sub, i_le, i_lt, i_eq, i_ne1, n1_ne, n1_lt, n1_le, i_lt1, i_le1, bd_s, nar_bi, nar_0, nar_1, if_pos, if_neg, ↓reduceIte, reduceCtorEq, eq_self, if_true, if_false, not_true_eq_false, not_false_eq_true, tp_k, tp_fI, tp_fL, tp_pI, tp_pL, tp_z0, tp_z1, tp_fR0, tp0_a, tp0_t, tp0_n, tp_fR1, tp1_a, tp1_t, tp1_n, x7, a0, kf, a1, kt, e3]; first | done | (with_reducible rfl; done))); try dsimp only) | (with_reducible apply it_p; (focus (first | assumption | (simp (disch := first | assumption | omega | rfl) only [i_rem, i_pred, i_addn1, i_lit, i_n1, i_add, i_mul, i_sub, i_le, i_lt, i_eq, i_ne1, n1_ne, n1_lt, n1_le, i_lt1, i_le1, bd_s, nar_bi, nar_0, nar_1, if_pos, if_neg, ↓reduceIte, reduceCtorEq, eq_self, if_true, if_false, not_true_eq_false, not_false_eq_true, tp_k, tp_fI, tp_fL, tp_pI, tp_pL, tp_z0, tp_z1, tp_fR0, tp0_a, tp0_t, tp0_n, tp_fR1, tp1_a, tp1_t, tp1_n, x7, a0, kf, a1, kt, e3]; first | done | omega)))) | (with_reducible apply it_n; (focus (first | assumption | (simp (disch := first | assumption | omega | rfl) only [i_rem, i_pred, i_addn1, i_lit, i_n1, i_add, i_mul, i_sub, i_le, i_lt, i_eq, i_ne1, n1_ne, n1_lt, n1_le, i_lt1, i_le1, bd_s, nar_bi, nar_0, nar_1, if_pos, if_neg, ↓reduceIte, reduceCtorEq, eq_self, if_true, if_false, not_true_eq_false, not_false_eq_true, tp_k, tp_fI, tp_fL, tp_pI, tp_pL, tp_z0, tp_z1, tp_fR0, tp0_a, tp0_t, tp0_n, tp_fR1, tp1_a, tp1_t, tp1_n, x7, a0, kf, a1, kt, e3]; first | done | omega)))))
      all_goals rfl
    · rw [decide_eq_false (show ¬ (t.1 = 3 ∧ t.2.2.2.2 = 60) by omega)] at a0
      rw [decide_eq_false (show ¬ (t.1 = 3 ∧ t.2.2.2.2 = 61) by omega)] at a1
      rw [decide_eq_true (show t.1 = 3 ∧ t.2.2.2.2 = 62 from ⟨c1.1, hv⟩)] at a2
      repeat (first | (with_reducible apply bd_eq; (focus (simp (disch := first | assumption | omega | rfl) only [i_rem, i_pred, i_addn1, i_lit, i_n1, i_add, i_mul, i_sub, i_le, i_lt, i_eq, i_ne1, n1_ne, n1_lt, n1_le, i_lt1, i_le1, bd_s, nar_bi, nar_0, nar_1, if_pos, if_neg, ↓reduceIte, reduceCtorEq, eq_self, if_true, if_false, not_true_eq_false, not_false_eq_true, tp_k, tp_fI, tp_fL, tp_pI, tp_pL, tp_z0, tp_z1, tp_fR0, tp0_a, tp0_t, tp0_n, tp_fR1, tp1_a, tp1_t, tp1_n, x7, a0, kf, a1, a2, kt, e3]; first | done | (with_reducible rfl; done))); try dsimp only) | (with_reducible apply it_p; (focus (first | assumption | (simp (disch := first | assumption | omega | rfl) only [i_rem, i_pred, i_addn1, i_lit, i_n1, i_add, i_mul, i_sub, i_le, i_lt, i_eq, i_ne1, n1_ne, n1_lt, n1_le, i_lt1, i_le1, bd_s, nar_bi, nar_0, nar_1, if_pos, if_neg, ↓reduceIte, reduceCtorEq, eq_self, if_true, if_false, not_true_eq_false, not_false_eq_true, tp_k, tp_fI, tp_fL, tp_pI, tp_pL, tp_z0, tp_z1, tp_fR0, tp0_a, tp0_t, tp0_n, tp_fR1, tp1_a, tp1_t, tp1_n, x7, a0, kf, a1, a2, kt, e3]; first | done | omega)))) | (with_reducible apply it_n; (focus (first | assumption | (simp (disch := first | assumption | omega | rfl) only [i_rem, i_pred, i_addn1, i_lit, i_n1, i_add, i_mul, i_sub, i_le, i_lt, i_eq, i_ne1, n1_ne, n1_lt, n1_le, i_lt1, i_le1, bd_s, nar_bi, nar_0, nar_1, if_pos, if_neg, ↓reduceIte, reduceCtorEq, eq_self, if_true, if_false, not_true_eq_false, not_false_eq_true, tp_k, tp_fI, tp_fL, tp_pI, tp_pL, tp_z0, tp_z1, tp_fR0, tp0_a, tp0_t, tp0_n, tp_fR1, tp1_a, tp1_t, tp1_n, x7, a0, kf, a1, a2, kt, e3]; first | done | omega)))))
      all_goals rfl
  · rw [if_neg c1]
    obtain ⟨J, e3, g1, g2⟩ := c_failR (N := N) (r := r) (k := 1) h (by omega)
    refine ⟨I 1 7, J, L, ?_, g1, fun z => (by cases z), g2⟩
    rw [decide_eq_false (show ¬ (t.1 = 3 ∧ t.2.2.2.2 = 60) by omega)] at a0
    rw [decide_eq_false (show ¬ (t.1 = 3 ∧ t.2.2.2.2 = 61) by omega)] at a1
    rw [decide_eq_false (show ¬ (t.1 = 3 ∧ t.2.2.2.2 = 62) by omega)] at a2
    unfold fX7_takeRelation
    repeat (first | (with_reducible apply bd_eq; (focus (simp (disch := first | assumption | omega | rfl) only [i_rem, i_pred, i_addn1, i_lit, i_n1, i_add, i_mul, i_sub, i_le, i_lt, i_eq, i_ne1, n1_ne, n1_lt, n1_le, i_lt1, i_le1, bd_s, nar_bi, nar_0, nar_1, if_pos, if_neg, ↓reduceIte, reduceCtorEq, eq_self, if_true, if_false, not_true_eq_false, not_false_eq_true, tp_k, tp_fI, tp_fL, tp_pI, tp_pL, tp_z0, tp_z1, tp_fR0, tp0_a, tp0_t, tp0_n, tp_fR1, tp1_a, tp1_t, tp1_n, a0, kf, a1, a2, e3]; first | done | (with_reducible rfl; done))); try dsimp only) | (with_reducible apply it_p; (focus (first | assumption | (simp (disch := first | assumption | omega | rfl) only [i_rem, i_pred, i_addn1, i_lit, i_n1, i_add, i_mul, i_sub, i_le, i_lt, i_eq, i_ne1, n1_ne, n1_lt, n1_le, i_lt1, i_le1, bd_s, nar_bi, nar_0, nar_1, if_pos, if_neg, ↓reduceIte, reduceCtorEq, eq_self, if_true, if_false, not_true_eq_false, not_false_eq_true, tp_k, tp_fI, tp_fL, tp_pI, tp_pL, tp_z0, tp_z1, tp_fR0, tp0_a, tp0_t, tp0_n, tp_fR1, tp1_a, tp1_t, tp1_n, a0, kf, a1, a2, e3]; first | done | omega)))) | (with_reducible apply it_n; (focus (first | assumption | (simp (disch := first | assumption | omega | rfl) only [i_rem, i_pred, i_addn1, i_lit, i_n1, i_add, i_mul, i_sub, i_le, i_lt, i_eq, i_ne1, n1_ne, n1_lt, n1_le, i_lt1, i_le1, bd_s, nar_bi, nar_0, nar_1, if_pos, if_neg, ↓reduceIte, reduceCtorEq, eq_self, if_true, if_false, not_true_eq_false, not_false_eq_true, tp_k, tp_fI, tp_fL, tp_pI, tp_pL, tp_z0, tp_z1, tp_fR0, tp0_a, tp0_t, tp0_n, tp_fR1, tp1_a, tp1_t, tp1_n, a0, kf, a1, a2, e3]; first | done | omega)))))
    all_goals rfl
end
