/-! ===== READING: what may come next, on both sides ===== -/
/-- a fault and its place, or the token at which the reader stands -/
abbrev Oc : Type := (Nat × Nat) ⊕ Tok
def S4c (k : Nat) : Prop := 4 ≤ k
def Sq (k : Nat) : Prop := 5 ≤ k ∧ k ≤ 13
theorem Sc_4 (k : Nat) (h : Sc k) : S4c k := by unfold Sc at h; unfold S4c; omega
theorem Sm_q (k : Nat) (h : Sm k) : Sq k := by unfold Sm at h; unfold Sq; omega
def nt (n : Nat) (T : Nat → Nat) (m : Nat) (t : Tok) : Tok := nxT T n m t.2.2.1
def CqR (n : Nat) (T : Nat → Nat) (m : Nat) (o : Oc) (I : Nat → Nat → Int32) (L : Nat → Nat → Int64) : Prop := TC n T m I L ∧ match o with
  | .inl e => I 1 10 = i32 e.1 ∧ 1 ≤ e.1 ∧ e.1 ≤ 4 ∧ I 1 11 = i32 e.2 ∧ e.2 ≤ 940
  | .inr t => CK t I L ∧ I 1 10 = i32 0 ∧ tOk n t
def MqR (n : Nat) (T : Nat → Nat) (m : Nat) (o : Oc) (I : Nat → Nat → Int32) (L : Nat → Nat → Int64) : Prop := TMo n T m I ∧ match o with
  | .inl e => I 186 10 = i32 e.1 ∧ I 186 11 = i32 e.2
  | .inr t => MK t I L ∧ I 186 10 = i32 0 ∧ tOk n t
def isR (o : Oc) : Bool := match o with
  | .inl _ => false
  | .inr _ => true
def oM (n : Nat) (T : Nat → Nat) (m c : Nat) (o : Oc) : Oc := match o with
  | .inl e => .inl e
  | .inr t => if t.1 = 3 ∧ t.2.2.2.2 = c then .inr (nt n T m t) else .inl (1, t.2.1)
def oN (n : Nat) (T : Nat → Nat) (m a b : Nat) (o : Oc) : Oc := match o with
  | .inl e => .inl e
  | .inr t => if t.1 = 2 then (if a ≤ t.2.2.2.2 ∧ t.2.2.2.2 ≤ b then .inr (nt n T m t) else .inl (2, t.2.1)) else .inl (1, t.2.1)
def vN (a b : Nat) (o : Oc) : Nat := match o with
  | .inl _ => 0
  | .inr t => if t.1 = 2 ∧ a ≤ t.2.2.2.2 ∧ t.2.2.2.2 ≤ b then t.2.2.2.2 else 0
def isNm (t : Tok) : Bool := decide (t.1 = 1 ∧ kwI t.2.2.2.1 = none)
def tkn (H : Nat → Nat) (W : Nat → List Nat) (w : List Nat) : Bool := exb (fun i => decide (W i = w)) (H 0) || (exb (fun i => decide (W (6 + i) = w)) (H 1) || exb (fun i => decide (W (10 + i) = w)) (H 2))
section
variable {I J : Nat → Nat → Int32} {L K : Nat → Nat → Int64} {r : Bool} {N : Nat} {T : Nat → Nat} {n m : Nat} {t : Tok} {e : Nat × Nat} {o : Oc}
theorem TC_4 (h : TC n T m I L) (f : FrT 1 S4c I J L K) : TC n T m J K := by
  obtain ⟨h1, h2, h3, h4, h5, h6, h7⟩ := h
  refine ⟨by rw [f.2.1 2 (by unfold S4c; omega)]; exact h1, h2, by rw [f.2.1 3 (by unfold S4c; omega)]; exact h3, h4, fun k hk => by rw [f.1 2 (by omega)]; exact h5 k hk, h6, fun k hk => by rw [f.2.2 3 (by omega)]; exact h7 k hk⟩
theorem nt_ok (h : TC n T m I L) (ht : tOk n t) : tOk n (nt n T m t) := nx_ok h.2.1 ht.2.2.1 h.2.2.2.2.2.1
theorem c_adv (hN : 1200 < N) (h : CqR n T m (.inr t) I L) : ∃ J K, fX9_advance N 1 (mk I L r) = some ((), mk J K r) ∧ CqR n T m (.inr (nt n T m t)) J K ∧ FrT 1 S4c I J L K := by
  obtain ⟨h1, h2, h3, h4⟩ := h
  obtain ⟨J, K, e, g1, g2⟩ := c_advance (N := N) (r := r) hN h1 h4.2.2.1 h2.2.2.1
  exact ⟨J, K, e, ⟨TC_fr h1 g2, g1, by rw [g2.2.1 10 (by unfold Sc; omega)]; exact h3, nt_ok h1 h4⟩, g2.mono Sc_4⟩
theorem c_failR {k : Nat} (h : CqR n T m (.inr t) I L) (hk : 1 ≤ k ∧ k ≤ 4) : ∃ J, fX9_fail N 1 (i32 k) (mk I L r) = some ((), mk J L r) ∧ CqR n T m (.inl (k, t.2.1)) J L ∧ FrT 1 S4c I J L L := by
  obtain ⟨h1, h2, h3, h4⟩ := h
  have fr : FrT 1 S4c I (up (up I 1 10 (i32 k)) 1 11 (i32 t.2.1)) L L := (FrT.rf.up (by unfold S4c; omega)).up (by unfold S4c; omega)
  refine ⟨up (up I 1 10 (i32 k)) 1 11 (i32 t.2.1), ?_, ⟨TC_4 h1 fr, by rw [up_ofk (by omega), up_self], hk.1, hk.2, up_self, h4.2.1⟩, fr⟩
  unfold fX9_fail
  simp (disch := first | assumption | omega | rfl) only [i_rem, i_pred, i_addn1, i_lit, i_n1, i_add, i_mul, i_sub, i_le, i_lt, i_eq, i_ne1, n1_ne, n1_lt, n1_le, i_lt1, i_le1, bd_s, nar_bi, nar_0, nar_1, if_pos, if_neg, ↓reduceIte, reduceCtorEq, eq_self, if_true, if_false, not_true_eq_false, not_false_eq_true, tp_k, tp_fI, tp_fL, tp_pI, tp_pL, tp_z0, tp_z1, tp_fR0, tp0_a, tp0_t, tp0_n, tp_fR1, tp1_a, tp1_t, tp1_n, h3, up_ofk, h2.2.1]
theorem c_failL {v : Int32} (h : CqR n T m (.inl e) I L) : fX9_fail N 1 v (mk I L r) = some ((), mk I L r) := by
  obtain ⟨h1, h2, h3, h4, h5, h6⟩ := h
  unfold fX9_fail
  simp (disch := first | assumption | omega | rfl) only [i_rem, i_pred, i_addn1, i_lit, i_n1, i_add, i_mul, i_sub, i_le, i_lt, i_eq, i_ne1, n1_ne, n1_lt, n1_le, i_lt1, i_le1, bd_s, nar_bi, nar_0, nar_1, if_pos, if_neg, ↓reduceIte, reduceCtorEq, eq_self, if_true, if_false, not_true_eq_false, not_false_eq_true, tp_k, tp_fI, tp_fL, tp_pI, tp_pL, tp_z0, tp_z1, tp_fR0, tp0_a, tp0_t, tp0_n, tp_fR1, tp1_a, tp1_t, tp1_n, h2]
theorem c_atMark {c : Nat} (h : CqR n T m (.inr t) I L) (hc : c < 256) : fX9_atMark N 1 (i32 c) (mk I L r) = some (bi (decide (t.1 = 3 ∧ t.2.2.2.2 = c)), mk I L r) := by
  obtain ⟨h1, ⟨k1, k2, k3, k4, k5, k6⟩, h3, t1, t2, t3, t4, t5, t6⟩ := h
  unfold fX9_atMark
  by_cases c1 : t.1 = 3
  · have k6' := k6 (Or.inr c1)
    have t6' := t6 c1
    by_cases c2 : t.2.2.2.2 = c
    · rw [decide_eq_true (show t.1 = 3 ∧ t.2.2.2.2 = c from ⟨c1, c2⟩)]
      simp (disch := first | assumption | omega | rfl) only [i_rem, i_pred, i_addn1, i_lit, i_n1, i_add, i_mul, i_sub, i_le, i_lt, i_eq, i_ne1, n1_ne, n1_lt, n1_le, i_lt1, i_le1, bd_s, nar_bi, nar_0, nar_1, if_pos, if_neg, ↓reduceIte, reduceCtorEq, eq_self, if_true, if_false, not_true_eq_false, not_false_eq_true, tp_k, tp_fI, tp_fL, tp_pI, tp_pL, tp_z0, tp_z1, tp_fR0, tp0_a, tp0_t, tp0_n, tp_fR1, tp1_a, tp1_t, tp1_n, k1, c1, k6', c2]
      rfl
    · rw [decide_eq_false (show ¬ (t.1 = 3 ∧ t.2.2.2.2 = c) from fun z => c2 z.2)]
      simp (disch := first | assumption | omega | rfl) only [i_rem, i_pred, i_addn1, i_lit, i_n1, i_add, i_mul, i_sub, i_le, i_lt, i_eq, i_ne1, n1_ne, n1_lt, n1_le, i_lt1, i_le1, bd_s, nar_bi, nar_0, nar_1, if_pos, if_neg, ↓reduceIte, reduceCtorEq, eq_self, if_true, if_false, not_true_eq_false, not_false_eq_true, tp_k, tp_fI, tp_fL, tp_pI, tp_pL, tp_z0, tp_z1, tp_fR0, tp0_a, tp0_t, tp0_n, tp_fR1, tp1_a, tp1_t, tp1_n, k1, c1, k6', c2]
      rfl
  · rw [decide_eq_false (show ¬ (t.1 = 3 ∧ t.2.2.2.2 = c) from fun z => c1 z.1)]
    simp (disch := first | assumption | omega | rfl) only [i_rem, i_pred, i_addn1, i_lit, i_n1, i_add, i_mul, i_sub, i_le, i_lt, i_eq, i_ne1, n1_ne, n1_lt, n1_le, i_lt1, i_le1, bd_s, nar_bi, nar_0, nar_1, if_pos, if_neg, ↓reduceIte, reduceCtorEq, eq_self, if_true, if_false, not_true_eq_false, not_false_eq_true, tp_k, tp_fI, tp_fL, tp_pI, tp_pL, tp_z0, tp_z1, tp_fR0, tp0_a, tp0_t, tp0_n, tp_fR1, tp1_a, tp1_t, tp1_n, k1, c1]
    rfl
theorem c_atName (h : CqR n T m (.inr t) I L) : fX9_atName N 1 (mk I L r) = some (bi (isNm t), mk I L r) := by
  obtain ⟨h1, ⟨k1, k2, k3, k4, k5, k6⟩, h3, t1, t2, t3, t4, t5, t6⟩ := h
  unfold fX9_atName isNm
  by_cases c1 : t.1 = 1
  · rw [if_pos c1] at k4
    cases c2 : kwI t.2.2.2.1 with
    | none =>
      rw [c2] at k4
      rw [decide_eq_true (show t.1 = 1 ∧ (none : Option Nat) = none from ⟨c1, rfl⟩)]
      simp (disch := first | assumption | omega | rfl) only [i_rem, i_pred, i_addn1, i_lit, i_n1, i_add, i_mul, i_sub, i_le, i_lt, i_eq, i_ne1, n1_ne, n1_lt, n1_le, i_lt1, i_le1, bd_s, nar_bi, nar_0, nar_1, if_pos, if_neg, ↓reduceIte, reduceCtorEq, eq_self, if_true, if_false, not_true_eq_false, not_false_eq_true, tp_k, tp_fI, tp_fL, tp_pI, tp_pL, tp_z0, tp_z1, tp_fR0, tp0_a, tp0_t, tp0_n, tp_fR1, tp1_a, tp1_t, tp1_n, k1, c1, k4, oi]
      rfl
    | some j =>
      have hj := (kwI_lt c2).1
      rw [c2] at k4
      rw [decide_eq_false (show ¬ (t.1 = 1 ∧ some j = none) from fun z => by cases z.2)]
      simp (disch := first | assumption | omega | rfl) only [i_rem, i_pred, i_addn1, i_lit, i_n1, i_add, i_mul, i_sub, i_le, i_lt, i_eq, i_ne1, n1_ne, n1_lt, n1_le, i_lt1, i_le1, bd_s, nar_bi, nar_0, nar_1, if_pos, if_neg, ↓reduceIte, reduceCtorEq, eq_self, if_true, if_false, not_true_eq_false, not_false_eq_true, tp_k, tp_fI, tp_fL, tp_pI, tp_pL, tp_z0, tp_z1, tp_fR0, tp0_a, tp0_t, tp0_n, tp_fR1, tp1_a, tp1_t, tp1_n, k1, c1, k4, oi]
      rfl
  · rw [decide_eq_false (show ¬ (t.1 = 1 ∧ kwI t.2.2.2.1 = none) from fun z => c1 z.1)]
    simp (disch := first | assumption | omega | rfl) only [i_rem, i_pred, i_addn1, i_lit, i_n1, i_add, i_mul, i_sub, i_le, i_lt, i_eq, i_ne1, n1_ne, n1_lt, n1_le, i_lt1, i_le1, bd_s, nar_bi, nar_0, nar_1, if_pos, if_neg, ↓reduceIte, reduceCtorEq, eq_self, if_true, if_false, not_true_eq_false, not_false_eq_true, tp_k, tp_fI, tp_fL, tp_pI, tp_pL, tp_z0, tp_z1, tp_fR0, tp0_a, tp0_t, tp0_n, tp_fR1, tp1_a, tp1_t, tp1_n, k1, c1]
    rfl
theorem c_takeMark {c : Nat} (hN : 1200 < N) (h : CqR n T m o I L) (hc : c < 256) : ∃ J K, fX9_takeMark N 1 (i32 c) (mk I L r) = some ((), mk J K r) ∧ CqR n T m (oM n T m c o) J K ∧ FrT 1 S4c I J L K := by
  cases o with
  | inl e =>
    refine ⟨I, L, ?_, h, FrT.rf⟩
    have e1 := c_failL (N := N) (r := r) (v := i32 1) h
    obtain ⟨h1, h2, h3, h4, h5, h6⟩ := h
    unfold fX9_takeMark
    simp (disch := first | assumption | omega | rfl) only [i_rem, i_pred, i_addn1, i_lit, i_n1, i_add, i_mul, i_sub, i_le, i_lt, i_eq, i_ne1, n1_ne, n1_lt, n1_le, i_lt1, i_le1, bd_s, nar_bi, nar_0, nar_1, if_pos, if_neg, ↓reduceIte, reduceCtorEq, eq_self, if_true, if_false, not_true_eq_false, not_false_eq_true, tp_k, tp_fI, tp_fL, tp_pI, tp_pL, tp_z0, tp_z1, tp_fR0, tp0_a, tp0_t, tp0_n, tp_fR1, tp1_a, tp1_t, tp1_n, h2, e1]
  | inr t =>
    have e1 := c_atMark (N := N) (r := r) h hc
    have h10 : I 1 10 = i32 0 := h.2.2.1
    unfold oM
    dsimp only
    by_cases c1 : t.1 = 3 ∧ t.2.2.2.2 = c
    · rw [if_pos c1]
      rw [decide_eq_true c1] at e1
      obtain ⟨J, K, e2, g1, g2⟩ := c_adv (N := N) (r := r) hN h
      refine ⟨J, K, ?_, g1, g2⟩
      unfold fX9_takeMark
      simp (disch := first | assumption | omega | rfl) only [i_rem, i_pred, i_addn1, i_lit, i_n1, i_add, i_mul, i_sub, i_le, i_lt, i_eq, i_ne1, n1_ne, n1_lt, n1_le, i_lt1, i_le1, bd_s, nar_bi, nar_0, nar_1, if_pos, if_neg, ↓reduceIte, reduceCtorEq, eq_self, if_true, if_false, not_true_eq_false, not_false_eq_true, tp_k, tp_fI, tp_fL, tp_pI, tp_pL, tp_z0, tp_z1, tp_fR0, tp0_a, tp0_t, tp0_n, tp_fR1, tp1_a, tp1_t, tp1_n, h10, e1, bi_z, e2]
    · rw [if_neg c1]
      rw [decide_eq_false c1] at e1
      obtain ⟨J, e2, g1, g2⟩ := c_failR (N := N) (r := r) (k := 1) h (by omega)
      refine ⟨J, L, ?_, g1, g2⟩
      unfold fX9_takeMark
      simp (disch := first | assumption | omega | rfl) only [i_rem, i_pred, i_addn1, i_lit, i_n1, i_add, i_mul, i_sub, i_le, i_lt, i_eq, i_ne1, n1_ne, n1_lt, n1_le, i_lt1, i_le1, bd_s, nar_bi, nar_0, nar_1, if_pos, if_neg, ↓reduceIte, reduceCtorEq, eq_self, if_true, if_false, not_true_eq_false, not_false_eq_true, tp_k, tp_fI, tp_fL, tp_pI, tp_pL, tp_z0, tp_z1, tp_fR0, tp0_a, tp0_t, tp0_n, tp_fR1, tp1_a, tp1_t, tp1_n, h10, e1, bi_z, e2]
theorem c_takeNum {a b : Nat} (hN : 1200 < N) (h : CqR n T m o I L) (ha : a < 1000) (hb : b < 1000) : ∃ J K, fX9_takeNumber N 1 (i32 a) (i32 b) (mk I L r) = some (i32 (vN a b o), mk J K r) ∧ CqR n T m (oN n T m a b o) J K ∧ FrT 1 S4c I J L K := by
  cases o with
  | inl e =>
    refine ⟨I, L, ?_, h, FrT.rf⟩
    have e1 := c_failL (N := N) (r := r) (v := i32 1) h
    obtain ⟨h1, h2, h3, h4, h5, h6⟩ := h
    unfold fX9_takeNumber
    simp (disch := first | assumption | omega | rfl) only [i_rem, i_pred, i_addn1, i_lit, i_n1, i_add, i_mul, i_sub, i_le, i_lt, i_eq, i_ne1, n1_ne, n1_lt, n1_le, i_lt1, i_le1, bd_s, nar_bi, nar_0, nar_1, if_pos, if_neg, ↓reduceIte, reduceCtorEq, eq_self, if_true, if_false, not_true_eq_false, not_false_eq_true, tp_k, tp_fI, tp_fL, tp_pI, tp_pL, tp_z0, tp_z1, tp_fR0, tp0_a, tp0_t, tp0_n, tp_fR1, tp1_a, tp1_t, tp1_n, h2, e1, vN]
  | inr t =>
    have h10 : I 1 10 = i32 0 := h.2.2.1
    have hk : I 1 5 = i32 t.1 := h.2.1.1
    have t4 : t.1 ≤ 4 := h.2.2.2.1
    unfold oN vN
    dsimp only
    by_cases c1 : t.1 = 2
    · have h7 : I 1 7 = i32 t.2.2.2.2 := h.2.1.2.2.2.2.2 (Or.inl c1)
      have t9 : t.2.2.2.2 ≤ 999 := h.2.2.2.2.2.2.2.1 c1
      rw [if_pos c1]
      rw [c1] at hk
      by_cases c2 : a ≤ t.2.2.2.2 ∧ t.2.2.2.2 ≤ b
      · rw [if_pos c2, if_pos ⟨c1, c2⟩]
        obtain ⟨J, K, e2, g1, g2⟩ := c_adv (N := N) (r := r) hN h
        refine ⟨J, K, ?_, g1, g2⟩
        have c3 := c2.1
        have c4 := c2.2
        unfold fX9_takeNumber
        repeat (first | (apply bd_eq; (focus (simp (disch := first | assumption | omega | rfl) only [i_rem, i_pred, i_addn1, i_lit, i_n1, i_add, i_mul, i_sub, i_le, i_lt, i_eq, i_ne1, n1_ne, n1_lt, n1_le, i_lt1, i_le1, bd_s, nar_bi, nar_0, nar_1, if_pos, if_neg, ↓reduceIte, reduceCtorEq, eq_self, if_true, if_false, not_true_eq_false, not_false_eq_true, tp_k, tp_fI, tp_fL, tp_pI, tp_pL, tp_z0, tp_z1, tp_fR0, tp0_a, tp0_t, tp0_n, tp_fR1, tp1_a, tp1_t, tp1_n, h10, hk, h7, e2]; first | done | (with_reducible rfl; done))); try dsimp only) | (apply it_p; (focus (first | assumption | (simp (disch := first | assumption | omega | rfl) only [i_rem, i_pred, i_addn1, i_lit, i_n1, i_add, i_mul, i_sub, i_le, i_lt, i_eq, i_ne1, n1_ne, n1_lt, n1_le, i_lt1, i_le1, bd_s, nar_bi, nar_0, nar_1, if_pos, if_neg, ↓reduceIte, reduceCtorEq, eq_self, if_true, if_false, not_true_eq_false, not_false_eq_true, tp_k, tp_fI, tp_fL, tp_pI, tp_pL, tp_z0, tp_z1, tp_fR0, tp0_a, tp0_t, tp0_n, tp_fR1, tp1_a, tp1_t, tp1_n, h10, hk, h7, e2]; first | done | omega)))) | (apply it_n; (focus (first | assumption | (simp (disch := first | assumption | omega | rfl) only [i_rem, i_pred, i_addn1, i_lit, i_n1, i_add, i_mul, i_sub, i_le, i_lt, i_eq, i_ne1, n1_ne, n1_lt, n1_le, i_lt1, i_le1, bd_s, nar_bi, nar_0, nar_1, if_pos, if_neg, ↓reduceIte, reduceCtorEq, eq_self, if_true, if_false, not_true_eq_false, not_false_eq_true, tp_k, tp_fI, tp_fL, tp_pI, tp_pL, tp_z0, tp_z1, tp_fR0, tp0_a, tp0_t, tp0_n, tp_fR1, tp1_a, tp1_t, tp1_n, h10, hk, h7, e2]; first | done | omega)))))
        all_goals rfl
      · rw [if_neg c2, if_neg (fun z => c2 z.2)]
        obtain ⟨J, e2, g1, g2⟩ := c_failR (N := N) (r := r) (k := 2) h (by omega)
        refine ⟨J, L, ?_, g1, g2⟩
        unfold fX9_takeNumber
        by_cases c3 : t.2.2.2.2 < a
        · repeat (first | (apply bd_eq; (focus (simp (disch := first | assumption | omega | rfl) only [i_rem, i_pred, i_addn1, i_lit, i_n1, i_add, i_mul, i_sub, i_le, i_lt, i_eq, i_ne1, n1_ne, n1_lt, n1_le, i_lt1, i_le1, bd_s, nar_bi, nar_0, nar_1, if_pos, if_neg, ↓reduceIte, reduceCtorEq, eq_self, if_true, if_false, not_true_eq_false, not_false_eq_true, tp_k, tp_fI, tp_fL, tp_pI, tp_pL, tp_z0, tp_z1, tp_fR0, tp0_a, tp0_t, tp0_n, tp_fR1, tp1_a, tp1_t, tp1_n, h10, hk, h7, e2]; first | done | (with_reducible rfl; done))); try dsimp only) | (apply it_p; (focus (first | assumption | (simp (disch := first | assumption | omega | rfl) only [i_rem, i_pred, i_addn1, i_lit, i_n1, i_add, i_mul, i_sub, i_le, i_lt, i_eq, i_ne1, n1_ne, n1_lt, n1_le, i_lt1, i_le1, bd_s, nar_bi, nar_0, nar_1, if_pos, if_neg, ↓reduceIte, reduceCtorEq, eq_self, if_true, if_false, not_true_eq_false, not_false_eq_true, tp_k, tp_fI, tp_fL, tp_pI, tp_pL, tp_z0, tp_z1, tp_fR0, tp0_a, tp0_t, tp0_n, tp_fR1, tp1_a, tp1_t, tp1_n, h10, hk, h7, e2]; first | done | omega)))) | (apply it_n; (focus (first | assumption | (simp (disch := first | assumption | omega | rfl) only [i_rem, i_pred, i_addn1, i_lit, i_n1, i_add, i_mul, i_sub, i_le, i_lt, i_eq, i_ne1, n1_ne, n1_lt, n1_le, i_lt1, i_le1, bd_s, nar_bi, nar_0, nar_1, if_pos, if_neg, ↓reduceIte, reduceCtorEq, eq_self, if_true, if_false, not_true_eq_false, not_false_eq_true, tp_k, tp_fI, tp_fL, tp_pI, tp_pL, tp_z0, tp_z1, tp_fR0, tp0_a, tp0_t, tp0_n, tp_fR1, tp1_a, tp1_t, tp1_n, h10, hk, h7, e2]; first | done | omega)))))
          all_goals rfl
        · have c4 : ¬ t.2.2.2.2 ≤ b := by omega
          repeat (first | (apply bd_eq; (focus (simp (disch := first | assumption | omega | rfl) only [i_rem, i_pred, i_addn1, i_lit, i_n1, i_add, i_mul, i_sub, i_le, i_lt, i_eq, i_ne1, n1_ne, n1_lt, n1_le, i_lt1, i_le1, bd_s, nar_bi, nar_0, nar_1, if_pos, if_neg, ↓reduceIte, reduceCtorEq, eq_self, if_true, if_false, not_true_eq_false, not_false_eq_true, tp_k, tp_fI, tp_fL, tp_pI, tp_pL, tp_z0, tp_z1, tp_fR0, tp0_a, tp0_t, tp0_n, tp_fR1, tp1_a, tp1_t, tp1_n, h10, hk, h7, e2]; first | done | (with_reducible rfl; done))); try dsimp only) | (apply it_p; (focus (first | assumption | (simp (disch := first | assumption | omega | rfl) only [i_rem, i_pred, i_addn1, i_lit, i_n1, i_add, i_mul, i_sub, i_le, i_lt, i_eq, i_ne1, n1_ne, n1_lt, n1_le, i_lt1, i_le1, bd_s, nar_bi, nar_0, nar_1, if_pos, if_neg, ↓reduceIte, reduceCtorEq, eq_self, if_true, if_false, not_true_eq_false, not_false_eq_true, tp_k, tp_fI, tp_fL, tp_pI, tp_pL, tp_z0, tp_z1, tp_fR0, tp0_a, tp0_t, tp0_n, tp_fR1, tp1_a, tp1_t, tp1_n, h10, hk, h7, e2]; first | done | omega)))) | (apply it_n; (focus (first | assumption | (simp (disch := first | assumption | omega | rfl) only [i_rem, i_pred, i_addn1, i_lit, i_n1, i_add, i_mul, i_sub, i_le, i_lt, i_eq, i_ne1, n1_ne, n1_lt, n1_le, i_lt1, i_le1, bd_s, nar_bi, nar_0, nar_1, if_pos, if_neg, ↓reduceIte, reduceCtorEq, eq_self, if_true, if_false, not_true_eq_false, not_false_eq_true, tp_k, tp_fI, tp_fL, tp_pI, tp_pL, tp_z0, tp_z1, tp_fR0, tp0_a, tp0_t, tp0_n, tp_fR1, tp1_a, tp1_t, tp1_n, h10, hk, h7, e2]; first | done | omega)))))
          all_goals rfl
    · rw [if_neg c1, if_neg (fun z => c1 z.1)]
      obtain ⟨J, e2, g1, g2⟩ := c_failR (N := N) (r := r) (k := 1) h (by omega)
      refine ⟨J, L, ?_, g1, g2⟩
      have hk' : ¬ i32 t.1 = i32 2 := by rw [i_eq (by omega) (by omega)]; exact c1
      unfold fX9_takeNumber
      repeat (first | (apply bd_eq; (focus (simp (disch := first | assumption | omega | rfl) only [i_rem, i_pred, i_addn1, i_lit, i_n1, i_add, i_mul, i_sub, i_le, i_lt, i_eq, i_ne1, n1_ne, n1_lt, n1_le, i_lt1, i_le1, bd_s, nar_bi, nar_0, nar_1, if_pos, if_neg, ↓reduceIte, reduceCtorEq, eq_self, if_true, if_false, not_true_eq_false, not_false_eq_true, tp_k, tp_fI, tp_fL, tp_pI, tp_pL, tp_z0, tp_z1, tp_fR0, tp0_a, tp0_t, tp0_n, tp_fR1, tp1_a, tp1_t, tp1_n, h10, hk, e2]; first | done | (with_reducible rfl; done))); try dsimp only) | (apply it_p; (focus (first | assumption | (simp (disch := first | assumption | omega | rfl) only [i_rem, i_pred, i_addn1, i_lit, i_n1, i_add, i_mul, i_sub, i_le, i_lt, i_eq, i_ne1, n1_ne, n1_lt, n1_le, i_lt1, i_le1, bd_s, nar_bi, nar_0, nar_1, if_pos, if_neg, ↓reduceIte, reduceCtorEq, eq_self, if_true, if_false, not_true_eq_false, not_false_eq_true, tp_k, tp_fI, tp_fL, tp_pI, tp_pL, tp_z0, tp_z1, tp_fR0, tp0_a, tp0_t, tp0_n, tp_fR1, tp1_a, tp1_t, tp1_n, h10, hk, e2]; first | done | omega)))) | (apply it_n; (focus (first | assumption | (simp (disch := first | assumption | omega | rfl) only [i_rem, i_pred, i_addn1, i_lit, i_n1, i_add, i_mul, i_sub, i_le, i_lt, i_eq, i_ne1, n1_ne, n1_lt, n1_le, i_lt1, i_le1, bd_s, nar_bi, nar_0, nar_1, if_pos, if_neg, ↓reduceIte, reduceCtorEq, eq_self, if_true, if_false, not_true_eq_false, not_false_eq_true, tp_k, tp_fI, tp_fL, tp_pI, tp_pL, tp_z0, tp_z1, tp_fR0, tp0_a, tp0_t, tp0_n, tp_fR1, tp1_a, tp1_t, tp1_n, h10, hk, e2]; first | done | omega)))))
      all_goals rfl
theorem c_takeKw {k : Nat} (hN : 1200 < N) (h : CqR n T m (.inr t) I L) (hk : k < 20) : ∃ J K, fX9_takeKeyword N 1 (i32 k) (mk I L r) = some ((), mk J K r) ∧ CqR n T m (if t.1 = 1 ∧ kwd k = t.2.2.2.1 then .inr (nt n T m t) else .inl (1, t.2.1)) J K ∧ FrT 1 S4c I J L K := by
  have h10 : I 1 10 = i32 0 := h.2.2.1
  have h9 := h.2.1.2.2.2.1
  by_cases c : t.1 = 1 ∧ kwd k = t.2.2.2.1
  · rw [if_pos c]
    obtain ⟨J, K, e2, g1, g2⟩ := c_adv (N := N) (r := r) hN h
    refine ⟨J, K, ?_, g1, g2⟩
    rw [if_pos c.1, (kwI_k hk).mpr c.2] at h9
    unfold fX9_takeKeyword
    repeat (first | (apply bd_eq; (focus (simp (disch := first | assumption | omega | rfl) only [i_rem, i_pred, i_addn1, i_lit, i_n1, i_add, i_mul, i_sub, i_le, i_lt, i_eq, i_ne1, n1_ne, n1_lt, n1_le, i_lt1, i_le1, bd_s, nar_bi, nar_0, nar_1, if_pos, if_neg, ↓reduceIte, reduceCtorEq, eq_self, if_true, if_false, not_true_eq_false, not_false_eq_true, tp_k, tp_fI, tp_fL, tp_pI, tp_pL, tp_z0, tp_z1, tp_fR0, tp0_a, tp0_t, tp0_n, tp_fR1, tp1_a, tp1_t, tp1_n, h10, h9, oi, e2]; first | done | (with_reducible rfl; done))); try dsimp only) | (apply it_p; (focus (first | assumption | (simp (disch := first | assumption | omega | rfl) only [i_rem, i_pred, i_addn1, i_lit, i_n1, i_add, i_mul, i_sub, i_le, i_lt, i_eq, i_ne1, n1_ne, n1_lt, n1_le, i_lt1, i_le1, bd_s, nar_bi, nar_0, nar_1, if_pos, if_neg, ↓reduceIte, reduceCtorEq, eq_self, if_true, if_false, not_true_eq_false, not_false_eq_true, tp_k, tp_fI, tp_fL, tp_pI, tp_pL, tp_z0, tp_z1, tp_fR0, tp0_a, tp0_t, tp0_n, tp_fR1, tp1_a, tp1_t, tp1_n, h10, h9, oi, e2]; first | done | omega)))) | (apply it_n; (focus (first | assumption | (simp (disch := first | assumption | omega | rfl) only [i_rem, i_pred, i_addn1, i_lit, i_n1, i_add, i_mul, i_sub, i_le, i_lt, i_eq, i_ne1, n1_ne, n1_lt, n1_le, i_lt1, i_le1, bd_s, nar_bi, nar_0, nar_1, if_pos, if_neg, ↓reduceIte, reduceCtorEq, eq_self, if_true, if_false, not_true_eq_false, not_false_eq_true, tp_k, tp_fI, tp_fL, tp_pI, tp_pL, tp_z0, tp_z1, tp_fR0, tp0_a, tp0_t, tp0_n, tp_fR1, tp1_a, tp1_t, tp1_n, h10, h9, oi, e2]; first | done | omega)))))
    all_goals rfl
  · rw [if_neg c]
    obtain ⟨J, e2, g1, g2⟩ := c_failR (N := N) (r := r) (k := 1) h (by omega)
    refine ⟨J, L, ?_, g1, g2⟩
    have h9' : ¬ I 1 9 = i32 k := by
      rw [h9]
      by_cases c1 : t.1 = 1
      · rw [if_pos c1]
        cases c2 : kwI t.2.2.2.1 with
        | none => show ¬ n1 = i32 k; rw [n1_ne (by omega)]; exact id
        | some j =>
          show ¬ i32 j = i32 k
          have hj := (kwI_lt c2)
          rw [i_eq (by omega) (by omega)]
          intro z; subst z; exact c ⟨c1, hj.2⟩
      · rw [if_neg c1, n1_ne (by omega)]; exact id
    unfold fX9_takeKeyword
    repeat (first | (apply bd_eq; (focus (simp (disch := first | assumption | omega | rfl) only [tp_k, tp_fI, tp_fL, tp_pI, tp_pL, tp_z0, tp_z1, tp_fR0, tp0_a, tp0_t, tp0_n, tp_fR1, tp1_a, tp1_t, tp1_n, h10, e2, i_lit, eq_self]; first | done | (with_reducible rfl; done))); try dsimp only) | (apply it_p; (focus (first | assumption | (simp (disch := first | assumption | omega | rfl) only [tp_k, tp_fI, tp_fL, tp_pI, tp_pL, tp_z0, tp_z1, tp_fR0, tp0_a, tp0_t, tp0_n, tp_fR1, tp1_a, tp1_t, tp1_n, h10, e2, i_lit, eq_self]; first | done | omega)))) | (apply it_n; (focus (first | assumption | (simp (disch := first | assumption | omega | rfl) only [tp_k, tp_fI, tp_fL, tp_pI, tp_pL, tp_z0, tp_z1, tp_fR0, tp0_a, tp0_t, tp0_n, tp_fR1, tp1_a, tp1_t, tp1_n, h10, e2, i_lit, eq_self]; first | done | omega)))))
    all_goals rfl
theorem c_indexOf {q z s : Nat} {Wf : Nat → List Nat} {w : List Nat} (hN : 1200 < N) (hK : K0 q = 21) (hn : N0 q = z) (hz : z < 100) (hs : s ≤ z) (hL : ∀ i, i < s → L q i = i64 (cB 32 (Wf i))) (hW : ∀ i, i < s → wOk (Wf i)) (hw : wOk w) : fX8_indexOf N q (i32 s) (i64 (cB 32 w)) (mk I L r) = some (oi (fd (fun i => decide (Wf i = w)) s), mk I L r) := by
  have na : nA (mk I L r) q = some (i32 z) := mk_nA (by rw [hK]; decide) hn
  have al : ∀ i, i < s → aL (mk I L r) q (i32 i) = some (L q i) := fun i hi => mk_aL hK hn (by omega) (by omega)
  unfold fX8_indexOf
  simp only [i_lit]
  rw [lp_fd (F := fun n' v => fX8_indexOf_L3 N q (i32 s) (i64 (cB 32 w)) n' v (mk I L r)) (m := s) (fun i => Wf i = w) (fun i => (i32 i, mk I L r)) (n1, mk I L r) ?_ ?_ ?_ (by omega)]
  · cases fd (fun i => decide (Wf i = w)) s <;> rfl
  · intro n' k hk hP
    have c := (w_cmp (β := 32) (by omega) (by omega) (hW k hk) hw).mpr hP
    simp (disch := first | assumption | omega | rfl) only [i_rem, i_pred, i_addn1, i_lit, i_n1, i_add, i_mul, i_sub, i_le, i_lt, i_eq, i_ne1, n1_ne, n1_lt, n1_le, i_lt1, i_le1, bd_s, nar_bi, nar_0, nar_1, if_pos, if_neg, ↓reduceIte, reduceCtorEq, eq_self, if_true, if_false, not_true_eq_false, not_false_eq_true, fX8_indexOf_L3, na, al k hk, hL k hk, c]
  · intro n' k hk hP
    have c : ¬ lg_cmp (i64 (cB 32 (Wf k))) (i64 (cB 32 w)) = i32 0 := fun z => hP ((w_cmp (β := 32) (by omega) (by omega) (hW k hk) hw).mp z)
    simp (disch := first | assumption | omega | rfl) only [i_rem, i_pred, i_addn1, i_lit, i_n1, i_add, i_mul, i_sub, i_le, i_lt, i_eq, i_ne1, n1_ne, n1_lt, n1_le, i_lt1, i_le1, bd_s, nar_bi, nar_0, nar_1, if_pos, if_neg, ↓reduceIte, reduceCtorEq, eq_self, if_true, if_false, not_true_eq_false, not_false_eq_true, fX8_indexOf_L3, na, al k hk, hL k hk, c]
  · intro n'
    simp (disch := first | assumption | omega | rfl) only [i_rem, i_pred, i_addn1, i_lit, i_n1, i_add, i_mul, i_sub, i_le, i_lt, i_eq, i_ne1, n1_ne, n1_lt, n1_le, i_lt1, i_le1, bd_s, nar_bi, nar_0, nar_1, if_pos, if_neg, ↓reduceIte, reduceCtorEq, eq_self, if_true, if_false, not_true_eq_false, not_false_eq_true, fX8_indexOf_L3]
theorem oi_ex {P : Nat → Bool} {s : Nat} (hs : s < 1000) : oi (fd P s) = n1 ↔ exb P s = false := by
  cases e : fd P s with
  | none => exact ⟨fun _ => exb_false.mpr (fd_none.mp e), fun _ => rfl⟩
  | some k =>
    obtain ⟨h1, h2, _⟩ := fd_some.mp e
    refine ⟨fun z => ?_, fun z => ?_⟩
    · have z' : i32 k = n1 := z
      rw [i_ne1 (by omega)] at z'; exact absurd z' id
    · rw [exb_iff.mpr ⟨k, h1, h2⟩] at z; cases z
/-! the reference -/
theorem TMo_q (h : TMo n T m I) (f : FrT 186 Sq I J L K) : TMo n T m J := by
  obtain ⟨h1, h2, h3, h4, h5, h6⟩ := h
  exact ⟨by rw [f.2.1 3 (by unfold Sq; omega)]; exact h1, h2, by rw [f.2.1 4 (by unfold Sq; omega)]; exact h3, h4, fun k hk => by rw [f.1 187 (by omega)]; exact h5 k hk, h6⟩
theorem m_adv (hN : 1200 < N) (h : MqR n T m (.inr t) I L) : ∃ J K, fX11_go N 186 (mk I L r) = some ((), mk J K r) ∧ MqR n T m (.inr (nt n T m t)) J K ∧ J 186 13 = I 186 13 ∧ FrT 186 Sq I J L K := by
  obtain ⟨h1, h2, h3, h4⟩ := h
  obtain ⟨J, K, e, g1, g2⟩ := m_go (N := N) (L := L) (r := r) hN h1 h4.2.2.1 h2.2.2.1
  exact ⟨J, K, e, ⟨TMo_fr h1 g2, g1, by rw [g2.2.1 10 (by unfold Sm; omega)]; exact h3, nx_ok h1.2.1 h4.2.2.1 h1.2.2.2.2.2⟩, g2.2.1 13 (by unfold Sm; omega), g2.mono Sm_q⟩
theorem m_bad {k : Nat} (h : MqR n T m (.inr t) I L) (hk : t.1 = 4 → k = 1) : ∃ J, fX11_bad N 186 (i32 k) (mk I L r) = some (i32 0, mk J L r) ∧ MqR n T m (.inl (k, t.2.1)) J L ∧ FrT 186 Sq I J L L := by
  obtain ⟨h1, ⟨k1, k2, k3, k4, k5, k6⟩, h3, t1, t2, t3, t4, t5, t6⟩ := h
  have fr : FrT 186 Sq I (up (up I 186 10 (i32 k)) 186 11 (i32 t.2.1)) L L := (FrT.rf.up (by unfold Sq; omega)).up (by unfold Sq; omega)
  refine ⟨up (up I 186 10 (i32 k)) 186 11 (i32 t.2.1), ?_, ⟨TMo_q h1 fr, by rw [up_ofk (by omega), up_self], up_self⟩, fr⟩
  have j14 := fun v => show fX11_bad_J14 N 186 v 186 (mk I L r) = some (i32 0, mk (up (up I 186 10 v) 186 11 (i32 t.2.1)) L r) by
    unfold fX11_bad_J14
    simp (disch := first | assumption | omega | rfl) only [i_rem, i_pred, i_addn1, i_lit, i_n1, i_add, i_mul, i_sub, i_le, i_lt, i_eq, i_ne1, n1_ne, n1_lt, n1_le, i_lt1, i_le1, bd_s, nar_bi, nar_0, nar_1, if_pos, if_neg, ↓reduceIte, reduceCtorEq, eq_self, if_true, if_false, not_true_eq_false, not_false_eq_true, mo_k, mo_fI, mo_fL, mo_pI, mo_pL, mo_z0, mo_z1, mo_fR1, mo1_a, mo1_t, mo1_n, mo_fR14, mo14_a, mo14_t, mo14_n, mo_fR15, mo15_a, mo15_t, mo15_n, mo_fR16, mo16_a, mo16_t, mo16_n, mo_fR17, mo17_a, mo17_t, mo17_n, mo_fR18, mo18_a, mo18_t, mo18_n, mo_fR19, mo19_a, mo19_t, mo19_n, mo_fR20, mo20_a, mo20_t, mo20_n, mo_fR21, mo21_a, mo21_t, mo21_n, mo_fR22, mo22_a, mo22_t, mo22_n, mo_fR25, mo25_a, mo25_t, mo25_n, mo_fR26, mo26_a, mo26_t, mo26_n, mo_fR28, mo28_a, mo28_t, mo28_n, mo_fR29, mo29_a, mo29_t, mo29_n, mo_fR30, mo30_a, mo30_t, mo30_n, mo_fR33, mo33_a, mo33_t, mo33_n, mo_fR36, mo36_a, mo36_t, mo36_n, mo_fR37, mo37_a, mo37_t, mo37_n, mo_fR40, mo40_a, mo40_t, mo40_n, up_ofk, k2]
  unfold fX11_bad
  by_cases c : t.1 = 4
  · rw [hk c]
    rw [c] at k1
    have k1' : I 186 7 = i32 1 := k1
    simp (disch := first | assumption | omega | rfl) only [i_rem, i_pred, i_addn1, i_lit, i_n1, i_add, i_mul, i_sub, i_le, i_lt, i_eq, i_ne1, n1_ne, n1_lt, n1_le, i_lt1, i_le1, bd_s, nar_bi, nar_0, nar_1, if_pos, if_neg, ↓reduceIte, reduceCtorEq, eq_self, if_true, if_false, not_true_eq_false, not_false_eq_true, mo_k, mo_fI, mo_fL, mo_pI, mo_pL, mo_z0, mo_z1, mo_fR1, mo1_a, mo1_t, mo1_n, mo_fR14, mo14_a, mo14_t, mo14_n, mo_fR15, mo15_a, mo15_t, mo15_n, mo_fR16, mo16_a, mo16_t, mo16_n, mo_fR17, mo17_a, mo17_t, mo17_n, mo_fR18, mo18_a, mo18_t, mo18_n, mo_fR19, mo19_a, mo19_t, mo19_n, mo_fR20, mo20_a, mo20_t, mo20_n, mo_fR21, mo21_a, mo21_t, mo21_n, mo_fR22, mo22_a, mo22_t, mo22_n, mo_fR25, mo25_a, mo25_t, mo25_n, mo_fR26, mo26_a, mo26_t, mo26_n, mo_fR28, mo28_a, mo28_t, mo28_n, mo_fR29, mo29_a, mo29_t, mo29_n, mo_fR30, mo30_a, mo30_t, mo30_n, mo_fR33, mo33_a, mo33_t, mo33_n, mo_fR36, mo36_a, mo36_t, mo36_n, mo_fR37, mo37_a, mo37_t, mo37_n, mo_fR40, mo40_a, mo40_t, mo40_n, k1', j14]
  · have hne : kM t.1 ≠ 1 ∧ kM t.1 < 5 := by
      unfold kM
      obtain z | z | z | z : t.1 = 0 ∨ t.1 = 1 ∨ t.1 = 2 ∨ t.1 = 3 := by omega
      all_goals rw [z]; decide
    have hne' : ¬ i32 (kM t.1) = i32 1 := by rw [i_eq (by omega) (by omega)]; exact hne.1
    simp (disch := first | assumption | omega | rfl) only [i_rem, i_pred, i_addn1, i_lit, i_n1, i_add, i_mul, i_sub, i_le, i_lt, i_eq, i_ne1, n1_ne, n1_lt, n1_le, i_lt1, i_le1, bd_s, nar_bi, nar_0, nar_1, if_pos, if_neg, ↓reduceIte, reduceCtorEq, eq_self, if_true, if_false, not_true_eq_false, not_false_eq_true, mo_k, mo_fI, mo_fL, mo_pI, mo_pL, mo_z0, mo_z1, mo_fR1, mo1_a, mo1_t, mo1_n, mo_fR14, mo14_a, mo14_t, mo14_n, mo_fR15, mo15_a, mo15_t, mo15_n, mo_fR16, mo16_a, mo16_t, mo16_n, mo_fR17, mo17_a, mo17_t, mo17_n, mo_fR18, mo18_a, mo18_t, mo18_n, mo_fR19, mo19_a, mo19_t, mo19_n, mo_fR20, mo20_a, mo20_t, mo20_n, mo_fR21, mo21_a, mo21_t, mo21_n, mo_fR22, mo22_a, mo22_t, mo22_n, mo_fR25, mo25_a, mo25_t, mo25_n, mo_fR26, mo26_a, mo26_t, mo26_n, mo_fR28, mo28_a, mo28_t, mo28_n, mo_fR29, mo29_a, mo29_t, mo29_n, mo_fR30, mo30_a, mo30_t, mo30_n, mo_fR33, mo33_a, mo33_t, mo33_n, mo_fR36, mo36_a, mo36_t, mo36_n, mo_fR37, mo37_a, mo37_t, mo37_n, mo_fR40, mo40_a, mo40_t, mo40_n, k1, hne', j14]
theorem kM_eq {k j : Nat} (hk : k ≤ 4) (hj : j ≤ 4) : kM k = kM j ↔ k = j := by
  have : ∀ k, k < 5 → ∀ j, j < 5 → (kM k = kM j ↔ k = j) := by decide
  exact this k (by omega) j (by omega)
theorem kM_5 {k : Nat} : kM k < 5 := by
  unfold kM
  split
  · omega
  · split
    · omega
    · split
      · omega
      · split <;> omega
theorem m_kind {j : Nat} (h : MqR n T m (.inr t) I L) (hj : j ≤ 4) : I 186 7 = i32 (kM j) ↔ t.1 = j := by
  obtain ⟨h1, ⟨k1, k2, k3, k4, k5, k6⟩, h3, t1, t2, t3, t4, t5, t6⟩ := h
  have a1 := kM_5 (k := t.1)
  have a2 := kM_5 (k := j)
  rw [k1, i_eq (by omega) (by omega), kM_eq t1 hj]
theorem m_isSign {c : Nat} (h : MqR n T m (.inr t) I L) (hc : c < 256) : fX11_isSign N 186 (i32 c) (mk I L r) = some (bi (decide (t.1 = 3 ∧ t.2.2.2.2 = c)), mk I L r) := by
  have hk := m_kind h (j := 3) (by omega)
  have hk' : I 186 7 = i32 4 ↔ t.1 = 3 := hk
  obtain ⟨h1, ⟨k1, k2, k3, k4, k5, k6⟩, h3, t1, t2, t3, t4, t5, t6⟩ := h
  unfold fX11_isSign
  by_cases c1 : t.1 = 3
  · have k6' := k6 c1
    have t6' := t6 c1
    have hk2 := hk'.mpr c1
    by_cases c2 : t.2.2.2.2 = c
    · rw [decide_eq_true (show t.1 = 3 ∧ t.2.2.2.2 = c from ⟨c1, c2⟩)]
      simp (disch := first | assumption | omega | rfl) only [i_rem, i_pred, i_addn1, i_lit, i_n1, i_add, i_mul, i_sub, i_le, i_lt, i_eq, i_ne1, n1_ne, n1_lt, n1_le, i_lt1, i_le1, bd_s, nar_bi, nar_0, nar_1, if_pos, if_neg, ↓reduceIte, reduceCtorEq, eq_self, if_true, if_false, not_true_eq_false, not_false_eq_true, mo_k, mo_fI, mo_fL, mo_pI, mo_pL, mo_z0, mo_z1, mo_fR1, mo1_a, mo1_t, mo1_n, mo_fR14, mo14_a, mo14_t, mo14_n, mo_fR15, mo15_a, mo15_t, mo15_n, mo_fR16, mo16_a, mo16_t, mo16_n, mo_fR17, mo17_a, mo17_t, mo17_n, mo_fR18, mo18_a, mo18_t, mo18_n, mo_fR19, mo19_a, mo19_t, mo19_n, mo_fR20, mo20_a, mo20_t, mo20_n, mo_fR21, mo21_a, mo21_t, mo21_n, mo_fR22, mo22_a, mo22_t, mo22_n, mo_fR25, mo25_a, mo25_t, mo25_n, mo_fR26, mo26_a, mo26_t, mo26_n, mo_fR28, mo28_a, mo28_t, mo28_n, mo_fR29, mo29_a, mo29_t, mo29_n, mo_fR30, mo30_a, mo30_t, mo30_n, mo_fR33, mo33_a, mo33_t, mo33_n, mo_fR36, mo36_a, mo36_t, mo36_n, mo_fR37, mo37_a, mo37_t, mo37_n, mo_fR40, mo40_a, mo40_t, mo40_n, hk2, k6', c2]
      rfl
    · rw [decide_eq_false (show ¬ (t.1 = 3 ∧ t.2.2.2.2 = c) from fun z => c2 z.2)]
      simp (disch := first | assumption | omega | rfl) only [i_rem, i_pred, i_addn1, i_lit, i_n1, i_add, i_mul, i_sub, i_le, i_lt, i_eq, i_ne1, n1_ne, n1_lt, n1_le, i_lt1, i_le1, bd_s, nar_bi, nar_0, nar_1, if_pos, if_neg, ↓reduceIte, reduceCtorEq, eq_self, if_true, if_false, not_true_eq_false, not_false_eq_true, mo_k, mo_fI, mo_fL, mo_pI, mo_pL, mo_z0, mo_z1, mo_fR1, mo1_a, mo1_t, mo1_n, mo_fR14, mo14_a, mo14_t, mo14_n, mo_fR15, mo15_a, mo15_t, mo15_n, mo_fR16, mo16_a, mo16_t, mo16_n, mo_fR17, mo17_a, mo17_t, mo17_n, mo_fR18, mo18_a, mo18_t, mo18_n, mo_fR19, mo19_a, mo19_t, mo19_n, mo_fR20, mo20_a, mo20_t, mo20_n, mo_fR21, mo21_a, mo21_t, mo21_n, mo_fR22, mo22_a, mo22_t, mo22_n, mo_fR25, mo25_a, mo25_t, mo25_n, mo_fR26, mo26_a, mo26_t, mo26_n, mo_fR28, mo28_a, mo28_t, mo28_n, mo_fR29, mo29_a, mo29_t, mo29_n, mo_fR30, mo30_a, mo30_t, mo30_n, mo_fR33, mo33_a, mo33_t, mo33_n, mo_fR36, mo36_a, mo36_t, mo36_n, mo_fR37, mo37_a, mo37_t, mo37_n, mo_fR40, mo40_a, mo40_t, mo40_n, hk2, k6', c2]
      rfl
  · rw [decide_eq_false (show ¬ (t.1 = 3 ∧ t.2.2.2.2 = c) from fun z => c1 z.1)]
    have hk2 : ¬ I 186 7 = i32 4 := fun z => c1 (hk'.mp z)
    simp (disch := first | assumption | omega | rfl) only [i_rem, i_pred, i_addn1, i_lit, i_n1, i_add, i_mul, i_sub, i_le, i_lt, i_eq, i_ne1, n1_ne, n1_lt, n1_le, i_lt1, i_le1, bd_s, nar_bi, nar_0, nar_1, if_pos, if_neg, ↓reduceIte, reduceCtorEq, eq_self, if_true, if_false, not_true_eq_false, not_false_eq_true, mo_k, mo_fI, mo_fL, mo_pI, mo_pL, mo_z0, mo_z1, mo_fR1, mo1_a, mo1_t, mo1_n, mo_fR14, mo14_a, mo14_t, mo14_n, mo_fR15, mo15_a, mo15_t, mo15_n, mo_fR16, mo16_a, mo16_t, mo16_n, mo_fR17, mo17_a, mo17_t, mo17_n, mo_fR18, mo18_a, mo18_t, mo18_n, mo_fR19, mo19_a, mo19_t, mo19_n, mo_fR20, mo20_a, mo20_t, mo20_n, mo_fR21, mo21_a, mo21_t, mo21_n, mo_fR22, mo22_a, mo22_t, mo22_n, mo_fR25, mo25_a, mo25_t, mo25_n, mo_fR26, mo26_a, mo26_t, mo26_n, mo_fR28, mo28_a, mo28_t, mo28_n, mo_fR29, mo29_a, mo29_t, mo29_n, mo_fR30, mo30_a, mo30_t, mo30_n, mo_fR33, mo33_a, mo33_t, mo33_n, mo_fR36, mo36_a, mo36_t, mo36_n, mo_fR37, mo37_a, mo37_t, mo37_n, mo_fR40, mo40_a, mo40_t, mo40_n, hk2]
    rfl
theorem m_wordOf {M : Mem} : ∀ k, k < 20 → fX11_wordOf N (i32 k) M = some (i64 (cB 27 (kwd k)), M) := by
  intro k hk
  obtain z | z | z | z | z | z | z | z | z | z : k = 0 ∨ k = 1 ∨ k = 2 ∨ k = 3 ∨ k = 4 ∨ k = 5 ∨ k = 6 ∨ k = 7 ∨ k = 8 ∨ 9 ≤ k := by omega
  all_goals try (subst z; rfl)
  obtain z | z | z | z | z | z | z | z | z | z | z : k = 9 ∨ k = 10 ∨ k = 11 ∨ k = 12 ∨ k = 13 ∨ k = 14 ∨ k = 15 ∨ k = 16 ∨ k = 17 ∨ k = 18 ∨ k = 19 := by omega
  all_goals (subst z; rfl)
theorem m_isWord {k : Nat} (h : MqR n T m (.inr t) I L) (hk : k < 20) : fX11_isWord N 186 (i32 k) (mk I L r) = some (bi (decide (t.1 = 1 ∧ kwd k = t.2.2.2.1)), mk I L r) := by
  have hkk := m_kind h (j := 1) (by omega)
  have hk' : I 186 7 = i32 2 ↔ t.1 = 1 := hkk
  have wo := m_wordOf (N := N) (M := mk I L r) k hk
  obtain ⟨h1, ⟨k1, k2, k3, k4, k5, k6⟩, h3, t1, t2, t3, t4, t5, t6⟩ := h
  unfold fX11_isWord
  by_cases c1 : t.1 = 1
  · have k4' := k4 c1
    have cm := w_cmp (β := 27) (by omega) (by omega) (t4 c1) (kwd_ok k hk)
    have hk2 := hk'.mpr c1
    by_cases c2 : kwd k = t.2.2.2.1
    · have c3 := cm.mpr c2.symm
      rw [decide_eq_true (show t.1 = 1 ∧ kwd k = t.2.2.2.1 from ⟨c1, c2⟩)]
      simp (disch := first | assumption | omega | rfl) only [i_rem, i_pred, i_addn1, i_lit, i_n1, i_add, i_mul, i_sub, i_le, i_lt, i_eq, i_ne1, n1_ne, n1_lt, n1_le, i_lt1, i_le1, bd_s, nar_bi, nar_0, nar_1, if_pos, if_neg, ↓reduceIte, reduceCtorEq, eq_self, if_true, if_false, not_true_eq_false, not_false_eq_true, mo_k, mo_fI, mo_fL, mo_pI, mo_pL, mo_z0, mo_z1, mo_fR1, mo1_a, mo1_t, mo1_n, mo_fR14, mo14_a, mo14_t, mo14_n, mo_fR15, mo15_a, mo15_t, mo15_n, mo_fR16, mo16_a, mo16_t, mo16_n, mo_fR17, mo17_a, mo17_t, mo17_n, mo_fR18, mo18_a, mo18_t, mo18_n, mo_fR19, mo19_a, mo19_t, mo19_n, mo_fR20, mo20_a, mo20_t, mo20_n, mo_fR21, mo21_a, mo21_t, mo21_n, mo_fR22, mo22_a, mo22_t, mo22_n, mo_fR25, mo25_a, mo25_t, mo25_n, mo_fR26, mo26_a, mo26_t, mo26_n, mo_fR28, mo28_a, mo28_t, mo28_n, mo_fR29, mo29_a, mo29_t, mo29_n, mo_fR30, mo30_a, mo30_t, mo30_n, mo_fR33, mo33_a, mo33_t, mo33_n, mo_fR36, mo36_a, mo36_t, mo36_n, mo_fR37, mo37_a, mo37_t, mo37_n, mo_fR40, mo40_a, mo40_t, mo40_n, hk2, k4', wo, c3]
      rfl
    · have c3 : ¬ lg_cmp (i64 (cB 27 t.2.2.2.1)) (i64 (cB 27 (kwd k))) = i32 0 := fun z => c2 (cm.mp z).symm
      rw [decide_eq_false (show ¬ (t.1 = 1 ∧ kwd k = t.2.2.2.1) from fun z => c2 z.2)]
      simp (disch := first | assumption | omega | rfl) only [i_rem, i_pred, i_addn1, i_lit, i_n1, i_add, i_mul, i_sub, i_le, i_lt, i_eq, i_ne1, n1_ne, n1_lt, n1_le, i_lt1, i_le1, bd_s, nar_bi, nar_0, nar_1, if_pos, if_neg, ↓reduceIte, reduceCtorEq, eq_self, if_true, if_false, not_true_eq_false, not_false_eq_true, mo_k, mo_fI, mo_fL, mo_pI, mo_pL, mo_z0, mo_z1, mo_fR1, mo1_a, mo1_t, mo1_n, mo_fR14, mo14_a, mo14_t, mo14_n, mo_fR15, mo15_a, mo15_t, mo15_n, mo_fR16, mo16_a, mo16_t, mo16_n, mo_fR17, mo17_a, mo17_t, mo17_n, mo_fR18, mo18_a, mo18_t, mo18_n, mo_fR19, mo19_a, mo19_t, mo19_n, mo_fR20, mo20_a, mo20_t, mo20_n, mo_fR21, mo21_a, mo21_t, mo21_n, mo_fR22, mo22_a, mo22_t, mo22_n, mo_fR25, mo25_a, mo25_t, mo25_n, mo_fR26, mo26_a, mo26_t, mo26_n, mo_fR28, mo28_a, mo28_t, mo28_n, mo_fR29, mo29_a, mo29_t, mo29_n, mo_fR30, mo30_a, mo30_t, mo30_n, mo_fR33, mo33_a, mo33_t, mo33_n, mo_fR36, mo36_a, mo36_t, mo36_n, mo_fR37, mo37_a, mo37_t, mo37_n, mo_fR40, mo40_a, mo40_t, mo40_n, hk2, k4', wo, c3]
      rfl
  · rw [decide_eq_false (show ¬ (t.1 = 1 ∧ kwd k = t.2.2.2.1) from fun z => c1 z.1)]
    have hk2 : ¬ I 186 7 = i32 2 := fun z => c1 (hk'.mp z)
    simp (disch := first | assumption | omega | rfl) only [i_rem, i_pred, i_addn1, i_lit, i_n1, i_add, i_mul, i_sub, i_le, i_lt, i_eq, i_ne1, n1_ne, n1_lt, n1_le, i_lt1, i_le1, bd_s, nar_bi, nar_0, nar_1, if_pos, if_neg, ↓reduceIte, reduceCtorEq, eq_self, if_true, if_false, not_true_eq_false, not_false_eq_true, mo_k, mo_fI, mo_fL, mo_pI, mo_pL, mo_z0, mo_z1, mo_fR1, mo1_a, mo1_t, mo1_n, mo_fR14, mo14_a, mo14_t, mo14_n, mo_fR15, mo15_a, mo15_t, mo15_n, mo_fR16, mo16_a, mo16_t, mo16_n, mo_fR17, mo17_a, mo17_t, mo17_n, mo_fR18, mo18_a, mo18_t, mo18_n, mo_fR19, mo19_a, mo19_t, mo19_n, mo_fR20, mo20_a, mo20_t, mo20_n, mo_fR21, mo21_a, mo21_t, mo21_n, mo_fR22, mo22_a, mo22_t, mo22_n, mo_fR25, mo25_a, mo25_t, mo25_n, mo_fR26, mo26_a, mo26_t, mo26_n, mo_fR28, mo28_a, mo28_t, mo28_n, mo_fR29, mo29_a, mo29_t, mo29_n, mo_fR30, mo30_a, mo30_t, mo30_n, mo_fR33, mo33_a, mo33_t, mo33_n, mo_fR36, mo36_a, mo36_t, mo36_n, mo_fR37, mo37_a, mo37_t, mo37_n, mo_fR40, mo40_a, mo40_t, mo40_n, hk2]
    rfl
theorem m_isName (hN : 1200 < N) (h : MqR n T m (.inr t) I L) : fX11_isName N 186 (mk I L r) = some (bi (isNm t), mk I L r) := by
  have hkk := m_kind h (j := 1) (by omega)
  have hk' : I 186 7 = i32 2 ↔ t.1 = 1 := hkk
  obtain ⟨h1, ⟨k1, k2, k3, k4, k5, k6⟩, h3, t1, t2, t3, t4, t5, t6⟩ := h
  unfold fX11_isName isNm
  by_cases c1 : t.1 = 1
  · have k4' := k4 c1
    have hk2 := hk'.mpr c1
    have e := lp_fd (F := fun n' v => fX11_isName_L12 N 186 n' v (mk I L r)) (m := 20) (fun k => kwd k = t.2.2.2.1) (fun _ => (i32 0, mk I L r)) (i32 1, mk I L r) (fun n' k hk hP => by
      have wo := m_wordOf (N := N) (M := mk I L r) k hk
      have cm := (w_cmp (β := 27) (by omega) (by omega) (t4 c1) (kwd_ok k hk)).mpr hP.symm
      simp (disch := first | assumption | omega | rfl) only [i_rem, i_pred, i_addn1, i_lit, i_n1, i_add, i_mul, i_sub, i_le, i_lt, i_eq, i_ne1, n1_ne, n1_lt, n1_le, i_lt1, i_le1, bd_s, nar_bi, nar_0, nar_1, if_pos, if_neg, ↓reduceIte, reduceCtorEq, eq_self, if_true, if_false, not_true_eq_false, not_false_eq_true, mo_k, mo_fI, mo_fL, mo_pI, mo_pL, mo_z0, mo_z1, mo_fR1, mo1_a, mo1_t, mo1_n, mo_fR14, mo14_a, mo14_t, mo14_n, mo_fR15, mo15_a, mo15_t, mo15_n, mo_fR16, mo16_a, mo16_t, mo16_n, mo_fR17, mo17_a, mo17_t, mo17_n, mo_fR18, mo18_a, mo18_t, mo18_n, mo_fR19, mo19_a, mo19_t, mo19_n, mo_fR20, mo20_a, mo20_t, mo20_n, mo_fR21, mo21_a, mo21_t, mo21_n, mo_fR22, mo22_a, mo22_t, mo22_n, mo_fR25, mo25_a, mo25_t, mo25_n, mo_fR26, mo26_a, mo26_t, mo26_n, mo_fR28, mo28_a, mo28_t, mo28_n, mo_fR29, mo29_a, mo29_t, mo29_n, mo_fR30, mo30_a, mo30_t, mo30_n, mo_fR33, mo33_a, mo33_t, mo33_n, mo_fR36, mo36_a, mo36_t, mo36_n, mo_fR37, mo37_a, mo37_t, mo37_n, mo_fR40, mo40_a, mo40_t, mo40_n, fX11_isName_L12, k4', wo, cm]) (fun n' k hk hP => by
      have wo := m_wordOf (N := N) (M := mk I L r) k hk
      have cm : ¬ lg_cmp (i64 (cB 27 t.2.2.2.1)) (i64 (cB 27 (kwd k))) = i32 0 := fun z => hP ((w_cmp (β := 27) (by omega) (by omega) (t4 c1) (kwd_ok k hk)).mp z).symm
      simp (disch := first | assumption | omega | rfl) only [i_rem, i_pred, i_addn1, i_lit, i_n1, i_add, i_mul, i_sub, i_le, i_lt, i_eq, i_ne1, n1_ne, n1_lt, n1_le, i_lt1, i_le1, bd_s, nar_bi, nar_0, nar_1, if_pos, if_neg, ↓reduceIte, reduceCtorEq, eq_self, if_true, if_false, not_true_eq_false, not_false_eq_true, mo_k, mo_fI, mo_fL, mo_pI, mo_pL, mo_z0, mo_z1, mo_fR1, mo1_a, mo1_t, mo1_n, mo_fR14, mo14_a, mo14_t, mo14_n, mo_fR15, mo15_a, mo15_t, mo15_n, mo_fR16, mo16_a, mo16_t, mo16_n, mo_fR17, mo17_a, mo17_t, mo17_n, mo_fR18, mo18_a, mo18_t, mo18_n, mo_fR19, mo19_a, mo19_t, mo19_n, mo_fR20, mo20_a, mo20_t, mo20_n, mo_fR21, mo21_a, mo21_t, mo21_n, mo_fR22, mo22_a, mo22_t, mo22_n, mo_fR25, mo25_a, mo25_t, mo25_n, mo_fR26, mo26_a, mo26_t, mo26_n, mo_fR28, mo28_a, mo28_t, mo28_n, mo_fR29, mo29_a, mo29_t, mo29_n, mo_fR30, mo30_a, mo30_t, mo30_n, mo_fR33, mo33_a, mo33_t, mo33_n, mo_fR36, mo36_a, mo36_t, mo36_n, mo_fR37, mo37_a, mo37_t, mo37_n, mo_fR40, mo40_a, mo40_t, mo40_n, fX11_isName_L12, k4', wo, cm]) (fun n' => by
      simp (disch := first | assumption | omega | rfl) only [i_rem, i_pred, i_addn1, i_lit, i_n1, i_add, i_mul, i_sub, i_le, i_lt, i_eq, i_ne1, n1_ne, n1_lt, n1_le, i_lt1, i_le1, bd_s, nar_bi, nar_0, nar_1, if_pos, if_neg, ↓reduceIte, reduceCtorEq, eq_self, if_true, if_false, not_true_eq_false, not_false_eq_true, mo_k, mo_fI, mo_fL, mo_pI, mo_pL, mo_z0, mo_z1, mo_fR1, mo1_a, mo1_t, mo1_n, mo_fR14, mo14_a, mo14_t, mo14_n, mo_fR15, mo15_a, mo15_t, mo15_n, mo_fR16, mo16_a, mo16_t, mo16_n, mo_fR17, mo17_a, mo17_t, mo17_n, mo_fR18, mo18_a, mo18_t, mo18_n, mo_fR19, mo19_a, mo19_t, mo19_n, mo_fR20, mo20_a, mo20_t, mo20_n, mo_fR21, mo21_a, mo21_t, mo21_n, mo_fR22, mo22_a, mo22_t, mo22_n, mo_fR25, mo25_a, mo25_t, mo25_n, mo_fR26, mo26_a, mo26_t, mo26_n, mo_fR28, mo28_a, mo28_t, mo28_n, mo_fR29, mo29_a, mo29_t, mo29_n, mo_fR30, mo30_a, mo30_t, mo30_n, mo_fR33, mo33_a, mo33_t, mo33_n, mo_fR36, mo36_a, mo36_t, mo36_n, mo_fR37, mo37_a, mo37_t, mo37_n, mo_fR40, mo40_a, mo40_t, mo40_n, fX11_isName_L12]) (n := N) (by omega)
    have ek : fd (fun k => decide (kwd k = t.2.2.2.1)) 20 = kwI t.2.2.2.1 := rfl
    rw [ek] at e
    cases c2 : kwI t.2.2.2.1 with
    | none =>
      rw [c2] at e
      rw [decide_eq_true (show t.1 = 1 ∧ (none : Option Nat) = none from ⟨c1, rfl⟩)]
      simp (disch := first | assumption | omega | rfl) only [i_rem, i_pred, i_addn1, i_lit, i_n1, i_add, i_mul, i_sub, i_le, i_lt, i_eq, i_ne1, n1_ne, n1_lt, n1_le, i_lt1, i_le1, bd_s, nar_bi, nar_0, nar_1, if_pos, if_neg, ↓reduceIte, reduceCtorEq, eq_self, if_true, if_false, not_true_eq_false, not_false_eq_true, mo_k, mo_fI, mo_fL, mo_pI, mo_pL, mo_z0, mo_z1, mo_fR1, mo1_a, mo1_t, mo1_n, mo_fR14, mo14_a, mo14_t, mo14_n, mo_fR15, mo15_a, mo15_t, mo15_n, mo_fR16, mo16_a, mo16_t, mo16_n, mo_fR17, mo17_a, mo17_t, mo17_n, mo_fR18, mo18_a, mo18_t, mo18_n, mo_fR19, mo19_a, mo19_t, mo19_n, mo_fR20, mo20_a, mo20_t, mo20_n, mo_fR21, mo21_a, mo21_t, mo21_n, mo_fR22, mo22_a, mo22_t, mo22_n, mo_fR25, mo25_a, mo25_t, mo25_n, mo_fR26, mo26_a, mo26_t, mo26_n, mo_fR28, mo28_a, mo28_t, mo28_n, mo_fR29, mo29_a, mo29_t, mo29_n, mo_fR30, mo30_a, mo30_t, mo30_n, mo_fR33, mo33_a, mo33_t, mo33_n, mo_fR36, mo36_a, mo36_t, mo36_n, mo_fR37, mo37_a, mo37_t, mo37_n, mo_fR40, mo40_a, mo40_t, mo40_n, hk2, e]
      rfl
    | some j =>
      rw [c2] at e
      rw [decide_eq_false (show ¬ (t.1 = 1 ∧ some j = none) from fun z => by cases z.2)]
      simp (disch := first | assumption | omega | rfl) only [i_rem, i_pred, i_addn1, i_lit, i_n1, i_add, i_mul, i_sub, i_le, i_lt, i_eq, i_ne1, n1_ne, n1_lt, n1_le, i_lt1, i_le1, bd_s, nar_bi, nar_0, nar_1, if_pos, if_neg, ↓reduceIte, reduceCtorEq, eq_self, if_true, if_false, not_true_eq_false, not_false_eq_true, mo_k, mo_fI, mo_fL, mo_pI, mo_pL, mo_z0, mo_z1, mo_fR1, mo1_a, mo1_t, mo1_n, mo_fR14, mo14_a, mo14_t, mo14_n, mo_fR15, mo15_a, mo15_t, mo15_n, mo_fR16, mo16_a, mo16_t, mo16_n, mo_fR17, mo17_a, mo17_t, mo17_n, mo_fR18, mo18_a, mo18_t, mo18_n, mo_fR19, mo19_a, mo19_t, mo19_n, mo_fR20, mo20_a, mo20_t, mo20_n, mo_fR21, mo21_a, mo21_t, mo21_n, mo_fR22, mo22_a, mo22_t, mo22_n, mo_fR25, mo25_a, mo25_t, mo25_n, mo_fR26, mo26_a, mo26_t, mo26_n, mo_fR28, mo28_a, mo28_t, mo28_n, mo_fR29, mo29_a, mo29_t, mo29_n, mo_fR30, mo30_a, mo30_t, mo30_n, mo_fR33, mo33_a, mo33_t, mo33_n, mo_fR36, mo36_a, mo36_t, mo36_n, mo_fR37, mo37_a, mo37_t, mo37_n, mo_fR40, mo40_a, mo40_t, mo40_n, hk2, e]
      rfl
  · rw [decide_eq_false (show ¬ (t.1 = 1 ∧ kwI t.2.2.2.1 = none) from fun z => c1 z.1)]
    have hk2 : ¬ I 186 7 = i32 2 := fun z => c1 (hk'.mp z)
    simp (disch := first | assumption | omega | rfl) only [i_rem, i_pred, i_addn1, i_lit, i_n1, i_add, i_mul, i_sub, i_le, i_lt, i_eq, i_ne1, n1_ne, n1_lt, n1_le, i_lt1, i_le1, bd_s, nar_bi, nar_0, nar_1, if_pos, if_neg, ↓reduceIte, reduceCtorEq, eq_self, if_true, if_false, not_true_eq_false, not_false_eq_true, mo_k, mo_fI, mo_fL, mo_pI, mo_pL, mo_z0, mo_z1, mo_fR1, mo1_a, mo1_t, mo1_n, mo_fR14, mo14_a, mo14_t, mo14_n, mo_fR15, mo15_a, mo15_t, mo15_n, mo_fR16, mo16_a, mo16_t, mo16_n, mo_fR17, mo17_a, mo17_t, mo17_n, mo_fR18, mo18_a, mo18_t, mo18_n, mo_fR19, mo19_a, mo19_t, mo19_n, mo_fR20, mo20_a, mo20_t, mo20_n, mo_fR21, mo21_a, mo21_t, mo21_n, mo_fR22, mo22_a, mo22_t, mo22_n, mo_fR25, mo25_a, mo25_t, mo25_n, mo_fR26, mo26_a, mo26_t, mo26_n, mo_fR28, mo28_a, mo28_t, mo28_n, mo_fR29, mo29_a, mo29_t, mo29_n, mo_fR30, mo30_a, mo30_t, mo30_n, mo_fR33, mo33_a, mo33_t, mo33_n, mo_fR36, mo36_a, mo36_t, mo36_n, mo_fR37, mo37_a, mo37_t, mo37_n, mo_fR40, mo40_a, mo40_t, mo40_n, hk2]
    rfl
theorem m_readNum {a b : Nat} (hN : 1200 < N) (h : MqR n T m (.inr t) I L) (ha : a < 1000) (hb : b < 1000) : ∃ J K, fX11_readNumber N 186 (i32 a) (i32 b) (mk I L r) = some (bi (isR (oN n T m a b (.inr t))), mk J K r) ∧ MqR n T m (oN n T m a b (.inr t)) J K ∧ (isR (oN n T m a b (.inr t)) = true → J 186 13 = i32 t.2.2.2.2) ∧ FrT 186 Sq I J L K := by
  have hkk := m_kind h (j := 2) (by omega)
  have hk' : I 186 7 = i32 3 ↔ t.1 = 2 := hkk
  unfold oN
  dsimp only
  by_cases c1 : t.1 = 2
  · have hk2 := hk'.mpr c1
    have h8 : I 186 8 = i32 t.2.2.2.2 := h.2.1.2.2.2.2.1 c1
    have t9 : t.2.2.2.2 ≤ 999 := h.2.2.2.2.2.2.2.1 c1
    rw [if_pos c1]
    by_cases c2 : a ≤ t.2.2.2.2 ∧ t.2.2.2.2 ≤ b
    · rw [if_pos c2]
      have fr : FrT 186 Sq I (up I 186 13 (i32 t.2.2.2.2)) L L := FrT.rf.up (by unfold Sq; omega)
      have h' : MqR n T m (.inr t) (up I 186 13 (i32 t.2.2.2.2)) L := by
        obtain ⟨h1, ⟨k1, k2, k3, k4, k5, k6⟩, h3, h4⟩ := h
        refine ⟨TMo_q h1 fr, ⟨?_, ?_, ?_, k4, fun z => ?_, fun z => ?_⟩, ?_, h4⟩
        · rw [up_ofk (by omega)]; exact k1
        · rw [up_ofk (by omega)]; exact k2
        · rw [up_ofk (by omega)]; exact k3
        · rw [up_ofk (by omega)]; exact k5 z
        · rw [up_ofk (by omega)]; exact k6 z
        · rw [up_ofk (by omega)]; exact h3
      obtain ⟨J, K, e2, g1, g2, g3⟩ := m_adv (N := N) (r := r) hN h'
      have ein : (!decide (i32 t.2.2.2.2 < i32 a) && !decide (i32 b < i32 t.2.2.2.2)) = true := by
        rw [decide_eq_false (by rw [i_lt (by omega) (by omega)]; omega), decide_eq_false (by rw [i_lt (by omega) (by omega)]; omega)]; rfl
      refine ⟨J, K, ?_, g1, fun _ => by rw [g2]; exact up_self, fr.tr g3⟩
      unfold fX11_readNumber
      repeat (first | (apply bd_eq; (focus (simp (disch := first | assumption | omega | rfl) only [i_rem, i_pred, i_addn1, i_lit, i_n1, i_add, i_mul, i_sub, i_le, i_lt, i_eq, i_ne1, n1_ne, n1_lt, n1_le, i_lt1, i_le1, bd_s, nar_bi, nar_0, nar_1, if_pos, if_neg, ↓reduceIte, reduceCtorEq, eq_self, if_true, if_false, not_true_eq_false, not_false_eq_true, mo_k, mo_fI, mo_fL, mo_pI, mo_pL, mo_z0, mo_z1, mo_fR1, mo1_a, mo1_t, mo1_n, mo_fR14, mo14_a, mo14_t, mo14_n, mo_fR15, mo15_a, mo15_t, mo15_n, mo_fR16, mo16_a, mo16_t, mo16_n, mo_fR17, mo17_a, mo17_t, mo17_n, mo_fR18, mo18_a, mo18_t, mo18_n, mo_fR19, mo19_a, mo19_t, mo19_n, mo_fR20, mo20_a, mo20_t, mo20_n, mo_fR21, mo21_a, mo21_t, mo21_n, mo_fR22, mo22_a, mo22_t, mo22_n, mo_fR25, mo25_a, mo25_t, mo25_n, mo_fR26, mo26_a, mo26_t, mo26_n, mo_fR28, mo28_a, mo28_t, mo28_n, mo_fR29, mo29_a, mo29_t, mo29_n, mo_fR30, mo30_a, mo30_t, mo30_n, mo_fR33, mo33_a, mo33_t, mo33_n, mo_fR36, mo36_a, mo36_t, mo36_n, mo_fR37, mo37_a, mo37_t, mo37_n, mo_fR40, mo40_a, mo40_t, mo40_n, hk2, h8, m_isInT ein, e2]; first | done | (with_reducible rfl; done))); try dsimp only) | (apply it_p; (focus (first | assumption | (simp (disch := first | assumption | omega | rfl) only [i_rem, i_pred, i_addn1, i_lit, i_n1, i_add, i_mul, i_sub, i_le, i_lt, i_eq, i_ne1, n1_ne, n1_lt, n1_le, i_lt1, i_le1, bd_s, nar_bi, nar_0, nar_1, if_pos, if_neg, ↓reduceIte, reduceCtorEq, eq_self, if_true, if_false, not_true_eq_false, not_false_eq_true, mo_k, mo_fI, mo_fL, mo_pI, mo_pL, mo_z0, mo_z1, mo_fR1, mo1_a, mo1_t, mo1_n, mo_fR14, mo14_a, mo14_t, mo14_n, mo_fR15, mo15_a, mo15_t, mo15_n, mo_fR16, mo16_a, mo16_t, mo16_n, mo_fR17, mo17_a, mo17_t, mo17_n, mo_fR18, mo18_a, mo18_t, mo18_n, mo_fR19, mo19_a, mo19_t, mo19_n, mo_fR20, mo20_a, mo20_t, mo20_n, mo_fR21, mo21_a, mo21_t, mo21_n, mo_fR22, mo22_a, mo22_t, mo22_n, mo_fR25, mo25_a, mo25_t, mo25_n, mo_fR26, mo26_a, mo26_t, mo26_n, mo_fR28, mo28_a, mo28_t, mo28_n, mo_fR29, mo29_a, mo29_t, mo29_n, mo_fR30, mo30_a, mo30_t, mo30_n, mo_fR33, mo33_a, mo33_t, mo33_n, mo_fR36, mo36_a, mo36_t, mo36_n, mo_fR37, mo37_a, mo37_t, mo37_n, mo_fR40, mo40_a, mo40_t, mo40_n, hk2, h8, m_isInT ein, e2]; first | done | omega)))) | (apply it_n; (focus (first | assumption | (simp (disch := first | assumption | omega | rfl) only [i_rem, i_pred, i_addn1, i_lit, i_n1, i_add, i_mul, i_sub, i_le, i_lt, i_eq, i_ne1, n1_ne, n1_lt, n1_le, i_lt1, i_le1, bd_s, nar_bi, nar_0, nar_1, if_pos, if_neg, ↓reduceIte, reduceCtorEq, eq_self, if_true, if_false, not_true_eq_false, not_false_eq_true, mo_k, mo_fI, mo_fL, mo_pI, mo_pL, mo_z0, mo_z1, mo_fR1, mo1_a, mo1_t, mo1_n, mo_fR14, mo14_a, mo14_t, mo14_n, mo_fR15, mo15_a, mo15_t, mo15_n, mo_fR16, mo16_a, mo16_t, mo16_n, mo_fR17, mo17_a, mo17_t, mo17_n, mo_fR18, mo18_a, mo18_t, mo18_n, mo_fR19, mo19_a, mo19_t, mo19_n, mo_fR20, mo20_a, mo20_t, mo20_n, mo_fR21, mo21_a, mo21_t, mo21_n, mo_fR22, mo22_a, mo22_t, mo22_n, mo_fR25, mo25_a, mo25_t, mo25_n, mo_fR26, mo26_a, mo26_t, mo26_n, mo_fR28, mo28_a, mo28_t, mo28_n, mo_fR29, mo29_a, mo29_t, mo29_n, mo_fR30, mo30_a, mo30_t, mo30_n, mo_fR33, mo33_a, mo33_t, mo33_n, mo_fR36, mo36_a, mo36_t, mo36_n, mo_fR37, mo37_a, mo37_t, mo37_n, mo_fR40, mo40_a, mo40_t, mo40_n, hk2, h8, m_isInT ein, e2]; first | done | omega)))))
      all_goals rfl
    · rw [if_neg c2]
      obtain ⟨J, e2, g1, g2⟩ := m_bad (N := N) (r := r) (k := 2) h (by omega)
      have ein : (!decide (i32 t.2.2.2.2 < i32 a) && !decide (i32 b < i32 t.2.2.2.2)) = false := by
        by_cases c3 : t.2.2.2.2 < a
        · rw [decide_eq_true (show i32 t.2.2.2.2 < i32 a by rw [i_lt (by omega) (by omega)]; exact c3)]; rfl
        · rw [decide_eq_true (show i32 b < i32 t.2.2.2.2 by rw [i_lt (by omega) (by omega)]; omega)]; simp
      refine ⟨J, L, ?_, g1, fun z => (by cases z), g2⟩
      unfold fX11_readNumber
      repeat (first | (apply bd_eq; (focus (simp (disch := first | assumption | omega | rfl) only [i_rem, i_pred, i_addn1, i_lit, i_n1, i_add, i_mul, i_sub, i_le, i_lt, i_eq, i_ne1, n1_ne, n1_lt, n1_le, i_lt1, i_le1, bd_s, nar_bi, nar_0, nar_1, if_pos, if_neg, ↓reduceIte, reduceCtorEq, eq_self, if_true, if_false, not_true_eq_false, not_false_eq_true, mo_k, mo_fI, mo_fL, mo_pI, mo_pL, mo_z0, mo_z1, mo_fR1, mo1_a, mo1_t, mo1_n, mo_fR14, mo14_a, mo14_t, mo14_n, mo_fR15, mo15_a, mo15_t, mo15_n, mo_fR16, mo16_a, mo16_t, mo16_n, mo_fR17, mo17_a, mo17_t, mo17_n, mo_fR18, mo18_a, mo18_t, mo18_n, mo_fR19, mo19_a, mo19_t, mo19_n, mo_fR20, mo20_a, mo20_t, mo20_n, mo_fR21, mo21_a, mo21_t, mo21_n, mo_fR22, mo22_a, mo22_t, mo22_n, mo_fR25, mo25_a, mo25_t, mo25_n, mo_fR26, mo26_a, mo26_t, mo26_n, mo_fR28, mo28_a, mo28_t, mo28_n, mo_fR29, mo29_a, mo29_t, mo29_n, mo_fR30, mo30_a, mo30_t, mo30_n, mo_fR33, mo33_a, mo33_t, mo33_n, mo_fR36, mo36_a, mo36_t, mo36_n, mo_fR37, mo37_a, mo37_t, mo37_n, mo_fR40, mo40_a, mo40_t, mo40_n, hk2, h8, m_isInF ein, e2]; first | done | (with_reducible rfl; done))); try dsimp only) | (apply it_p; (focus (first | assumption | (simp (disch := first | assumption | omega | rfl) only [i_rem, i_pred, i_addn1, i_lit, i_n1, i_add, i_mul, i_sub, i_le, i_lt, i_eq, i_ne1, n1_ne, n1_lt, n1_le, i_lt1, i_le1, bd_s, nar_bi, nar_0, nar_1, if_pos, if_neg, ↓reduceIte, reduceCtorEq, eq_self, if_true, if_false, not_true_eq_false, not_false_eq_true, mo_k, mo_fI, mo_fL, mo_pI, mo_pL, mo_z0, mo_z1, mo_fR1, mo1_a, mo1_t, mo1_n, mo_fR14, mo14_a, mo14_t, mo14_n, mo_fR15, mo15_a, mo15_t, mo15_n, mo_fR16, mo16_a, mo16_t, mo16_n, mo_fR17, mo17_a, mo17_t, mo17_n, mo_fR18, mo18_a, mo18_t, mo18_n, mo_fR19, mo19_a, mo19_t, mo19_n, mo_fR20, mo20_a, mo20_t, mo20_n, mo_fR21, mo21_a, mo21_t, mo21_n, mo_fR22, mo22_a, mo22_t, mo22_n, mo_fR25, mo25_a, mo25_t, mo25_n, mo_fR26, mo26_a, mo26_t, mo26_n, mo_fR28, mo28_a, mo28_t, mo28_n, mo_fR29, mo29_a, mo29_t, mo29_n, mo_fR30, mo30_a, mo30_t, mo30_n, mo_fR33, mo33_a, mo33_t, mo33_n, mo_fR36, mo36_a, mo36_t, mo36_n, mo_fR37, mo37_a, mo37_t, mo37_n, mo_fR40, mo40_a, mo40_t, mo40_n, hk2, h8, m_isInF ein, e2]; first | done | omega)))) | (apply it_n; (focus (first | assumption | (simp (disch := first | assumption | omega | rfl) only [i_rem, i_pred, i_addn1, i_lit, i_n1, i_add, i_mul, i_sub, i_le, i_lt, i_eq, i_ne1, n1_ne, n1_lt, n1_le, i_lt1, i_le1, bd_s, nar_bi, nar_0, nar_1, if_pos, if_neg, ↓reduceIte, reduceCtorEq, eq_self, if_true, if_false, not_true_eq_false, not_false_eq_true, mo_k, mo_fI, mo_fL, mo_pI, mo_pL, mo_z0, mo_z1, mo_fR1, mo1_a, mo1_t, mo1_n, mo_fR14, mo14_a, mo14_t, mo14_n, mo_fR15, mo15_a, mo15_t, mo15_n, mo_fR16, mo16_a, mo16_t, mo16_n, mo_fR17, mo17_a, mo17_t, mo17_n, mo_fR18, mo18_a, mo18_t, mo18_n, mo_fR19, mo19_a, mo19_t, mo19_n, mo_fR20, mo20_a, mo20_t, mo20_n, mo_fR21, mo21_a, mo21_t, mo21_n, mo_fR22, mo22_a, mo22_t, mo22_n, mo_fR25, mo25_a, mo25_t, mo25_n, mo_fR26, mo26_a, mo26_t, mo26_n, mo_fR28, mo28_a, mo28_t, mo28_n, mo_fR29, mo29_a, mo29_t, mo29_n, mo_fR30, mo30_a, mo30_t, mo30_n, mo_fR33, mo33_a, mo33_t, mo33_n, mo_fR36, mo36_a, mo36_t, mo36_n, mo_fR37, mo37_a, mo37_t, mo37_n, mo_fR40, mo40_a, mo40_t, mo40_n, hk2, h8, m_isInF ein, e2]; first | done | omega)))))
      all_goals rfl
  · rw [if_neg c1]
    obtain ⟨J, e2, g1, g2⟩ := m_bad (N := N) (r := r) (k := 1) h (by omega)
    have hk2 : ¬ I 186 7 = i32 3 := fun z => c1 (hk'.mp z)
    refine ⟨J, L, ?_, g1, fun z => (by cases z), g2⟩
    unfold fX11_readNumber
    repeat (first | (apply bd_eq; (focus (simp (disch := first | assumption | omega | rfl) only [i_rem, i_pred, i_addn1, i_lit, i_n1, i_add, i_mul, i_sub, i_le, i_lt, i_eq, i_ne1, n1_ne, n1_lt, n1_le, i_lt1, i_le1, bd_s, nar_bi, nar_0, nar_1, if_pos, if_neg, ↓reduceIte, reduceCtorEq, eq_self, if_true, if_false, not_true_eq_false, not_false_eq_true, mo_k, mo_fI, mo_fL, mo_pI, mo_pL, mo_z0, mo_z1, mo_fR1, mo1_a, mo1_t, mo1_n, mo_fR14, mo14_a, mo14_t, mo14_n, mo_fR15, mo15_a, mo15_t, mo15_n, mo_fR16, mo16_a, mo16_t, mo16_n, mo_fR17, mo17_a, mo17_t, mo17_n, mo_fR18, mo18_a, mo18_t, mo18_n, mo_fR19, mo19_a, mo19_t, mo19_n, mo_fR20, mo20_a, mo20_t, mo20_n, mo_fR21, mo21_a, mo21_t, mo21_n, mo_fR22, mo22_a, mo22_t, mo22_n, mo_fR25, mo25_a, mo25_t, mo25_n, mo_fR26, mo26_a, mo26_t, mo26_n, mo_fR28, mo28_a, mo28_t, mo28_n, mo_fR29, mo29_a, mo29_t, mo29_n, mo_fR30, mo30_a, mo30_t, mo30_n, mo_fR33, mo33_a, mo33_t, mo33_n, mo_fR36, mo36_a, mo36_t, mo36_n, mo_fR37, mo37_a, mo37_t, mo37_n, mo_fR40, mo40_a, mo40_t, mo40_n, hk2, e2]; first | done | (with_reducible rfl; done))); try dsimp only) | (apply it_p; (focus (first | assumption | (simp (disch := first | assumption | omega | rfl) only [i_rem, i_pred, i_addn1, i_lit, i_n1, i_add, i_mul, i_sub, i_le, i_lt, i_eq, i_ne1, n1_ne, n1_lt, n1_le, i_lt1, i_le1, bd_s, nar_bi, nar_0, nar_1, if_pos, if_neg, ↓reduceIte, reduceCtorEq, eq_self, if_true, if_false, not_true_eq_false, not_false_eq_true, mo_k, mo_fI, mo_fL, mo_pI, mo_pL, mo_z0, mo_z1, mo_fR1, mo1_a, mo1_t, mo1_n, mo_fR14, mo14_a, mo14_t, mo14_n, mo_fR15, mo15_a, mo15_t, mo15_n, mo_fR16, mo16_a, mo16_t, mo16_n, mo_fR17, mo17_a, mo17_t, mo17_n, mo_fR18, mo18_a, mo18_t, mo18_n, mo_fR19, mo19_a, mo19_t, mo19_n, mo_fR20, mo20_a, mo20_t, mo20_n, mo_fR21, mo21_a, mo21_t, mo21_n, mo_fR22, mo22_a, mo22_t, mo22_n, mo_fR25, mo25_a, mo25_t, mo25_n, mo_fR26, mo26_a, mo26_t, mo26_n, mo_fR28, mo28_a, mo28_t, mo28_n, mo_fR29, mo29_a, mo29_t, mo29_n, mo_fR30, mo30_a, mo30_t, mo30_n, mo_fR33, mo33_a, mo33_t, mo33_n, mo_fR36, mo36_a, mo36_t, mo36_n, mo_fR37, mo37_a, mo37_t, mo37_n, mo_fR40, mo40_a, mo40_t, mo40_n, hk2, e2]; first | done | omega)))) | (apply it_n; (focus (first | assumption | (simp (disch := first | assumption | omega | rfl) only [i_rem, i_pred, i_addn1, i_lit, i_n1, i_add, i_mul, i_sub, i_le, i_lt, i_eq, i_ne1, n1_ne, n1_lt, n1_le, i_lt1, i_le1, bd_s, nar_bi, nar_0, nar_1, if_pos, if_neg, ↓reduceIte, reduceCtorEq, eq_self, if_true, if_false, not_true_eq_false, not_false_eq_true, mo_k, mo_fI, mo_fL, mo_pI, mo_pL, mo_z0, mo_z1, mo_fR1, mo1_a, mo1_t, mo1_n, mo_fR14, mo14_a, mo14_t, mo14_n, mo_fR15, mo15_a, mo15_t, mo15_n, mo_fR16, mo16_a, mo16_t, mo16_n, mo_fR17, mo17_a, mo17_t, mo17_n, mo_fR18, mo18_a, mo18_t, mo18_n, mo_fR19, mo19_a, mo19_t, mo19_n, mo_fR20, mo20_a, mo20_t, mo20_n, mo_fR21, mo21_a, mo21_t, mo21_n, mo_fR22, mo22_a, mo22_t, mo22_n, mo_fR25, mo25_a, mo25_t, mo25_n, mo_fR26, mo26_a, mo26_t, mo26_n, mo_fR28, mo28_a, mo28_t, mo28_n, mo_fR29, mo29_a, mo29_t, mo29_n, mo_fR30, mo30_a, mo30_t, mo30_n, mo_fR33, mo33_a, mo33_t, mo33_n, mo_fR36, mo36_a, mo36_t, mo36_n, mo_fR37, mo37_a, mo37_t, mo37_n, mo_fR40, mo40_a, mo40_t, mo40_n, hk2, e2]; first | done | omega)))))
    all_goals rfl
theorem m_readEnd (hN : 1200 < N) (h : MqR n T m (.inr t) I L) : ∃ J K, fX11_readEnd N 186 (mk I L r) = some (bi (isR (oM n T m 59 (.inr t))), mk J K r) ∧ MqR n T m (oM n T m 59 (.inr t)) J K ∧ FrT 186 Sq I J L K := by
  have e1 := m_isSign (N := N) (r := r) (c := 59) h (by omega)
  unfold oM
  dsimp only
  by_cases c1 : t.1 = 3 ∧ t.2.2.2.2 = 59
  · rw [if_pos c1]
    rw [decide_eq_true c1] at e1
    obtain ⟨J, K, e2, g1, _, g2⟩ := m_adv (N := N) (r := r) hN h
    refine ⟨J, K, ?_, g1, g2⟩
    unfold fX11_readEnd
    repeat (first | (apply bd_eq; (focus (simp (disch := first | assumption | omega | rfl) only [i_rem, i_pred, i_addn1, i_lit, i_n1, i_add, i_mul, i_sub, i_le, i_lt, i_eq, i_ne1, n1_ne, n1_lt, n1_le, i_lt1, i_le1, bd_s, nar_bi, nar_0, nar_1, if_pos, if_neg, ↓reduceIte, reduceCtorEq, eq_self, if_true, if_false, not_true_eq_false, not_false_eq_true, mo_k, mo_fI, mo_fL, mo_pI, mo_pL, mo_z0, mo_z1, mo_fR1, mo1_a, mo1_t, mo1_n, mo_fR14, mo14_a, mo14_t, mo14_n, mo_fR15, mo15_a, mo15_t, mo15_n, mo_fR16, mo16_a, mo16_t, mo16_n, mo_fR17, mo17_a, mo17_t, mo17_n, mo_fR18, mo18_a, mo18_t, mo18_n, mo_fR19, mo19_a, mo19_t, mo19_n, mo_fR20, mo20_a, mo20_t, mo20_n, mo_fR21, mo21_a, mo21_t, mo21_n, mo_fR22, mo22_a, mo22_t, mo22_n, mo_fR25, mo25_a, mo25_t, mo25_n, mo_fR26, mo26_a, mo26_t, mo26_n, mo_fR28, mo28_a, mo28_t, mo28_n, mo_fR29, mo29_a, mo29_t, mo29_n, mo_fR30, mo30_a, mo30_t, mo30_n, mo_fR33, mo33_a, mo33_t, mo33_n, mo_fR36, mo36_a, mo36_t, mo36_n, mo_fR37, mo37_a, mo37_t, mo37_n, mo_fR40, mo40_a, mo40_t, mo40_n, e1, bi_z, e2]; first | done | (with_reducible rfl; done))); try dsimp only) | (apply it_p; (focus (first | assumption | (simp (disch := first | assumption | omega | rfl) only [i_rem, i_pred, i_addn1, i_lit, i_n1, i_add, i_mul, i_sub, i_le, i_lt, i_eq, i_ne1, n1_ne, n1_lt, n1_le, i_lt1, i_le1, bd_s, nar_bi, nar_0, nar_1, if_pos, if_neg, ↓reduceIte, reduceCtorEq, eq_self, if_true, if_false, not_true_eq_false, not_false_eq_true, mo_k, mo_fI, mo_fL, mo_pI, mo_pL, mo_z0, mo_z1, mo_fR1, mo1_a, mo1_t, mo1_n, mo_fR14, mo14_a, mo14_t, mo14_n, mo_fR15, mo15_a, mo15_t, mo15_n, mo_fR16, mo16_a, mo16_t, mo16_n, mo_fR17, mo17_a, mo17_t, mo17_n, mo_fR18, mo18_a, mo18_t, mo18_n, mo_fR19, mo19_a, mo19_t, mo19_n, mo_fR20, mo20_a, mo20_t, mo20_n, mo_fR21, mo21_a, mo21_t, mo21_n, mo_fR22, mo22_a, mo22_t, mo22_n, mo_fR25, mo25_a, mo25_t, mo25_n, mo_fR26, mo26_a, mo26_t, mo26_n, mo_fR28, mo28_a, mo28_t, mo28_n, mo_fR29, mo29_a, mo29_t, mo29_n, mo_fR30, mo30_a, mo30_t, mo30_n, mo_fR33, mo33_a, mo33_t, mo33_n, mo_fR36, mo36_a, mo36_t, mo36_n, mo_fR37, mo37_a, mo37_t, mo37_n, mo_fR40, mo40_a, mo40_t, mo40_n, e1, bi_z, e2]; first | done | omega)))) | (apply it_n; (focus (first | assumption | (simp (disch := first | assumption | omega | rfl) only [i_rem, i_pred, i_addn1, i_lit, i_n1, i_add, i_mul, i_sub, i_le, i_lt, i_eq, i_ne1, n1_ne, n1_lt, n1_le, i_lt1, i_le1, bd_s, nar_bi, nar_0, nar_1, if_pos, if_neg, ↓reduceIte, reduceCtorEq, eq_self, if_true, if_false, not_true_eq_false, not_false_eq_true, mo_k, mo_fI, mo_fL, mo_pI, mo_pL, mo_z0, mo_z1, mo_fR1, mo1_a, mo1_t, mo1_n, mo_fR14, mo14_a, mo14_t, mo14_n, mo_fR15, mo15_a, mo15_t, mo15_n, mo_fR16, mo16_a, mo16_t, mo16_n, mo_fR17, mo17_a, mo17_t, mo17_n, mo_fR18, mo18_a, mo18_t, mo18_n, mo_fR19, mo19_a, mo19_t, mo19_n, mo_fR20, mo20_a, mo20_t, mo20_n, mo_fR21, mo21_a, mo21_t, mo21_n, mo_fR22, mo22_a, mo22_t, mo22_n, mo_fR25, mo25_a, mo25_t, mo25_n, mo_fR26, mo26_a, mo26_t, mo26_n, mo_fR28, mo28_a, mo28_t, mo28_n, mo_fR29, mo29_a, mo29_t, mo29_n, mo_fR30, mo30_a, mo30_t, mo30_n, mo_fR33, mo33_a, mo33_t, mo33_n, mo_fR36, mo36_a, mo36_t, mo36_n, mo_fR37, mo37_a, mo37_t, mo37_n, mo_fR40, mo40_a, mo40_t, mo40_n, e1, bi_z, e2]; first | done | omega)))))
    all_goals rfl
  · rw [if_neg c1]
    rw [decide_eq_false c1] at e1
    obtain ⟨J, e2, g1, g2⟩ := m_bad (N := N) (r := r) (k := 1) h (by omega)
    refine ⟨J, L, ?_, g1, g2⟩
    unfold fX11_readEnd
    repeat (first | (apply bd_eq; (focus (simp (disch := first | assumption | omega | rfl) only [i_rem, i_pred, i_addn1, i_lit, i_n1, i_add, i_mul, i_sub, i_le, i_lt, i_eq, i_ne1, n1_ne, n1_lt, n1_le, i_lt1, i_le1, bd_s, nar_bi, nar_0, nar_1, if_pos, if_neg, ↓reduceIte, reduceCtorEq, eq_self, if_true, if_false, not_true_eq_false, not_false_eq_true, mo_k, mo_fI, mo_fL, mo_pI, mo_pL, mo_z0, mo_z1, mo_fR1, mo1_a, mo1_t, mo1_n, mo_fR14, mo14_a, mo14_t, mo14_n, mo_fR15, mo15_a, mo15_t, mo15_n, mo_fR16, mo16_a, mo16_t, mo16_n, mo_fR17, mo17_a, mo17_t, mo17_n, mo_fR18, mo18_a, mo18_t, mo18_n, mo_fR19, mo19_a, mo19_t, mo19_n, mo_fR20, mo20_a, mo20_t, mo20_n, mo_fR21, mo21_a, mo21_t, mo21_n, mo_fR22, mo22_a, mo22_t, mo22_n, mo_fR25, mo25_a, mo25_t, mo25_n, mo_fR26, mo26_a, mo26_t, mo26_n, mo_fR28, mo28_a, mo28_t, mo28_n, mo_fR29, mo29_a, mo29_t, mo29_n, mo_fR30, mo30_a, mo30_t, mo30_n, mo_fR33, mo33_a, mo33_t, mo33_n, mo_fR36, mo36_a, mo36_t, mo36_n, mo_fR37, mo37_a, mo37_t, mo37_n, mo_fR40, mo40_a, mo40_t, mo40_n, e1, bi_z, e2]; first | done | (with_reducible rfl; done))); try dsimp only) | (apply it_p; (focus (first | assumption | (simp (disch := first | assumption | omega | rfl) only [i_rem, i_pred, i_addn1, i_lit, i_n1, i_add, i_mul, i_sub, i_le, i_lt, i_eq, i_ne1, n1_ne, n1_lt, n1_le, i_lt1, i_le1, bd_s, nar_bi, nar_0, nar_1, if_pos, if_neg, ↓reduceIte, reduceCtorEq, eq_self, if_true, if_false, not_true_eq_false, not_false_eq_true, mo_k, mo_fI, mo_fL, mo_pI, mo_pL, mo_z0, mo_z1, mo_fR1, mo1_a, mo1_t, mo1_n, mo_fR14, mo14_a, mo14_t, mo14_n, mo_fR15, mo15_a, mo15_t, mo15_n, mo_fR16, mo16_a, mo16_t, mo16_n, mo_fR17, mo17_a, mo17_t, mo17_n, mo_fR18, mo18_a, mo18_t, mo18_n, mo_fR19, mo19_a, mo19_t, mo19_n, mo_fR20, mo20_a, mo20_t, mo20_n, mo_fR21, mo21_a, mo21_t, mo21_n, mo_fR22, mo22_a, mo22_t, mo22_n, mo_fR25, mo25_a, mo25_t, mo25_n, mo_fR26, mo26_a, mo26_t, mo26_n, mo_fR28, mo28_a, mo28_t, mo28_n, mo_fR29, mo29_a, mo29_t, mo29_n, mo_fR30, mo30_a, mo30_t, mo30_n, mo_fR33, mo33_a, mo33_t, mo33_n, mo_fR36, mo36_a, mo36_t, mo36_n, mo_fR37, mo37_a, mo37_t, mo37_n, mo_fR40, mo40_a, mo40_t, mo40_n, e1, bi_z, e2]; first | done | omega)))) | (apply it_n; (focus (first | assumption | (simp (disch := first | assumption | omega | rfl) only [i_rem, i_pred, i_addn1, i_lit, i_n1, i_add, i_mul, i_sub, i_le, i_lt, i_eq, i_ne1, n1_ne, n1_lt, n1_le, i_lt1, i_le1, bd_s, nar_bi, nar_0, nar_1, if_pos, if_neg, ↓reduceIte, reduceCtorEq, eq_self, if_true, if_false, not_true_eq_false, not_false_eq_true, mo_k, mo_fI, mo_fL, mo_pI, mo_pL, mo_z0, mo_z1, mo_fR1, mo1_a, mo1_t, mo1_n, mo_fR14, mo14_a, mo14_t, mo14_n, mo_fR15, mo15_a, mo15_t, mo15_n, mo_fR16, mo16_a, mo16_t, mo16_n, mo_fR17, mo17_a, mo17_t, mo17_n, mo_fR18, mo18_a, mo18_t, mo18_n, mo_fR19, mo19_a, mo19_t, mo19_n, mo_fR20, mo20_a, mo20_t, mo20_n, mo_fR21, mo21_a, mo21_t, mo21_n, mo_fR22, mo22_a, mo22_t, mo22_n, mo_fR25, mo25_a, mo25_t, mo25_n, mo_fR26, mo26_a, mo26_t, mo26_n, mo_fR28, mo28_a, mo28_t, mo28_n, mo_fR29, mo29_a, mo29_t, mo29_n, mo_fR30, mo30_a, mo30_t, mo30_n, mo_fR33, mo33_a, mo33_t, mo33_n, mo_fR36, mo36_a, mo36_t, mo36_n, mo_fR37, mo37_a, mo37_t, mo37_n, mo_fR40, mo40_a, mo40_t, mo40_n, e1, bi_z, e2]; first | done | omega)))))
    all_goals rfl
theorem m_findIn {q z s b0 : Nat} {Wf : Nat → List Nat} {w : List Nat} (hN : 1200 < N) (hK : K0 q = 21) (hn : N0 q = z) (hz : z < 100) (hs : b0 + s ≤ z) (hL : ∀ i, i < s → L q (b0 + i) = i64 (cB 27 (Wf i))) (hW : ∀ i, i < s → wOk (Wf i)) (hw : wOk w) : fX11_findIn N q (i32 b0) (i32 s) (i64 (cB 27 w)) (mk I L r) = some (oi (fd (fun i => decide (Wf i = w)) s), mk I L r) := by
  have al : ∀ i, i < s → aL (mk I L r) q (i32 (b0 + i)) = some (L q (b0 + i)) := fun i hi => mk_aL hK hn (by omega) (by omega)
  unfold fX11_findIn
  simp only [i_lit]
  rw [lp_fd (F := fun n' v => fX11_findIn_L3 N q (i32 b0) (i32 s) (i64 (cB 27 w)) n' v (mk I L r)) (m := s) (fun i => Wf i = w) (fun i => (i32 i, mk I L r)) (n1, mk I L r) ?_ ?_ ?_ (by omega)]
  · cases fd (fun i => decide (Wf i = w)) s <;> rfl
  · intro n' k hk hP
    have c := (w_cmp (β := 27) (by omega) (by omega) (hW k hk) hw).mpr hP
    simp (disch := first | assumption | omega | rfl) only [i_rem, i_pred, i_addn1, i_lit, i_n1, i_add, i_mul, i_sub, i_le, i_lt, i_eq, i_ne1, n1_ne, n1_lt, n1_le, i_lt1, i_le1, bd_s, nar_bi, nar_0, nar_1, if_pos, if_neg, ↓reduceIte, reduceCtorEq, eq_self, if_true, if_false, not_true_eq_false, not_false_eq_true, fX11_findIn_L3, al k hk, hL k hk, c]
  · intro n' k hk hP
    have c : ¬ lg_cmp (i64 (cB 27 (Wf k))) (i64 (cB 27 w)) = i32 0 := fun z => hP ((w_cmp (β := 27) (by omega) (by omega) (hW k hk) hw).mp z)
    simp (disch := first | assumption | omega | rfl) only [i_rem, i_pred, i_addn1, i_lit, i_n1, i_add, i_mul, i_sub, i_le, i_lt, i_eq, i_ne1, n1_ne, n1_lt, n1_le, i_lt1, i_le1, bd_s, nar_bi, nar_0, nar_1, if_pos, if_neg, ↓reduceIte, reduceCtorEq, eq_self, if_true, if_false, not_true_eq_false, not_false_eq_true, fX11_findIn_L3, al k hk, hL k hk, c]
  · intro n'
    simp (disch := first | assumption | omega | rfl) only [i_rem, i_pred, i_addn1, i_lit, i_n1, i_add, i_mul, i_sub, i_le, i_lt, i_eq, i_ne1, n1_ne, n1_lt, n1_le, i_lt1, i_le1, bd_s, nar_bi, nar_0, nar_1, if_pos, if_neg, ↓reduceIte, reduceCtorEq, eq_self, if_true, if_false, not_true_eq_false, not_false_eq_true, fX11_findIn_L3]
end
