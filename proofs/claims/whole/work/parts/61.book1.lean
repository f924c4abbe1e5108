/-! ===== A BOOK, LINE BY LINE ===== -/
/-- a name that is one of s -/
def nfI (s : Nat) (Wf : Nat → List Nat) (t : Tok) : Option Nat := fd (fun i => decide (Wf i = t.2.2.2.1)) s
def nfO (n : Nat) (T : Nat → Nat) (m : Nat) (s : Nat) (Wf : Nat → List Nat) (o : Oc) : Oc := match o with
  | .inl e => .inl e
  | .inr t => if isNm t = true then (if nfI s Wf t = none then .inl (3, t.2.1) else .inr (nt n T m t)) else .inl (1, t.2.1)
def nfV (s : Nat) (Wf : Nat → List Nat) (o : Oc) : Nat := match o with
  | .inl _ => 0
  | .inr t => (nfI s Wf t).getD 0
def kwO (n : Nat) (T : Nat → Nat) (m k : Nat) (o : Oc) : Oc := match o with
  | .inl e => .inl e
  | .inr t => if t.1 = 1 ∧ kwd k = t.2.2.2.1 then .inr (nt n T m t) else .inl (1, t.2.1)
/-- a line: what is done (0 writes, 1 treads, 2 hours), the writer or the hours, the band, the place, the sign -/
abbrev Ln : Type := Nat × Nat × Nat × Nat × Nat
def whO (n : Nat) (T : Nat → Nat) (m : Nat) (H : Nat → Nat) (W : Nat → List Nat) (o : Oc) : Oc := oN n T m 0 11 (nfO n T m (H 0) W o)
def blO (n : Nat) (T : Nat → Nat) (m : Nat) (H : Nat → Nat) (W : Nat → List Nat) (i : Nat) (t : Tok) : Oc :=
  if kk t = some 6 then (if i < 40 then whO n T m H W (.inr (nt n T m t)) else .inl (4, t.2.1))
  else if kk t = some 7 then (if i < 40 then oN n T m 1 60 (.inr (nt n T m t)) else .inl (4, t.2.1))
  else if isNm t = true then (if nfI (H 1) (fun i => W (6 + i)) t = none then .inl (3, t.2.1) else (if i < 40 then oN n T m 0 9 (whO n T m H W (kwO n T m 5 (.inr (nt n T m t)))) else .inl (4, t.2.1))) else .inl (1, t.2.1)
def blV (n : Nat) (T : Nat → Nat) (m : Nat) (H : Nat → Nat) (W : Nat → List Nat) (t : Tok) : Ln :=
  if kk t = some 6 then (1, 0, nfV (H 0) W (.inr (nt n T m t)), vN 0 11 (nfO n T m (H 0) W (.inr (nt n T m t))), 0)
  else if kk t = some 7 then (2, vN 1 60 (.inr (nt n T m t)), 0, 0, 0)
  else (0, (nfI (H 1) (fun i => W (6 + i)) t).getD 0, nfV (H 0) W (kwO n T m 5 (.inr (nt n T m t))), vN 0 11 (nfO n T m (H 0) W (kwO n T m 5 (.inr (nt n T m t)))), vN 0 9 (whO n T m H W (kwO n T m 5 (.inr (nt n T m t)))))
def lnC5 (x : Ln) (j : Nat) (I : Nat → Nat → Int32) : Prop := I 109 j = i32 (5 + x.1) ∧ (x.1 = 0 → I 110 j = i32 x.2.1 ∧ I 113 j = i32 x.2.2.2.2) ∧ (x.1 ≠ 2 → I 111 j = i32 x.2.2.1 ∧ I 112 j = i32 x.2.2.2.1) ∧ (x.1 = 2 → I 112 j = i32 x.2.1)
def CL (i : Nat) (X : Nat → Ln) (I : Nat → Nat → Int32) : Prop := I 108 6 = i32 i ∧ ∀ j, j < i → lnC5 (X j) j I
def FrB (I J : Nat → Nat → Int32) (L K : Nat → Nat → Int64) : Prop := (∀ z, z ≠ 1 → (z < 108 ∨ 114 ≤ z) → J z = I z) ∧ (∀ k, k < 4 → J 1 k = I 1 k) ∧ (∀ k, k ≠ 6 → J 108 k = I 108 k) ∧ ∀ z, z ≠ 1 → K z = L z
def stR (I : Nat → Nat → Int32) (i : Nat) (v2 v3 v4 v5 v6 : Int32) : Nat → Nat → Int32 := up (up (up (up (up (up I 109 i v2) 110 i v3) 111 i v4) 112 i v5) 113 i v6) 108 6 (i32 (i + 1))
section
variable {I J : Nat → Nat → Int32} {L K : Nat → Nat → Int64} {r : Bool} {N : Nat} {T : Nat → Nat} {n m : Nat} {t : Tok} {e : Nat × Nat} {o : Oc} {H : Nat → Nat} {W : Nat → List Nat}
theorem FrB.rf : FrB I I L L := ⟨fun _ _ _ => rfl, fun _ _ => rfl, fun _ _ => rfl, fun _ _ => rfl⟩
theorem FrB.tr {I2 : Nat → Nat → Int32} {L2 : Nat → Nat → Int64} (h : FrB I J L K) (g : FrB J I2 K L2) : FrB I I2 L L2 := ⟨fun z h1 h2 => (g.1 z h1 h2).trans (h.1 z h1 h2), fun k hk => (g.2.1 k hk).trans (h.2.1 k hk), fun k hk => (g.2.2.1 k hk).trans (h.2.2.1 k hk), fun z h1 => (g.2.2.2 z h1).trans (h.2.2.2 z h1)⟩
theorem FrT.b (h : FrT 1 S4c I J L K) : FrB I J L K := ⟨fun z h1 _ => h.1 z h1, fun k hk => h.2.1 k (by unfold S4c; omega), fun k _ => by rw [h.1 108 (by omega)], fun z h1 => h.2.2 z h1⟩
theorem FrB.st {i : Nat} {v2 v3 v4 v5 v6 : Int32} : FrB I (stR I i v2 v3 v4 v5 v6) L L := by
  refine ⟨fun z h1 h2 => ?_, fun k hk => ?_, fun k hk => ?_, fun _ _ => rfl⟩
  · unfold stR; simp (disch := omega) only [up_row]
  · unfold stR; simp (disch := omega) only [up_row]
  · unfold stR; rw [up_ofk hk]; simp (disch := omega) only [up_row]
theorem c_nameOf {q z s : Nat} {Wf : Nat → List Nat} (hN : 1200 < N) (hK : K0 q = 21) (hn : N0 q = z) (hz : z < 100) (hs : s ≤ z) (hL : ∀ i, i < s → L q i = i64 (cB 32 (Wf i))) (hW : ∀ i, i < s → wOk (Wf i)) (h : CqR n T m o I L) : ∃ x J K, fX9_takeNameOf N 1 q (i32 s) (mk I L r) = some (x, mk J K r) ∧ CqR n T m (nfO n T m s Wf o) J K ∧ (isR (nfO n T m s Wf o) = true → x = i32 (nfV s Wf o)) ∧ FrT 1 S4c I J L K := by
  have kt : ¬ bi true = i32 0 := by decide
  have kf : bi false = i32 0 := rfl
  cases o with
  | inl e =>
    refine ⟨n1, I, L, ?_, h, fun z => (by cases z), FrT.rf⟩
    have e1 := c_failL (N := N) (r := r) (v := i32 1) h
    have x10 := (fault_0 h).2 rfl
    unfold fX9_takeNameOf
    repeat (first | (with_reducible apply bd_eq; (focus (simp (disch := first | assumption | omega | rfl) only [i_rem, i_pred, i_addn1, i_lit, i_n1, i_add, i_mul, i_sub, i_le, i_lt, i_eq, i_ne1, n1_ne, n1_lt, n1_le, i_lt1, i_le1, bd_s, nar_bi, nar_0, nar_1, if_pos, if_neg, ↓reduceIte, reduceCtorEq, eq_self, if_true, if_false, not_true_eq_false, not_false_eq_true, tp_k, tp_fI, tp_fL, tp_pI, tp_pL, tp_z0, tp_z1, tp_fR0, tp0_a, tp0_t, tp0_n, tp_fR1, tp1_a, tp1_t, tp1_n, x10, e1]; first | done | (with_reducible rfl; done))); try dsimp only) | (with_reducible apply it_p; (focus (first | assumption | (simp (disch := first | assumption | omega | rfl) only [i_rem, i_pred, i_addn1, i_lit, i_n1, i_add, i_mul, i_sub, i_le, i_lt, i_eq, i_ne1, n1_ne, n1_lt, n1_le, i_lt1, i_le1, bd_s, nar_bi, nar_0, nar_1, if_pos, if_neg, ↓reduceIte, reduceCtorEq, eq_self, if_true, if_false, not_true_eq_false, not_false_eq_true, tp_k, tp_fI, tp_fL, tp_pI, tp_pL, tp_z0, tp_z1, tp_fR0, tp0_a, tp0_t, tp0_n, tp_fR1, tp1_a, tp1_t, tp1_n, x10, e1]; first | done | omega)))) | (with_reducible apply it_n; (focus (first | assumption | (simp (disch := first | assumption | omega | rfl) only [i_rem, i_pred, i_addn1, i_lit, i_n1, i_add, i_mul, i_sub, i_le, i_lt, i_eq, i_ne1, n1_ne, n1_lt, n1_le, i_lt1, i_le1, bd_s, nar_bi, nar_0, nar_1, if_pos, if_neg, ↓reduceIte, reduceCtorEq, eq_self, if_true, if_false, not_true_eq_false, not_false_eq_true, tp_k, tp_fI, tp_fL, tp_pI, tp_pL, tp_z0, tp_z1, tp_fR0, tp0_a, tp0_t, tp0_n, tp_fR1, tp1_a, tp1_t, tp1_n, x10, e1]; first | done | omega)))))
    all_goals rfl
  | inr t =>
    have x10 : I 1 10 = i32 0 := h.2.2.1
    have a1 := c_atName (N := N) (r := r) h
    unfold nfO nfV
    dsimp only
    by_cases c1 : isNm t = true
    · rw [if_pos c1]
      rw [c1] at a1
      have w1 := isNm_w h.2.2.2 c1
      have t1 := (of_decide_eq_true c1).1
      have l8 := h.2.1.2.2.2.2.1 t1
      have e2 := c_indexOf (N := N) (I := I) (r := r) hN hK hn hz hs hL hW w1
      cases hf : nfI s Wf t with
      | none =>
        rw [if_pos rfl]
        have hf' : fd (fun i => decide (Wf i = t.2.2.2.1)) s = none := hf
        rw [hf'] at e2
        have e2 : fX8_indexOf N q (i32 s) (i64 (cB 32 t.2.2.2.1)) (mk I L r) = some (n1, mk I L r) := e2
        obtain ⟨J, e3, g1, g2⟩ := c_failR (N := N) (r := r) (k := 3) h (by omega)
        refine ⟨n1, J, L, ?_, g1, fun z => (by cases z), g2⟩
        unfold fX9_takeNameOf
        repeat (first | (with_reducible apply bd_eq; (focus (simp (disch := first | assumption | omega | rfl) only [i_rem, i_pred, i_addn1, i_lit, i_n1, i_add, i_mul, i_sub, i_le, i_lt, i_eq, i_ne1, n1_ne, n1_lt, n1_le, i_lt1, i_le1, bd_s, nar_bi, nar_0, nar_1, if_pos, if_neg, ↓reduceIte, reduceCtorEq, eq_self, if_true, if_false, not_true_eq_false, not_false_eq_true, tp_k, tp_fI, tp_fL, tp_pI, tp_pL, tp_z0, tp_z1, tp_fR0, tp0_a, tp0_t, tp0_n, tp_fR1, tp1_a, tp1_t, tp1_n, x10, a1, kt, l8, e2, e3]; first | done | (with_reducible rfl; done))); try dsimp only) | (with_reducible apply it_p; (focus (first | assumption | (simp (disch := first | assumption | omega | rfl) only [i_rem, i_pred, i_addn1, i_lit, i_n1, i_add, i_mul, i_sub, i_le, i_lt, i_eq, i_ne1, n1_ne, n1_lt, n1_le, i_lt1, i_le1, bd_s, nar_bi, nar_0, nar_1, if_pos, if_neg, ↓reduceIte, reduceCtorEq, eq_self, if_true, if_false, not_true_eq_false, not_false_eq_true, tp_k, tp_fI, tp_fL, tp_pI, tp_pL, tp_z0, tp_z1, tp_fR0, tp0_a, tp0_t, tp0_n, tp_fR1, tp1_a, tp1_t, tp1_n, x10, a1, kt, l8, e2, e3]; first | done | omega)))) | (with_reducible apply it_n; (focus (first | assumption | (simp (disch := first | assumption | omega | rfl) only [i_rem, i_pred, i_addn1, i_lit, i_n1, i_add, i_mul, i_sub, i_le, i_lt, i_eq, i_ne1, n1_ne, n1_lt, n1_le, i_lt1, i_le1, bd_s, nar_bi, nar_0, nar_1, if_pos, if_neg, ↓reduceIte, reduceCtorEq, eq_self, if_true, if_false, not_true_eq_false, not_false_eq_true, tp_k, tp_fI, tp_fL, tp_pI, tp_pL, tp_z0, tp_z1, tp_fR0, tp0_a, tp0_t, tp0_n, tp_fR1, tp1_a, tp1_t, tp1_n, x10, a1, kt, l8, e2, e3]; first | done | omega)))))
        all_goals rfl
      | some k =>
        rw [if_neg (by intro z; cases z)]
        have hf' : fd (fun i => decide (Wf i = t.2.2.2.1)) s = some k := hf
        have hk := (fd_some.mp hf').1
        rw [hf'] at e2
        have e2 : fX8_indexOf N q (i32 s) (i64 (cB 32 t.2.2.2.1)) (mk I L r) = some (i32 k, mk I L r) := e2
        have hk1 : ¬ i32 k = n1 := by rw [i_ne1 (by omega)]; exact id
        obtain ⟨J, K, e3, g1, g2⟩ := c_adv (N := N) (r := r) hN h
        refine ⟨i32 k, J, K, ?_, g1, fun z => rfl, g2⟩
        unfold fX9_takeNameOf
        repeat (first | (with_reducible apply bd_eq; (focus (simp (disch := first | assumption | omega | rfl) only [i_rem, i_pred, i_addn1, i_lit, i_n1, i_add, i_mul, i_sub, i_le, i_lt, i_eq, i_ne1, n1_ne, n1_lt, n1_le, i_lt1, i_le1, bd_s, nar_bi, nar_0, nar_1, if_pos, if_neg, ↓reduceIte, reduceCtorEq, eq_self, if_true, if_false, not_true_eq_false, not_false_eq_true, tp_k, tp_fI, tp_fL, tp_pI, tp_pL, tp_z0, tp_z1, tp_fR0, tp0_a, tp0_t, tp0_n, tp_fR1, tp1_a, tp1_t, tp1_n, x10, a1, kt, l8, e2, hk1, e3]; first | done | (with_reducible rfl; done))); try dsimp only) | (with_reducible apply it_p; (focus (first | assumption | (simp (disch := first | assumption | omega | rfl) only [i_rem, i_pred, i_addn1, i_lit, i_n1, i_add, i_mul, i_sub, i_le, i_lt, i_eq, i_ne1, n1_ne, n1_lt, n1_le, i_lt1, i_le1, bd_s, nar_bi, nar_0, nar_1, if_pos, if_neg, ↓reduceIte, reduceCtorEq, eq_self, if_true, if_false, not_true_eq_false, not_false_eq_true, tp_k, tp_fI, tp_fL, tp_pI, tp_pL, tp_z0, tp_z1, tp_fR0, tp0_a, tp0_t, tp0_n, tp_fR1, tp1_a, tp1_t, tp1_n, x10, a1, kt, l8, e2, hk1, e3]; first | done | omega)))) | (with_reducible apply it_n; (focus (first | assumption | (simp (disch := first | assumption | omega | rfl) only [i_rem, i_pred, i_addn1, i_lit, i_n1, i_add, i_mul, i_sub, i_le, i_lt, i_eq, i_ne1, n1_ne, n1_lt, n1_le, i_lt1, i_le1, bd_s, nar_bi, nar_0, nar_1, if_pos, if_neg, ↓reduceIte, reduceCtorEq, eq_self, if_true, if_false, not_true_eq_false, not_false_eq_true, tp_k, tp_fI, tp_fL, tp_pI, tp_pL, tp_z0, tp_z1, tp_fR0, tp0_a, tp0_t, tp0_n, tp_fR1, tp1_a, tp1_t, tp1_n, x10, a1, kt, l8, e2, hk1, e3]; first | done | omega)))))
        all_goals rfl
    · rw [if_neg c1]
      have c1' : isNm t = false := by cases h9 : isNm t <;> simp_all
      rw [c1'] at a1
      obtain ⟨J, e3, g1, g2⟩ := c_failR (N := N) (r := r) (k := 1) h (by omega)
      refine ⟨n1, J, L, ?_, g1, fun z => (by cases z), g2⟩
      unfold fX9_takeNameOf
      repeat (first | (with_reducible apply bd_eq; (focus (simp (disch := first | assumption | omega | rfl) only [i_rem, i_pred, i_addn1, i_lit, i_n1, i_add, i_mul, i_sub, i_le, i_lt, i_eq, i_ne1, n1_ne, n1_lt, n1_le, i_lt1, i_le1, bd_s, nar_bi, nar_0, nar_1, if_pos, if_neg, ↓reduceIte, reduceCtorEq, eq_self, if_true, if_false, not_true_eq_false, not_false_eq_true, tp_k, tp_fI, tp_fL, tp_pI, tp_pL, tp_z0, tp_z1, tp_fR0, tp0_a, tp0_t, tp0_n, tp_fR1, tp1_a, tp1_t, tp1_n, x10, a1, kf, e3]; first | done | (with_reducible rfl; done))); try dsimp only) | (with_reducible apply it_p; (focus (first | assumption | (simp (disch := first | assumption | omega | rfl) only [i_rem, i_pred, i_addn1, i_lit, i_n1, i_add, i_mul, i_sub, i_le, i_lt, i_eq, i_ne1, n1_ne, n1_lt, n1_le, i_lt1, i_le1, bd_s, nar_bi, nar_0, nar_1, if_pos, if_neg, ↓reduceIte, reduceCtorEq, eq_self, if_true, if_false, not_true_eq_false, not_false_eq_true, tp_k, tp_fI, tp_fL, tp_pI, tp_pL, tp_z0, tp_z1, tp_fR0, tp0_a, tp0_t, tp0_n, tp_fR1, tp1_a, tp1_t, tp1_n, x10, a1, kf, e3]; first | done | omega)))) | (with_reducible apply it_n; (focus (first | assumption | (simp (disch := first | assumption | omega | rfl) only [i_rem, i_pred, i_addn1, i_lit, i_n1, i_add, i_mul, i_sub, i_le, i_lt, i_eq, i_ne1, n1_ne, n1_lt, n1_le, i_lt1, i_le1, bd_s, nar_bi, nar_0, nar_1, if_pos, if_neg, ↓reduceIte, reduceCtorEq, eq_self, if_true, if_false, not_true_eq_false, not_false_eq_true, tp_k, tp_fI, tp_fL, tp_pI, tp_pL, tp_z0, tp_z1, tp_fR0, tp0_a, tp0_t, tp0_n, tp_fR1, tp1_a, tp1_t, tp1_n, x10, a1, kf, e3]; first | done | omega)))))
      all_goals rfl
theorem c_J133 {i : Nat} {v2 v3 v4 v5 v6 : Int32} (h : CqR n T m o I L) (h6 : I 108 6 = i32 i) (hi : i < 40) : fX1_readAct_J133 N 108 1 v2 v3 v4 v5 v6 (mk I L r) = some ((), mk (if isR o = true then stR I i v2 v3 v4 v5 v6 else I) L r) := by
  cases ho : isR o with
  | true =>
    have x10 := (fault_0 h).1 ho
    rw [if_pos rfl]
    unfold fX1_readAct_J133 stR
    simp (disch := first | assumption | omega | rfl) only [i_rem, i_pred, i_addn1, i_lit, i_n1, i_add, i_mul, i_sub, i_le, i_lt, i_eq, i_ne1, n1_ne, n1_lt, n1_le, i_lt1, i_le1, bd_s, nar_bi, nar_0, nar_1, if_pos, if_neg, ↓reduceIte, reduceCtorEq, eq_self, if_true, if_false, not_true_eq_false, not_false_eq_true, tp_k, tp_fI, tp_fL, tp_pI, tp_pL, tp_z0, tp_z1, tp_fR0, tp0_a, tp0_t, tp0_n, tp_fR1, tp1_a, tp1_t, tp1_n, bk_k, bk_fI, bk_fL, bk_pI, bk_pL, bk_z0, bk_z1, bk_fR0, bk_fR1, bk1_a, bk1_t, bk1_n, bk_fR2, bk2_a, bk2_t, bk2_n, bk_fR3, bk3_a, bk3_t, bk3_n, bk_fR4, bk4_a, bk4_t, bk4_n, bk_fR5, bk5_a, bk5_t, bk5_n, x10, up_off, h6]
  | false =>
    have x10 := (fault_0 h).2 ho
    rw [if_neg (by decide)]
    unfold fX1_readAct_J133
    repeat (first | (with_reducible apply bd_eq; (focus (simp (disch := first | assumption | omega | rfl) only [i_rem, i_pred, i_addn1, i_lit, i_n1, i_add, i_mul, i_sub, i_le, i_lt, i_eq, i_ne1, n1_ne, n1_lt, n1_le, i_lt1, i_le1, bd_s, nar_bi, nar_0, nar_1, if_pos, if_neg, ↓reduceIte, reduceCtorEq, eq_self, if_true, if_false, not_true_eq_false, not_false_eq_true, tp_k, tp_fI, tp_fL, tp_pI, tp_pL, tp_z0, tp_z1, tp_fR0, tp0_a, tp0_t, tp0_n, tp_fR1, tp1_a, tp1_t, tp1_n, bk_k, bk_fI, bk_fL, bk_pI, bk_pL, bk_z0, bk_z1, bk_fR0, bk_fR1, bk1_a, bk1_t, bk1_n, bk_fR2, bk2_a, bk2_t, bk2_n, bk_fR3, bk3_a, bk3_t, bk3_n, bk_fR4, bk4_a, bk4_t, bk4_n, bk_fR5, bk5_a, bk5_t, bk5_n, x10]; first | done | (with_reducible rfl; done))); try dsimp only) | (with_reducible apply it_p; (focus (first | assumption | (simp (disch := first | assumption | omega | rfl) only [i_rem, i_pred, i_addn1, i_lit, i_n1, i_add, i_mul, i_sub, i_le, i_lt, i_eq, i_ne1, n1_ne, n1_lt, n1_le, i_lt1, i_le1, bd_s, nar_bi, nar_0, nar_1, if_pos, if_neg, ↓reduceIte, reduceCtorEq, eq_self, if_true, if_false, not_true_eq_false, not_false_eq_true, tp_k, tp_fI, tp_fL, tp_pI, tp_pL, tp_z0, tp_z1, tp_fR0, tp0_a, tp0_t, tp0_n, tp_fR1, tp1_a, tp1_t, tp1_n, bk_k, bk_fI, bk_fL, bk_pI, bk_pL, bk_z0, bk_z1, bk_fR0, bk_fR1, bk1_a, bk1_t, bk1_n, bk_fR2, bk2_a, bk2_t, bk2_n, bk_fR3, bk3_a, bk3_t, bk3_n, bk_fR4, bk4_a, bk4_t, bk4_n, bk_fR5, bk5_a, bk5_t, bk5_n, x10]; first | done | omega)))) | (with_reducible apply it_n; (focus (first | assumption | (simp (disch := first | assumption | omega | rfl) only [i_rem, i_pred, i_addn1, i_lit, i_n1, i_add, i_mul, i_sub, i_le, i_lt, i_eq, i_ne1, n1_ne, n1_lt, n1_le, i_lt1, i_le1, bd_s, nar_bi, nar_0, nar_1, if_pos, if_neg, ↓reduceIte, reduceCtorEq, eq_self, if_true, if_false, not_true_eq_false, not_false_eq_true, tp_k, tp_fI, tp_fL, tp_pI, tp_pL, tp_z0, tp_z1, tp_fR0, tp0_a, tp0_t, tp0_n, tp_fR1, tp1_a, tp1_t, tp1_n, bk_k, bk_fI, bk_fL, bk_pI, bk_pL, bk_z0, bk_z1, bk_fR0, bk_fR1, bk1_a, bk1_t, bk1_n, bk_fR2, bk2_a, bk2_t, bk2_n, bk_fR3, bk3_a, bk3_t, bk3_n, bk_fR4, bk4_a, bk4_t, bk4_n, bk_fR5, bk5_a, bk5_t, bk5_n, x10]; first | done | omega)))))
    all_goals rfl
end
