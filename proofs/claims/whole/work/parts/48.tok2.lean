section
variable {I : Nat → Nat → Int32} {L : Nat → Nat → Int64} {r : Bool} {N : Nat} {T : Nat → Nat} {n m p q : Nat}
theorem lc_940 {k : Nat} : lc T p k ≤ k := cnt_le
theorem dg_940 {k : Nat} : dg T p k ≤ k := cnt_le
theorem c_kind {l d : Nat} (hl : l ≤ 940) (hd : d ≤ 940) : fX9_readRun_J117 N 1 (i32 l) (i32 d) (mk I L r) = some ((), mk (up I 1 5 (i32 (kdR l d))) L r) := by
  unfold fX9_readRun_J117 kdR
  by_cases c1 : d = 0
  · by_cases c2 : l ≤ 7
    · rw [if_pos (show d = 0 ∧ l ≤ 7 from ⟨c1, c2⟩)]
      simp (disch := first | assumption | omega | rfl) only [i_rem, i_pred, i_addn1, i_lit, i_n1, i_add, i_mul, i_sub, i_le, i_lt, i_eq, i_ne1, n1_ne, n1_lt, n1_le, i_lt1, i_le1, bd_s, nar_bi, nar_0, nar_1, if_pos, if_neg, ↓reduceIte, reduceCtorEq, eq_self, if_true, if_false, not_true_eq_false, not_false_eq_true, tp_k, tp_fI, tp_fL, tp_pI, tp_pL, tp_z0, tp_z1, tp_fR0, tp0_a, tp0_t, tp0_n, tp_fR1, tp1_a, tp1_t, tp1_n, c1]
    · rw [if_neg (show ¬ (d = 0 ∧ l ≤ 7) by omega), if_neg (show ¬ (l = 0 ∧ d ≤ 3) by omega)]
      simp (disch := first | assumption | omega | rfl) only [i_rem, i_pred, i_addn1, i_lit, i_n1, i_add, i_mul, i_sub, i_le, i_lt, i_eq, i_ne1, n1_ne, n1_lt, n1_le, i_lt1, i_le1, bd_s, nar_bi, nar_0, nar_1, if_pos, if_neg, ↓reduceIte, reduceCtorEq, eq_self, if_true, if_false, not_true_eq_false, not_false_eq_true, tp_k, tp_fI, tp_fL, tp_pI, tp_pL, tp_z0, tp_z1, tp_fR0, tp0_a, tp0_t, tp0_n, tp_fR1, tp1_a, tp1_t, tp1_n, c1, fX9_readRun_J135]
  · rw [if_neg (show ¬ (d = 0 ∧ l ≤ 7) by omega)]
    by_cases c2 : l = 0
    · by_cases c3 : d ≤ 3
      · rw [if_pos (show l = 0 ∧ d ≤ 3 from ⟨c2, c3⟩)]
        simp (disch := first | assumption | omega | rfl) only [i_rem, i_pred, i_addn1, i_lit, i_n1, i_add, i_mul, i_sub, i_le, i_lt, i_eq, i_ne1, n1_ne, n1_lt, n1_le, i_lt1, i_le1, bd_s, nar_bi, nar_0, nar_1, if_pos, if_neg, ↓reduceIte, reduceCtorEq, eq_self, if_true, if_false, not_true_eq_false, not_false_eq_true, tp_k, tp_fI, tp_fL, tp_pI, tp_pL, tp_z0, tp_z1, tp_fR0, tp0_a, tp0_t, tp0_n, tp_fR1, tp1_a, tp1_t, tp1_n, c2, fX9_readRun_J135]
      · rw [if_neg (show ¬ (l = 0 ∧ d ≤ 3) by omega)]
        simp (disch := first | assumption | omega | rfl) only [i_rem, i_pred, i_addn1, i_lit, i_n1, i_add, i_mul, i_sub, i_le, i_lt, i_eq, i_ne1, n1_ne, n1_lt, n1_le, i_lt1, i_le1, bd_s, nar_bi, nar_0, nar_1, if_pos, if_neg, ↓reduceIte, reduceCtorEq, eq_self, if_true, if_false, not_true_eq_false, not_false_eq_true, tp_k, tp_fI, tp_fL, tp_pI, tp_pL, tp_z0, tp_z1, tp_fR0, tp0_a, tp0_t, tp0_n, tp_fR1, tp1_a, tp1_t, tp1_n, c2, fX9_readRun_J135]
    · rw [if_neg (show ¬ (l = 0 ∧ d ≤ 3) by omega)]
      simp (disch := first | assumption | omega | rfl) only [i_rem, i_pred, i_addn1, i_lit, i_n1, i_add, i_mul, i_sub, i_le, i_lt, i_eq, i_ne1, n1_ne, n1_lt, n1_le, i_lt1, i_le1, bd_s, nar_bi, nar_0, nar_1, if_pos, if_neg, ↓reduceIte, reduceCtorEq, eq_self, if_true, if_false, not_true_eq_false, not_false_eq_true, tp_k, tp_fI, tp_fL, tp_pI, tp_pL, tp_z0, tp_z1, tp_fR0, tp0_a, tp0_t, tp0_n, tp_fR1, tp1_a, tp1_t, tp1_n, fX9_readRun_J135]
theorem c_readRun (hN : 1200 < N) (h : TC n T m I L) (hp : p ≤ n) (h4 : I 1 4 = i32 p) : ∃ J K, fX9_readRun N 1 (mk I L r) = some ((), mk J K r) ∧ RC T p (rn T n p) J K ∧ J 1 5 = i32 (kdR (lc T p (rn T n p)) (dg T p (rn T n p))) ∧ J 1 6 = I 1 6 ∧ J 1 9 = I 1 9 ∧ FrT 1 Sc I J L K := by
  have hr := rn_le (T := T) (n := n) (p := p)
  have n940 := h.2.1
  have l9 := lc_940 (T := T) (p := p) (k := rn T n p)
  have d9 := dg_940 (T := T) (p := p) (k := rn T n p)
  have fr0 : FrT 1 Sr I (up I 1 7 (i32 0)) L (upL L 1 8 (i64 0)) := (FrT.rf.up (by unfold Sr; omega)).upL
  obtain ⟨J, K, e, g1, g2⟩ := c_runL (N := N) (r := r) hN (TC_fr h (fr0.mono Sr_Sc)) hp (p := p) ⟨by rw [up_ofk (by omega)]; exact h4, fun _ => upL_self, fun _ => up_self⟩
  have fr1 := fr0.tr g2
  have ck := c_kind (N := N) (I := J) (L := K) (r := r) (l := lc T p (rn T n p)) (d := dg T p (rn T n p)) (by omega) (by omega)
  refine ⟨up J 1 5 (i32 (kdR (lc T p (rn T n p)) (dg T p (rn T n p)))), K, ?_, ⟨by rw [up_ofk (by omega)]; exact g1.1, g1.2.1, fun z => by rw [up_ofk (by omega)]; exact g1.2.2 z⟩, up_self, ?_, ?_, (fr1.mono Sr_Sc).up (by unfold Sc; omega)⟩
  · unfold fX9_readRun
    repeat (first | (with_reducible apply bd_eq; (focus (simp (disch := first | assumption | omega | rfl) only [i_rem, i_pred, i_addn1, i_lit, i_n1, i_add, i_mul, i_sub, i_le, i_lt, i_eq, i_ne1, n1_ne, n1_lt, n1_le, i_lt1, i_le1, bd_s, nar_bi, nar_0, nar_1, if_pos, if_neg, ↓reduceIte, reduceCtorEq, eq_self, if_true, if_false, not_true_eq_false, not_false_eq_true, tp_k, tp_fI, tp_fL, tp_pI, tp_pL, tp_z0, tp_z1, tp_fR0, tp0_a, tp0_t, tp0_n, tp_fR1, tp1_a, tp1_t, tp1_n, j_lit, e]; first | done | (with_reducible rfl; done))); try dsimp only) | (with_reducible apply it_p; (focus (first | assumption | (simp (disch := first | assumption | omega | rfl) only [i_rem, i_pred, i_addn1, i_lit, i_n1, i_add, i_mul, i_sub, i_le, i_lt, i_eq, i_ne1, n1_ne, n1_lt, n1_le, i_lt1, i_le1, bd_s, nar_bi, nar_0, nar_1, if_pos, if_neg, ↓reduceIte, reduceCtorEq, eq_self, if_true, if_false, not_true_eq_false, not_false_eq_true, tp_k, tp_fI, tp_fL, tp_pI, tp_pL, tp_z0, tp_z1, tp_fR0, tp0_a, tp0_t, tp0_n, tp_fR1, tp1_a, tp1_t, tp1_n, j_lit, e]; first | done | omega)))) | (with_reducible apply it_n; (focus (first | assumption | (simp (disch := first | assumption | omega | rfl) only [i_rem, i_pred, i_addn1, i_lit, i_n1, i_add, i_mul, i_sub, i_le, i_lt, i_eq, i_ne1, n1_ne, n1_lt, n1_le, i_lt1, i_le1, bd_s, nar_bi, nar_0, nar_1, if_pos, if_neg, ↓reduceIte, reduceCtorEq, eq_self, if_true, if_false, not_true_eq_false, not_false_eq_true, tp_k, tp_fI, tp_fL, tp_pI, tp_pL, tp_z0, tp_z1, tp_fR0, tp0_a, tp0_t, tp0_n, tp_fR1, tp1_a, tp1_t, tp1_n, j_lit, e]; first | done | omega)))))
    exact ck
  · rw [up_ofk (by omega)]; exact fr1.2.1 6 (by unfold Sr; omega)
  · rw [up_ofk (by omega)]; exact fr1.2.1 9 (by unfold Sr; omega)
theorem c_readMark (h : TC n T m I L) (hp : p < n) (h4 : I 1 4 = i32 p) : fX9_readMark N 1 (mk I L r) = some ((), mk (up (up (up I 1 7 (i32 (T p))) 1 4 (i32 (p + 1))) 1 5 (i32 (if isM (T p) then 3 else 4))) L r) := by
  obtain ⟨h1, h2, h3, h4', h5, h6, h7⟩ := h
  have t6 := h6 p hp
  have h5' := h5 p hp
  unfold fX9_readMark
  by_cases q1 : T p = 59 ∨ T p = 60 ∨ T p = 61 ∨ T p = 62 ∨ T p = 40 ∨ T p = 41
  · have e : isM (T p) = true := decide_eq_true q1
    rw [e]
    rcases q1 with q1 | q1 | q1 | q1 | q1 | q1
    all_goals
      rw [q1] at h5' ⊢
      repeat (first | (apply bd_eq; (focus (simp (disch := first | assumption | omega | rfl) only [i_rem, i_pred, i_addn1, i_lit, i_n1, i_add, i_mul, i_sub, i_le, i_lt, i_eq, i_ne1, n1_ne, n1_lt, n1_le, i_lt1, i_le1, bd_s, nar_bi, nar_0, nar_1, if_pos, if_neg, ↓reduceIte, reduceCtorEq, eq_self, if_true, if_false, not_true_eq_false, not_false_eq_true, tp_k, tp_fI, tp_fL, tp_pI, tp_pL, tp_z0, tp_z1, tp_fR0, tp0_a, tp0_t, tp0_n, tp_fR1, tp1_a, tp1_t, tp1_n, h4, h5', up_at, up_off]; first | done | (with_reducible rfl; done))); try dsimp only) | (apply it_p; (focus (first | assumption | (simp (disch := first | assumption | omega | rfl) only [i_rem, i_pred, i_addn1, i_lit, i_n1, i_add, i_mul, i_sub, i_le, i_lt, i_eq, i_ne1, n1_ne, n1_lt, n1_le, i_lt1, i_le1, bd_s, nar_bi, nar_0, nar_1, if_pos, if_neg, ↓reduceIte, reduceCtorEq, eq_self, if_true, if_false, not_true_eq_false, not_false_eq_true, tp_k, tp_fI, tp_fL, tp_pI, tp_pL, tp_z0, tp_z1, tp_fR0, tp0_a, tp0_t, tp0_n, tp_fR1, tp1_a, tp1_t, tp1_n, h4, h5', up_at, up_off]; first | done | omega)))) | (apply it_n; (focus (first | assumption | (simp (disch := first | assumption | omega | rfl) only [i_rem, i_pred, i_addn1, i_lit, i_n1, i_add, i_mul, i_sub, i_le, i_lt, i_eq, i_ne1, n1_ne, n1_lt, n1_le, i_lt1, i_le1, bd_s, nar_bi, nar_0, nar_1, if_pos, if_neg, ↓reduceIte, reduceCtorEq, eq_self, if_true, if_false, not_true_eq_false, not_false_eq_true, tp_k, tp_fI, tp_fL, tp_pI, tp_pL, tp_z0, tp_z1, tp_fR0, tp0_a, tp0_t, tp0_n, tp_fR1, tp1_a, tp1_t, tp1_n, h4, h5', up_at, up_off]; first | done | omega)))))
      all_goals simp (disch := first | assumption | omega | rfl) only [i_rem, i_pred, i_addn1, i_lit, i_n1, i_add, i_mul, i_sub, i_le, i_lt, i_eq, i_ne1, n1_ne, n1_lt, n1_le, i_lt1, i_le1, bd_s, nar_bi, nar_0, nar_1, if_pos, if_neg, ↓reduceIte, reduceCtorEq, eq_self, if_true, if_false, not_true_eq_false, not_false_eq_true, tp_k, tp_fI, tp_fL, tp_pI, tp_pL, tp_z0, tp_z1, tp_fR0, tp0_a, tp0_t, tp0_n, tp_fR1, tp1_a, tp1_t, tp1_n, fX9_readMark_J77, fX9_readMark_J82]
  · have e : isM (T p) = false := decide_eq_false q1
    rw [e]
    have k1 : ¬ T p = 59 := by omega
    have k2 : ¬ T p = 60 := by omega
    have k3 : ¬ T p = 61 := by omega
    have k4 : ¬ T p = 62 := by omega
    have k5 : ¬ T p = 40 := by omega
    have k6 : ¬ T p = 41 := by omega
    repeat (first | (apply bd_eq; (focus (simp (disch := first | assumption | omega | rfl) only [i_rem, i_pred, i_addn1, i_lit, i_n1, i_add, i_mul, i_sub, i_le, i_lt, i_eq, i_ne1, n1_ne, n1_lt, n1_le, i_lt1, i_le1, bd_s, nar_bi, nar_0, nar_1, if_pos, if_neg, ↓reduceIte, reduceCtorEq, eq_self, if_true, if_false, not_true_eq_false, not_false_eq_true, tp_k, tp_fI, tp_fL, tp_pI, tp_pL, tp_z0, tp_z1, tp_fR0, tp0_a, tp0_t, tp0_n, tp_fR1, tp1_a, tp1_t, tp1_n, h4, h5', up_at, up_off]; first | done | (with_reducible rfl; done))); try dsimp only) | (apply it_p; (focus (first | assumption | (simp (disch := first | assumption | omega | rfl) only [i_rem, i_pred, i_addn1, i_lit, i_n1, i_add, i_mul, i_sub, i_le, i_lt, i_eq, i_ne1, n1_ne, n1_lt, n1_le, i_lt1, i_le1, bd_s, nar_bi, nar_0, nar_1, if_pos, if_neg, ↓reduceIte, reduceCtorEq, eq_self, if_true, if_false, not_true_eq_false, not_false_eq_true, tp_k, tp_fI, tp_fL, tp_pI, tp_pL, tp_z0, tp_z1, tp_fR0, tp0_a, tp0_t, tp0_n, tp_fR1, tp1_a, tp1_t, tp1_n, h4, h5', up_at, up_off]; first | done | omega)))) | (apply it_n; (focus (first | assumption | (simp (disch := first | assumption | omega | rfl) only [i_rem, i_pred, i_addn1, i_lit, i_n1, i_add, i_mul, i_sub, i_le, i_lt, i_eq, i_ne1, n1_ne, n1_lt, n1_le, i_lt1, i_le1, bd_s, nar_bi, nar_0, nar_1, if_pos, if_neg, ↓reduceIte, reduceCtorEq, eq_self, if_true, if_false, not_true_eq_false, not_false_eq_true, tp_k, tp_fI, tp_fL, tp_pI, tp_pL, tp_z0, tp_z1, tp_fR0, tp0_a, tp0_t, tp0_n, tp_fR1, tp1_a, tp1_t, tp1_n, h4, h5', up_at, up_off]; first | done | omega)))))
    all_goals simp (disch := first | assumption | omega | rfl) only [i_rem, i_pred, i_addn1, i_lit, i_n1, i_add, i_mul, i_sub, i_le, i_lt, i_eq, i_ne1, n1_ne, n1_lt, n1_le, i_lt1, i_le1, bd_s, nar_bi, nar_0, nar_1, if_pos, if_neg, ↓reduceIte, reduceCtorEq, eq_self, if_true, if_false, not_true_eq_false, not_false_eq_true, tp_k, tp_fI, tp_fL, tp_pI, tp_pL, tp_z0, tp_z1, tp_fR0, tp0_a, tp0_t, tp0_n, tp_fR1, tp1_a, tp1_t, tp1_n, fX9_readMark_J82, Bool.false_eq_true]
theorem c_findKw (hN : 1200 < N) (h : TC n T m I L) {w : List Nat} (hw : wOk w) (h8 : L 1 8 = i64 (cB 32 w)) (h9 : I 1 9 = n1) : fX9_findKeyword N 1 (mk I L r) = some ((), mk (up I 1 9 (oi (kwI w))) L r) := by
  obtain ⟨h1, h2, h3, h4', h5, h6, h7⟩ := h
  obtain ⟨v, e, g⟩ := lp_st (F := fun n' u (v : Int32) => fX9_findKeyword_L2 N 1 n' u (mk (up I 1 9 v) L r)) (m := 20) (fun k v => v = oi (fd (fun j => decide (kwd j = w)) k)) (fun v => mk (up I 1 9 v) L r) (fun n' k v hk hv => by
    subst hv
    have hc := w_cmp (β := 32) (by omega) (by omega) (kwd_ok k hk) hw
    refine ⟨oi (fd (fun j => decide (kwd j = w)) (k + 1)), ?_, rfl⟩
    by_cases c : kwd k = w
    · have ef : fd (fun j => decide (kwd j = w)) (k + 1) = some k := fd_some.mpr ⟨by omega, decide_eq_true c, fun j hj => decide_eq_false (fun z => by
        have := kwd_inj k hk j (by omega) (c.trans z.symm); omega)⟩
      have c' := hc.mpr c
      rw [ef]
      simp (disch := first | assumption | omega | rfl) only [i_rem, i_pred, i_addn1, i_lit, i_n1, i_add, i_mul, i_sub, i_le, i_lt, i_eq, i_ne1, n1_ne, n1_lt, n1_le, i_lt1, i_le1, bd_s, nar_bi, nar_0, nar_1, if_pos, if_neg, ↓reduceIte, reduceCtorEq, eq_self, if_true, if_false, not_true_eq_false, not_false_eq_true, tp_k, tp_fI, tp_fL, tp_pI, tp_pL, tp_z0, tp_z1, tp_fR0, tp0_a, tp0_t, tp0_n, tp_fR1, tp1_a, tp1_t, tp1_n, fX9_findKeyword_L2, h7 k hk, h8, c', up_up]
      rfl
    · have ef : fd (fun j => decide (kwd j = w)) (k + 1) = fd (fun j => decide (kwd j = w)) k := by
        rw [fd, decide_eq_false c]
        cases fd (fun j => decide (kwd j = w)) k <;> rfl
      have c' : ¬ lg_cmp (i64 (cB 32 (kwd k))) (i64 (cB 32 w)) = i32 0 := fun z => c (hc.mp z)
      rw [ef]
      simp (disch := first | assumption | omega | rfl) only [i_rem, i_pred, i_addn1, i_lit, i_n1, i_add, i_mul, i_sub, i_le, i_lt, i_eq, i_ne1, n1_ne, n1_lt, n1_le, i_lt1, i_le1, bd_s, nar_bi, nar_0, nar_1, if_pos, if_neg, ↓reduceIte, reduceCtorEq, eq_self, if_true, if_false, not_true_eq_false, not_false_eq_true, tp_k, tp_fI, tp_fL, tp_pI, tp_pL, tp_z0, tp_z1, tp_fR0, tp0_a, tp0_t, tp0_n, tp_fR1, tp1_a, tp1_t, tp1_n, fX9_findKeyword_L2, h7 k hk, h8, c']) (fun n' v _ => by
    simp (disch := first | assumption | omega | rfl) only [i_rem, i_pred, i_addn1, i_lit, i_n1, i_add, i_mul, i_sub, i_le, i_lt, i_eq, i_ne1, n1_ne, n1_lt, n1_le, i_lt1, i_le1, bd_s, nar_bi, nar_0, nar_1, if_pos, if_neg, ↓reduceIte, reduceCtorEq, eq_self, if_true, if_false, not_true_eq_false, not_false_eq_true, tp_k, tp_fI, tp_fL, tp_pI, tp_pL, tp_z0, tp_z1, tp_fR0, tp0_a, tp0_t, tp0_n, tp_fR1, tp1_a, tp1_t, tp1_n, fX9_findKeyword_L2]) (n := N) (by omega) (s := n1) rfl
  rw [up_id h9] at e
  unfold fX9_findKeyword
  simp only [i_lit]
  rw [e, g]; rfl
theorem c_advance (hN : 1200 < N) (h : TC n T m I L) (hq : q ≤ n) (h4 : I 1 4 = i32 q) : ∃ J K, fX9_advance N 1 (mk I L r) = some ((), mk J K r) ∧ CK (nxT T n m q) J K ∧ FrT 1 Sc I J L K := by
  have hs := skK_le (T := T) (n := n) (q := q)
  have e1 := c_skip (N := N) (r := r) hN h hq h4
  have fr : FrT 1 Sc I (up (up I 1 4 (i32 (q + skK T n q))) 1 9 n1) L L := (FrT.rf.up (by unfold Sc; omega)).up (by unfold Sc; omega)
  have h' := TC_fr h fr
  have hn := h.2.1
  have hm := h.2.2.2.1
  unfold nxT
  generalize hP : q + skK T n q = p at fr h' e1
  have hpn : p ≤ n := by omega
  generalize hI : up (up I 1 4 (i32 p)) 1 9 n1 = J0 at fr h'
  have j4 : J0 1 4 = i32 p := by rw [← hI, up_ofk (by omega), up_self]
  have j9 : J0 1 9 = n1 := by rw [← hI, up_self]
  obtain ⟨k1, k2, k3, k4, k5, k6, k7⟩ := h'
  have start : ∀ X, (fX9_advance_J47 N 1 (mk J0 L r) = X) → (¬ (m ≤ p ∧ m < n)) → fX9_advance N 1 (mk I L r) = X := by
    intro X hX hc
    unfold fX9_advance
    by_cases c1 : p < m
    · repeat (first | (with_reducible apply bd_eq; (focus (simp (disch := first | assumption | omega | rfl) only [i_rem, i_pred, i_addn1, i_lit, i_n1, i_add, i_mul, i_sub, i_le, i_lt, i_eq, i_ne1, n1_ne, n1_lt, n1_le, i_lt1, i_le1, bd_s, nar_bi, nar_0, nar_1, if_pos, if_neg, ↓reduceIte, reduceCtorEq, eq_self, if_true, if_false, not_true_eq_false, not_false_eq_true, tp_k, tp_fI, tp_fL, tp_pI, tp_pL, tp_z0, tp_z1, tp_fR0, tp0_a, tp0_t, tp0_n, tp_fR1, tp1_a, tp1_t, tp1_n, e1, hI, j4, k3]; first | done | (with_reducible rfl; done))); try dsimp only) | (with_reducible apply it_p; (focus (first | assumption | (simp (disch := first | assumption | omega | rfl) only [i_rem, i_pred, i_addn1, i_lit, i_n1, i_add, i_mul, i_sub, i_le, i_lt, i_eq, i_ne1, n1_ne, n1_lt, n1_le, i_lt1, i_le1, bd_s, nar_bi, nar_0, nar_1, if_pos, if_neg, ↓reduceIte, reduceCtorEq, eq_self, if_true, if_false, not_true_eq_false, not_false_eq_true, tp_k, tp_fI, tp_fL, tp_pI, tp_pL, tp_z0, tp_z1, tp_fR0, tp0_a, tp0_t, tp0_n, tp_fR1, tp1_a, tp1_t, tp1_n, e1, hI, j4, k3]; first | done | omega)))) | (with_reducible apply it_n; (focus (first | assumption | (simp (disch := first | assumption | omega | rfl) only [i_rem, i_pred, i_addn1, i_lit, i_n1, i_add, i_mul, i_sub, i_le, i_lt, i_eq, i_ne1, n1_ne, n1_lt, n1_le, i_lt1, i_le1, bd_s, nar_bi, nar_0, nar_1, if_pos, if_neg, ↓reduceIte, reduceCtorEq, eq_self, if_true, if_false, not_true_eq_false, not_false_eq_true, tp_k, tp_fI, tp_fL, tp_pI, tp_pL, tp_z0, tp_z1, tp_fR0, tp0_a, tp0_t, tp0_n, tp_fR1, tp1_a, tp1_t, tp1_n, e1, hI, j4, k3]; first | done | omega)))))
      exact hX
    · have c2 : n ≤ m := by omega
      repeat (first | (with_reducible apply bd_eq; (focus (simp (disch := first | assumption | omega | rfl) only [i_rem, i_pred, i_addn1, i_lit, i_n1, i_add, i_mul, i_sub, i_le, i_lt, i_eq, i_ne1, n1_ne, n1_lt, n1_le, i_lt1, i_le1, bd_s, nar_bi, nar_0, nar_1, if_pos, if_neg, ↓reduceIte, reduceCtorEq, eq_self, if_true, if_false, not_true_eq_false, not_false_eq_true, tp_k, tp_fI, tp_fL, tp_pI, tp_pL, tp_z0, tp_z1, tp_fR0, tp0_a, tp0_t, tp0_n, tp_fR1, tp1_a, tp1_t, tp1_n, e1, hI, j4, k3, k1]; first | done | (with_reducible rfl; done))); try dsimp only) | (with_reducible apply it_p; (focus (first | assumption | (simp (disch := first | assumption | omega | rfl) only [i_rem, i_pred, i_addn1, i_lit, i_n1, i_add, i_mul, i_sub, i_le, i_lt, i_eq, i_ne1, n1_ne, n1_lt, n1_le, i_lt1, i_le1, bd_s, nar_bi, nar_0, nar_1, if_pos, if_neg, ↓reduceIte, reduceCtorEq, eq_self, if_true, if_false, not_true_eq_false, not_false_eq_true, tp_k, tp_fI, tp_fL, tp_pI, tp_pL, tp_z0, tp_z1, tp_fR0, tp0_a, tp0_t, tp0_n, tp_fR1, tp1_a, tp1_t, tp1_n, e1, hI, j4, k3, k1]; first | done | omega)))) | (with_reducible apply it_n; (focus (first | assumption | (simp (disch := first | assumption | omega | rfl) only [i_rem, i_pred, i_addn1, i_lit, i_n1, i_add, i_mul, i_sub, i_le, i_lt, i_eq, i_ne1, n1_ne, n1_lt, n1_le, i_lt1, i_le1, bd_s, nar_bi, nar_0, nar_1, if_pos, if_neg, ↓reduceIte, reduceCtorEq, eq_self, if_true, if_false, not_true_eq_false, not_false_eq_true, tp_k, tp_fI, tp_fL, tp_pI, tp_pL, tp_z0, tp_z1, tp_fR0, tp0_a, tp0_t, tp0_n, tp_fR1, tp1_a, tp1_t, tp1_n, e1, hI, j4, k3, k1]; first | done | omega)))))
      exact hX
  unfold tkB
  by_cases c1 : m ≤ p ∧ m < n
  · rw [if_pos c1]
    refine ⟨up (up J0 1 6 (i32 m)) 1 5 (i32 4), L, ?_, ⟨up_self, by rw [up_ofk (by omega), up_self], by rw [up_ofk (by omega), up_ofk (by omega)]; exact j4, by rw [up_ofk (by omega), up_ofk (by omega)]; exact j9, fun z => by dsimp only at z; omega, fun z => by dsimp only at z; omega⟩, (fr.up (by unfold Sc; omega)).up (by unfold Sc; omega)⟩
    unfold fX9_advance
    have c2 : ¬ p < m := by omega
    have c3 : ¬ n ≤ m := by omega
    repeat (first | (apply bd_eq; (focus (simp (disch := first | assumption | omega | rfl) only [i_rem, i_pred, i_addn1, i_lit, i_n1, i_add, i_mul, i_sub, i_le, i_lt, i_eq, i_ne1, n1_ne, n1_lt, n1_le, i_lt1, i_le1, bd_s, nar_bi, nar_0, nar_1, if_pos, if_neg, ↓reduceIte, reduceCtorEq, eq_self, if_true, if_false, not_true_eq_false, not_false_eq_true, tp_k, tp_fI, tp_fL, tp_pI, tp_pL, tp_z0, tp_z1, tp_fR0, tp0_a, tp0_t, tp0_n, tp_fR1, tp1_a, tp1_t, tp1_n, e1, hI, j4, k3, k1]; first | done | (with_reducible rfl; done))); try dsimp only) | (apply it_p; (focus (first | assumption | (simp (disch := first | assumption | omega | rfl) only [i_rem, i_pred, i_addn1, i_lit, i_n1, i_add, i_mul, i_sub, i_le, i_lt, i_eq, i_ne1, n1_ne, n1_lt, n1_le, i_lt1, i_le1, bd_s, nar_bi, nar_0, nar_1, if_pos, if_neg, ↓reduceIte, reduceCtorEq, eq_self, if_true, if_false, not_true_eq_false, not_false_eq_true, tp_k, tp_fI, tp_fL, tp_pI, tp_pL, tp_z0, tp_z1, tp_fR0, tp0_a, tp0_t, tp0_n, tp_fR1, tp1_a, tp1_t, tp1_n, e1, hI, j4, k3, k1]; first | done | omega)))) | (apply it_n; (focus (first | assumption | (simp (disch := first | assumption | omega | rfl) only [i_rem, i_pred, i_addn1, i_lit, i_n1, i_add, i_mul, i_sub, i_le, i_lt, i_eq, i_ne1, n1_ne, n1_lt, n1_le, i_lt1, i_le1, bd_s, nar_bi, nar_0, nar_1, if_pos, if_neg, ↓reduceIte, reduceCtorEq, eq_self, if_true, if_false, not_true_eq_false, not_false_eq_true, tp_k, tp_fI, tp_fL, tp_pI, tp_pL, tp_z0, tp_z1, tp_fR0, tp0_a, tp0_t, tp0_n, tp_fR1, tp1_a, tp1_t, tp1_n, e1, hI, j4, k3, k1]; first | done | omega)))))
    all_goals rfl
  · rw [if_neg c1]
    by_cases c2 : n ≤ p
    · rw [if_pos c2]
      refine ⟨up (up J0 1 6 (i32 n)) 1 5 (i32 0), L, start _ ?_ c1, ⟨up_self, by rw [up_ofk (by omega), up_self], by rw [up_ofk (by omega), up_ofk (by omega)]; exact j4, by rw [up_ofk (by omega), up_ofk (by omega)]; exact j9, fun z => by dsimp only at z; omega, fun z => by dsimp only at z; omega⟩, (fr.up (by unfold Sc; omega)).up (by unfold Sc; omega)⟩
      unfold fX9_advance_J47
      repeat (first | (apply bd_eq; (focus (simp (disch := first | assumption | omega | rfl) only [i_rem, i_pred, i_addn1, i_lit, i_n1, i_add, i_mul, i_sub, i_le, i_lt, i_eq, i_ne1, n1_ne, n1_lt, n1_le, i_lt1, i_le1, bd_s, nar_bi, nar_0, nar_1, if_pos, if_neg, ↓reduceIte, reduceCtorEq, eq_self, if_true, if_false, not_true_eq_false, not_false_eq_true, tp_k, tp_fI, tp_fL, tp_pI, tp_pL, tp_z0, tp_z1, tp_fR0, tp0_a, tp0_t, tp0_n, tp_fR1, tp1_a, tp1_t, tp1_n, j4, k1]; first | done | (with_reducible rfl; done))); try dsimp only) | (apply it_p; (focus (first | assumption | (simp (disch := first | assumption | omega | rfl) only [i_rem, i_pred, i_addn1, i_lit, i_n1, i_add, i_mul, i_sub, i_le, i_lt, i_eq, i_ne1, n1_ne, n1_lt, n1_le, i_lt1, i_le1, bd_s, nar_bi, nar_0, nar_1, if_pos, if_neg, ↓reduceIte, reduceCtorEq, eq_self, if_true, if_false, not_true_eq_false, not_false_eq_true, tp_k, tp_fI, tp_fL, tp_pI, tp_pL, tp_z0, tp_z1, tp_fR0, tp0_a, tp0_t, tp0_n, tp_fR1, tp1_a, tp1_t, tp1_n, j4, k1]; first | done | omega)))) | (apply it_n; (focus (first | assumption | (simp (disch := first | assumption | omega | rfl) only [i_rem, i_pred, i_addn1, i_lit, i_n1, i_add, i_mul, i_sub, i_le, i_lt, i_eq, i_ne1, n1_ne, n1_lt, n1_le, i_lt1, i_le1, bd_s, nar_bi, nar_0, nar_1, if_pos, if_neg, ↓reduceIte, reduceCtorEq, eq_self, if_true, if_false, not_true_eq_false, not_false_eq_true, tp_k, tp_fI, tp_fL, tp_pI, tp_pL, tp_z0, tp_z1, tp_fR0, tp0_a, tp0_t, tp0_n, tp_fR1, tp1_a, tp1_t, tp1_n, j4, k1]; first | done | omega)))))
      all_goals rfl
    · rw [if_neg c2]
      have fr2 := fr.up (k := 6) (v := i32 p) (by unfold Sc; omega)
      obtain ⟨J, K, e2, g1, g2, g3, g4, g5⟩ := c_readRun (N := N) (r := r) (p := p) hN (TC_fr h fr2) hpn (by rw [up_ofk (by omega)]; exact j4)
      rw [up_self] at g3
      rw [up_ofk (by omega), j9] at g4
      have fr3 := fr2.tr g5
      have hT := TC_fr h fr3
      unfold tkA
      by_cases hA : isA (T p) = true
      · rw [if_pos hA]
        have r1 := rn_1 (show p < n by omega) hA
        have r2 := rn_le (T := T) (n := n) (p := p)
        have hin : ∀ j, j < rn T n p → isA (T (p + j)) = true := fun j hj => rn_in hj
        have hsum := lcdg (T := T) (n := n) (p := p) _ (Nat.le_refl _)
        obtain ⟨a1, a2, a3⟩ := g1
        by_cases hk : kdR (lc T p (rn T n p)) (dg T p (rn T n p)) = 1
        · have hd0 : dg T p (rn T n p) = 0 ∧ lc T p (rn T n p) ≤ 7 := by
            unfold kdR at hk
            split at hk
            · assumption
            · split at hk <;> omega
          have hw : wOk (wl T p (rn T n p)) := ⟨by rw [wl_len]; exact r1, by rw [wl_len]; omega, wl_in _ hd0.1 hin⟩
          have e3 := c_findKw (N := N) (r := r) hN hT hw (a2 hd0.1) g4
          rw [hk] at g2 ⊢
          refine ⟨up J 1 9 (oi (kwI (wl T p (rn T n p)))), K, start _ ?_ c1, ⟨by rw [up_ofk (by omega)]; exact g2, by rw [up_ofk (by omega)]; exact g3, by rw [up_ofk (by omega)]; exact a1, up_self, fun _ => a2 hd0.1, fun z => by dsimp only at z; omega⟩, fr3.up (by unfold Sc; omega)⟩
          unfold fX9_advance_J47
          repeat (first | (apply bd_eq; (focus (simp (disch := first | assumption | omega | rfl) only [i_rem, i_pred, i_addn1, i_lit, i_n1, i_add, i_mul, i_sub, i_le, i_lt, i_eq, i_ne1, n1_ne, n1_lt, n1_le, i_lt1, i_le1, bd_s, nar_bi, nar_0, nar_1, if_pos, if_neg, ↓reduceIte, reduceCtorEq, eq_self, if_true, if_false, not_true_eq_false, not_false_eq_true, tp_k, tp_fI, tp_fL, tp_pI, tp_pL, tp_z0, tp_z1, tp_fR0, tp0_a, tp0_t, tp0_n, tp_fR1, tp1_a, tp1_t, tp1_n, j4, k1, e2, a1, g3, g2, e3]; first | done | (with_reducible rfl; done))); try dsimp only) | (apply it_p; (focus (first | assumption | (simp (disch := first | assumption | omega | rfl) only [i_rem, i_pred, i_addn1, i_lit, i_n1, i_add, i_mul, i_sub, i_le, i_lt, i_eq, i_ne1, n1_ne, n1_lt, n1_le, i_lt1, i_le1, bd_s, nar_bi, nar_0, nar_1, if_pos, if_neg, ↓reduceIte, reduceCtorEq, eq_self, if_true, if_false, not_true_eq_false, not_false_eq_true, tp_k, tp_fI, tp_fL, tp_pI, tp_pL, tp_z0, tp_z1, tp_fR0, tp0_a, tp0_t, tp0_n, tp_fR1, tp1_a, tp1_t, tp1_n, j4, k1, e2, a1, g3, g2, e3]; first | done | omega)))) | (apply it_n; (focus (first | assumption | (simp (disch := first | assumption | omega | rfl) only [i_rem, i_pred, i_addn1, i_lit, i_n1, i_add, i_mul, i_sub, i_le, i_lt, i_eq, i_ne1, n1_ne, n1_lt, n1_le, i_lt1, i_le1, bd_s, nar_bi, nar_0, nar_1, if_pos, if_neg, ↓reduceIte, reduceCtorEq, eq_self, if_true, if_false, not_true_eq_false, not_false_eq_true, tp_k, tp_fI, tp_fL, tp_pI, tp_pL, tp_z0, tp_z1, tp_fR0, tp0_a, tp0_t, tp0_n, tp_fR1, tp1_a, tp1_t, tp1_n, j4, k1, e2, a1, g3, g2, e3]; first | done | omega)))))
          all_goals rfl
        · have hkk : kdR (lc T p (rn T n p)) (dg T p (rn T n p)) = 2 ∨ kdR (lc T p (rn T n p)) (dg T p (rn T n p)) = 4 := by
            unfold kdR at hk ⊢
            split
            · rename_i z; rw [if_pos z] at hk; omega
            · split <;> omega
          refine ⟨J, K, start _ ?_ c1, ⟨g2, g3, a1, by dsimp only; rw [if_neg hk]; exact g4, fun z => absurd z hk, fun z => ?_⟩, fr3⟩
          · unfold fX9_advance_J47
            have hk' : ¬ i32 (kdR (lc T p (rn T n p)) (dg T p (rn T n p))) = i32 1 := by rw [i_eq (by omega) (by omega)]; exact hk
            repeat (first | (apply bd_eq; (focus (simp (disch := first | assumption | omega | rfl) only [i_rem, i_pred, i_addn1, i_lit, i_n1, i_add, i_mul, i_sub, i_le, i_lt, i_eq, i_ne1, n1_ne, n1_lt, n1_le, i_lt1, i_le1, bd_s, nar_bi, nar_0, nar_1, if_pos, if_neg, ↓reduceIte, reduceCtorEq, eq_self, if_true, if_false, not_true_eq_false, not_false_eq_true, tp_k, tp_fI, tp_fL, tp_pI, tp_pL, tp_z0, tp_z1, tp_fR0, tp0_a, tp0_t, tp0_n, tp_fR1, tp1_a, tp1_t, tp1_n, j4, k1, e2, a1, g3, g2]; first | done | (with_reducible rfl; done))); try dsimp only) | (apply it_p; (focus (first | assumption | (simp (disch := first | assumption | omega | rfl) only [i_rem, i_pred, i_addn1, i_lit, i_n1, i_add, i_mul, i_sub, i_le, i_lt, i_eq, i_ne1, n1_ne, n1_lt, n1_le, i_lt1, i_le1, bd_s, nar_bi, nar_0, nar_1, if_pos, if_neg, ↓reduceIte, reduceCtorEq, eq_self, if_true, if_false, not_true_eq_false, not_false_eq_true, tp_k, tp_fI, tp_fL, tp_pI, tp_pL, tp_z0, tp_z1, tp_fR0, tp0_a, tp0_t, tp0_n, tp_fR1, tp1_a, tp1_t, tp1_n, j4, k1, e2, a1, g3, g2]; first | done | omega)))) | (apply it_n; (focus (first | assumption | (simp (disch := first | assumption | omega | rfl) only [i_rem, i_pred, i_addn1, i_lit, i_n1, i_add, i_mul, i_sub, i_le, i_lt, i_eq, i_ne1, n1_ne, n1_lt, n1_le, i_lt1, i_le1, bd_s, nar_bi, nar_0, nar_1, if_pos, if_neg, ↓reduceIte, reduceCtorEq, eq_self, if_true, if_false, not_true_eq_false, not_false_eq_true, tp_k, tp_fI, tp_fL, tp_pI, tp_pL, tp_z0, tp_z1, tp_fR0, tp0_a, tp0_t, tp0_n, tp_fR1, tp1_a, tp1_t, tp1_n, j4, k1, e2, a1, g3, g2]; first | done | omega)))))
            all_goals rfl
          · dsimp only at z ⊢
            have hl0 : lc T p (rn T n p) = 0 := by
              rcases z with z | z
              · unfold kdR at z
                split at z
                · omega
                · split at z
                  · omega
                  · omega
              · omega
            exact a3 hl0
      · rw [if_neg hA]
        have hA' : isA (T p) = false := by
          cases c : isA (T p) with
          | false => rfl
          | true => exact absurd c hA
        have r0 := rn_0 (n := n) hA'
        obtain ⟨a1, a2, a3⟩ := g1
        rw [r0, Nat.add_zero] at a1
        have e3 := c_readMark (N := N) (r := r) hT (show p < n by omega) a1
        have kM : (if isM (T p) then 3 else 4) ≠ 1 ∧ (if isM (T p) then 3 else 4) < 5 := by split <;> omega
        refine ⟨up (up (up J 1 7 (i32 (T p))) 1 4 (i32 (p + 1))) 1 5 (i32 (if isM (T p) then 3 else 4)), K, start _ ?_ c1, ⟨up_self, ?_, ?_, ?_, fun z => absurd z kM.1, fun _ => ?_⟩, ((fr3.up (by unfold Sc; omega)).up (by unfold Sc; omega)).up (by unfold Sc; omega)⟩
        · unfold fX9_advance_J47
          repeat (first | (apply bd_eq; (focus (simp (disch := first | assumption | omega | rfl) only [i_rem, i_pred, i_addn1, i_lit, i_n1, i_add, i_mul, i_sub, i_le, i_lt, i_eq, i_ne1, n1_ne, n1_lt, n1_le, i_lt1, i_le1, bd_s, nar_bi, nar_0, nar_1, if_pos, if_neg, ↓reduceIte, reduceCtorEq, eq_self, if_true, if_false, not_true_eq_false, not_false_eq_true, tp_k, tp_fI, tp_fL, tp_pI, tp_pL, tp_z0, tp_z1, tp_fR0, tp0_a, tp0_t, tp0_n, tp_fR1, tp1_a, tp1_t, tp1_n, j4, k1, e2, a1, g3, e3]; first | done | (with_reducible rfl; done))); try dsimp only) | (apply it_p; (focus (first | assumption | (simp (disch := first | assumption | omega | rfl) only [i_rem, i_pred, i_addn1, i_lit, i_n1, i_add, i_mul, i_sub, i_le, i_lt, i_eq, i_ne1, n1_ne, n1_lt, n1_le, i_lt1, i_le1, bd_s, nar_bi, nar_0, nar_1, if_pos, if_neg, ↓reduceIte, reduceCtorEq, eq_self, if_true, if_false, not_true_eq_false, not_false_eq_true, tp_k, tp_fI, tp_fL, tp_pI, tp_pL, tp_z0, tp_z1, tp_fR0, tp0_a, tp0_t, tp0_n, tp_fR1, tp1_a, tp1_t, tp1_n, j4, k1, e2, a1, g3, e3]; first | done | omega)))) | (apply it_n; (focus (first | assumption | (simp (disch := first | assumption | omega | rfl) only [i_rem, i_pred, i_addn1, i_lit, i_n1, i_add, i_mul, i_sub, i_le, i_lt, i_eq, i_ne1, n1_ne, n1_lt, n1_le, i_lt1, i_le1, bd_s, nar_bi, nar_0, nar_1, if_pos, if_neg, ↓reduceIte, reduceCtorEq, eq_self, if_true, if_false, not_true_eq_false, not_false_eq_true, tp_k, tp_fI, tp_fL, tp_pI, tp_pL, tp_z0, tp_z1, tp_fR0, tp0_a, tp0_t, tp0_n, tp_fR1, tp1_a, tp1_t, tp1_n, j4, k1, e2, a1, g3, e3]; first | done | omega)))))
          all_goals rfl
        · rw [up_ofk (by omega), up_ofk (by omega), up_ofk (by omega)]; exact g3
        · rw [up_ofk (by omega), up_self]
        · dsimp only
          rw [if_neg kM.1, up_ofk (by omega), up_ofk (by omega), up_ofk (by omega)]; exact g4
        · rw [up_ofk (by omega), up_ofk (by omega), up_self]
end
