/-! ===== A SHORE, LINE BY LINE ===== -/
def u1 {α : Type} (f : Nat → α) (k : Nat) (v : α) : Nat → α := fun j => if j = k then v else f j
theorem u1_eq {α : Type} {f : Nat → α} {k : Nat} {v : α} : u1 f k v k = v := by rw [u1, if_pos rfl]
theorem u1_ne {α : Type} {f : Nat → α} {k j : Nat} {v : α} (h : j ≠ k) : u1 f k v j = f j := by rw [u1, if_neg h]
def nmO (n : Nat) (T : Nat → Nat) (m : Nat) (H : Nat → Nat) (W : Nat → List Nat) (t : Tok) : Oc := if isNm t then (if tkn H W t.2.2.2.1 then .inl (3, t.2.1) else .inr (nt n T m t)) else .inl (1, t.2.1)
def ShR (H : Nat → Nat) (W : Nat → List Nat) (c : Bool) (I : Nat → Nat → Int32) (L : Nat → Nat → Int64) : Prop := RS 15 H I ∧ NS 15 H W L ∧ I 15 15 = bi c
/-- the frame of a shore that is read -/
def FrW (I J : Nat → Nat → Int32) (L K : Nat → Nat → Int64) : Prop := (∀ z, z ≠ 1 → (z < 15 ∨ 26 ≤ z) → J z = I z) ∧ (∀ k, k < 4 → J 1 k = I 1 k) ∧ (∀ z, z ≠ 1 → (z < 15 ∨ 26 ≤ z) → K z = L z) ∧ J 15 16 = I 15 16
section
variable {I J : Nat → Nat → Int32} {L K : Nat → Nat → Int64} {r : Bool} {N : Nat} {T : Nat → Nat} {n m : Nat} {t : Tok} {e : Nat × Nat} {o : Oc} {H : Nat → Nat} {W : Nat → List Nat} {c : Bool}
theorem FrW.rf : FrW I I L L := ⟨fun _ _ _ => rfl, fun _ _ => rfl, fun _ _ _ => rfl, rfl⟩
theorem FrW.tr {I2 : Nat → Nat → Int32} {L2 : Nat → Nat → Int64} (h : FrW I J L K) (g : FrW J I2 K L2) : FrW I I2 L L2 := ⟨fun z h1 h2 => (g.1 z h1 h2).trans (h.1 z h1 h2), fun k hk => (g.2.1 k hk).trans (h.2.1 k hk), fun z h1 h2 => (g.2.2.1 z h1 h2).trans (h.2.2.1 z h1 h2), g.2.2.2.trans h.2.2.2⟩
theorem FrT.w (h : FrT 1 S4c I J L K) : FrW I J L K := ⟨fun z h1 _ => h.1 z h1, fun k hk => h.2.1 k (by unfold S4c; omega), fun z h1 _ => h.2.2 z h1, by rw [h.1 15 (by omega)]⟩
theorem ShR_t (h : ShR H W c I L) (f : FrT 1 S4c I J L K) : ShR H W c J K := ⟨RS_of (fun q z1 z2 => f.1 q (by omega)) h.1, NS_of (fun q z1 z2 => f.2.2 q (by omega)) h.2.1, by rw [f.1 15 (by omega)]; exact h.2.2⟩
theorem CqR_s (h : CqR n T m o I L) (f1 : J 1 = I 1) (f2 : J 2 = I 2) (f3 : K 1 = L 1) (f4 : K 3 = L 3) : CqR n T m o J K := by
  obtain ⟨⟨h1, h2, h3, h4, h5, h6, h7⟩, h8⟩ := h
  refine ⟨⟨by rw [f1]; exact h1, h2, by rw [f1]; exact h3, h4, fun k hk => by rw [f2]; exact h5 k hk, h6, fun k hk => by rw [f4]; exact h7 k hk⟩, ?_⟩
  cases o with
  | inl e => dsimp only at h8 ⊢; rw [f1]; exact h8
  | inr t => dsimp only at h8 ⊢; unfold CK at *; rw [f1, f3]; exact h8
theorem oN_R {a b : Nat} (h : isR (oN n T m a b o) = true) : isR o = true ∧ a ≤ vN a b o ∧ vN a b o ≤ b := by
  cases o with
  | inl e => cases h
  | inr t =>
    refine ⟨rfl, ?_⟩
    unfold oN at h
    unfold vN
    dsimp only at h ⊢
    by_cases c1 : t.1 = 2
    · rw [if_pos c1] at h
      by_cases c2 : a ≤ t.2.2.2.2 ∧ t.2.2.2.2 ≤ b
      · rw [if_pos ⟨c1, c2⟩]; exact c2
      · rw [if_neg c2] at h; cases h
    · rw [if_neg c1] at h; cases h
theorem nmO_R (h : isR (nmO n T m H W t) = true) : isNm t = true ∧ tkn H W t.2.2.2.1 = false ∧ nmO n T m H W t = .inr (nt n T m t) := by
  unfold nmO at h ⊢
  by_cases c1 : isNm t = true
  · rw [if_pos c1] at h ⊢
    cases c2 : tkn H W t.2.2.2.1 with
    | true => rw [c2] at h; cases h
    | false => exact ⟨c1, rfl, rfl⟩
  · rw [if_neg c1] at h; cases h
theorem isNm_w (hk : tOk n t) (h : isNm t = true) : wOk t.2.2.2.1 := hk.2.2.2.1 (of_decide_eq_true h).1
theorem fault_0 (h : CqR n T m o I L) : (isR o = true → I 1 10 = i32 0) ∧ (isR o = false → ¬ I 1 10 = i32 0) := by
  cases o with
  | inl e =>
    obtain ⟨h1, h2, h3, h4, h5, h6⟩ := h
    refine ⟨fun z => (by cases z), fun _ => ?_⟩
    rw [h2, i_eq (by omega) (by omega)]; omega
  | inr t => exact ⟨fun _ => h.2.2.1, fun z => by cases z⟩
theorem c_isTold (hN : 1200 < N) (hO : hOk H) (hn : nOk H W) (hs : ShR H W c I L) {w : List Nat} (hw : wOk w) : fX8_isTold N 15 (i64 (cB 32 w)) (mk I L r) = some (bi (tkn H W w), mk I L r) := by
  have o0 := hO.1; have o1 := hO.2.1; have o2 := hO.2.2.1; have o3 := hO.2.2.2.1; have o4 := hO.2.2.2.2.1; have o5 := hO.2.2.2.2.2.1
  obtain ⟨⟨⟨r0, r6, r9, r4, r14⟩, _⟩, ⟨n1', n2', n3'⟩, _⟩ := hs
  have e1 := c_indexOf (N := N) (I := I) (r := r) (q := 16) (z := 6) (s := H 0) (Wf := fun i => W i) hN s51_K s51_N (by omega) o0 n1' hn.1 hw
  have e2 := c_indexOf (N := N) (I := I) (r := r) (q := 20) (z := 4) (s := H 1) (Wf := fun i => W (6 + i)) hN s57_K s57_N (by omega) o1 n2' hn.2.1 hw
  have e3 := c_indexOf (N := N) (I := I) (r := r) (q := 22) (z := 6) (s := H 2) (Wf := fun i => W (10 + i)) hN s510_K s510_N (by omega) o2 n3' hn.2.2 hw
  have x1 := oi_ex (P := fun i => decide (W i = w)) (s := H 0) (by omega)
  have x2 := oi_ex (P := fun i => decide (W (6 + i) = w)) (s := H 1) (by omega)
  have x3 := oi_ex (P := fun i => decide (W (10 + i) = w)) (s := H 2) (by omega)
  unfold fX8_isTold tkn
  cases c1 : exb (fun i => decide (W i = w)) (H 0) with
  | true =>
    have y1 : ¬ oi (fd (fun i => decide (W i = w)) (H 0)) = n1 := fun z => by rw [x1.mp z] at c1; cases c1
    repeat (first | (apply bd_eq; (focus (simp (disch := first | assumption | omega | rfl) only [s5_k, s5_fI, s5_fL, s5_pI, s5_pL, s5_z0, s5_z1, s5_fR1, s51_a, s51_t, s51_n, s5_fR2, s52_a, s52_t, s52_n, s5_fR3, s53_a, s53_t, s53_n, s5_fR5, s55_a, s55_t, s55_n, s5_fR7, s57_a, s57_t, s57_n, s5_fR8, s58_a, s58_t, s58_n, s5_fR10, s510_a, s510_t, s510_n, s5_fR11, s511_a, s511_t, s511_n, s5_fR12, s512_a, s512_t, s512_n, s5_fR13, s513_a, s513_t, s513_n, i_lit, i_n1, r0, e1]; first | done | (with_reducible rfl; done))); try dsimp only) | (apply it_p; (focus (first | assumption | (simp (disch := first | assumption | omega | rfl) only [s5_k, s5_fI, s5_fL, s5_pI, s5_pL, s5_z0, s5_z1, s5_fR1, s51_a, s51_t, s51_n, s5_fR2, s52_a, s52_t, s52_n, s5_fR3, s53_a, s53_t, s53_n, s5_fR5, s55_a, s55_t, s55_n, s5_fR7, s57_a, s57_t, s57_n, s5_fR8, s58_a, s58_t, s58_n, s5_fR10, s510_a, s510_t, s510_n, s5_fR11, s511_a, s511_t, s511_n, s5_fR12, s512_a, s512_t, s512_n, s5_fR13, s513_a, s513_t, s513_n, i_lit, i_n1, r0, e1]; first | done | omega)))) | (apply it_n; (focus (first | assumption | (simp (disch := first | assumption | omega | rfl) only [s5_k, s5_fI, s5_fL, s5_pI, s5_pL, s5_z0, s5_z1, s5_fR1, s51_a, s51_t, s51_n, s5_fR2, s52_a, s52_t, s52_n, s5_fR3, s53_a, s53_t, s53_n, s5_fR5, s55_a, s55_t, s55_n, s5_fR7, s57_a, s57_t, s57_n, s5_fR8, s58_a, s58_t, s58_n, s5_fR10, s510_a, s510_t, s510_n, s5_fR11, s511_a, s511_t, s511_n, s5_fR12, s512_a, s512_t, s512_n, s5_fR13, s513_a, s513_t, s513_n, i_lit, i_n1, r0, e1]; first | done | omega)))))
    all_goals rfl
  | false =>
    have y1 := x1.mpr c1
    cases c2 : exb (fun i => decide (W (6 + i) = w)) (H 1) with
    | true =>
      have y2 : ¬ oi (fd (fun i => decide (W (6 + i) = w)) (H 1)) = n1 := fun z => by rw [x2.mp z] at c2; cases c2
      repeat (first | (apply bd_eq; (focus (simp (disch := first | assumption | omega | rfl) only [s5_k, s5_fI, s5_fL, s5_pI, s5_pL, s5_z0, s5_z1, s5_fR1, s51_a, s51_t, s51_n, s5_fR2, s52_a, s52_t, s52_n, s5_fR3, s53_a, s53_t, s53_n, s5_fR5, s55_a, s55_t, s55_n, s5_fR7, s57_a, s57_t, s57_n, s5_fR8, s58_a, s58_t, s58_n, s5_fR10, s510_a, s510_t, s510_n, s5_fR11, s511_a, s511_t, s511_n, s5_fR12, s512_a, s512_t, s512_n, s5_fR13, s513_a, s513_t, s513_n, i_lit, i_n1, r0, r6, e1, e2]; first | done | (with_reducible rfl; done))); try dsimp only) | (apply it_p; (focus (first | assumption | (simp (disch := first | assumption | omega | rfl) only [s5_k, s5_fI, s5_fL, s5_pI, s5_pL, s5_z0, s5_z1, s5_fR1, s51_a, s51_t, s51_n, s5_fR2, s52_a, s52_t, s52_n, s5_fR3, s53_a, s53_t, s53_n, s5_fR5, s55_a, s55_t, s55_n, s5_fR7, s57_a, s57_t, s57_n, s5_fR8, s58_a, s58_t, s58_n, s5_fR10, s510_a, s510_t, s510_n, s5_fR11, s511_a, s511_t, s511_n, s5_fR12, s512_a, s512_t, s512_n, s5_fR13, s513_a, s513_t, s513_n, i_lit, i_n1, r0, r6, e1, e2]; first | done | omega)))) | (apply it_n; (focus (first | assumption | (simp (disch := first | assumption | omega | rfl) only [s5_k, s5_fI, s5_fL, s5_pI, s5_pL, s5_z0, s5_z1, s5_fR1, s51_a, s51_t, s51_n, s5_fR2, s52_a, s52_t, s52_n, s5_fR3, s53_a, s53_t, s53_n, s5_fR5, s55_a, s55_t, s55_n, s5_fR7, s57_a, s57_t, s57_n, s5_fR8, s58_a, s58_t, s58_n, s5_fR10, s510_a, s510_t, s510_n, s5_fR11, s511_a, s511_t, s511_n, s5_fR12, s512_a, s512_t, s512_n, s5_fR13, s513_a, s513_t, s513_n, i_lit, i_n1, r0, r6, e1, e2]; first | done | omega)))))
      all_goals rfl
    | false =>
      have y2 := x2.mpr c2
      cases c3 : exb (fun i => decide (W (10 + i) = w)) (H 2) with
      | true =>
        have y3 : ¬ oi (fd (fun i => decide (W (10 + i) = w)) (H 2)) = n1 := fun z => by rw [x3.mp z] at c3; cases c3
        repeat (first | (apply bd_eq; (focus (simp (disch := first | assumption | omega | rfl) only [s5_k, s5_fI, s5_fL, s5_pI, s5_pL, s5_z0, s5_z1, s5_fR1, s51_a, s51_t, s51_n, s5_fR2, s52_a, s52_t, s52_n, s5_fR3, s53_a, s53_t, s53_n, s5_fR5, s55_a, s55_t, s55_n, s5_fR7, s57_a, s57_t, s57_n, s5_fR8, s58_a, s58_t, s58_n, s5_fR10, s510_a, s510_t, s510_n, s5_fR11, s511_a, s511_t, s511_n, s5_fR12, s512_a, s512_t, s512_n, s5_fR13, s513_a, s513_t, s513_n, i_lit, i_n1, r0, r6, r9, e1, e2, e3]; first | done | (with_reducible rfl; done))); try dsimp only) | (apply it_p; (focus (first | assumption | (simp (disch := first | assumption | omega | rfl) only [s5_k, s5_fI, s5_fL, s5_pI, s5_pL, s5_z0, s5_z1, s5_fR1, s51_a, s51_t, s51_n, s5_fR2, s52_a, s52_t, s52_n, s5_fR3, s53_a, s53_t, s53_n, s5_fR5, s55_a, s55_t, s55_n, s5_fR7, s57_a, s57_t, s57_n, s5_fR8, s58_a, s58_t, s58_n, s5_fR10, s510_a, s510_t, s510_n, s5_fR11, s511_a, s511_t, s511_n, s5_fR12, s512_a, s512_t, s512_n, s5_fR13, s513_a, s513_t, s513_n, i_lit, i_n1, r0, r6, r9, e1, e2, e3]; first | done | omega)))) | (apply it_n; (focus (first | assumption | (simp (disch := first | assumption | omega | rfl) only [s5_k, s5_fI, s5_fL, s5_pI, s5_pL, s5_z0, s5_z1, s5_fR1, s51_a, s51_t, s51_n, s5_fR2, s52_a, s52_t, s52_n, s5_fR3, s53_a, s53_t, s53_n, s5_fR5, s55_a, s55_t, s55_n, s5_fR7, s57_a, s57_t, s57_n, s5_fR8, s58_a, s58_t, s58_n, s5_fR10, s510_a, s510_t, s510_n, s5_fR11, s511_a, s511_t, s511_n, s5_fR12, s512_a, s512_t, s512_n, s5_fR13, s513_a, s513_t, s513_n, i_lit, i_n1, r0, r6, r9, e1, e2, e3]; first | done | omega)))))
        all_goals rfl
      | false =>
        have y3 := x3.mpr c3
        repeat (first | (apply bd_eq; (focus (simp (disch := first | assumption | omega | rfl) only [s5_k, s5_fI, s5_fL, s5_pI, s5_pL, s5_z0, s5_z1, s5_fR1, s51_a, s51_t, s51_n, s5_fR2, s52_a, s52_t, s52_n, s5_fR3, s53_a, s53_t, s53_n, s5_fR5, s55_a, s55_t, s55_n, s5_fR7, s57_a, s57_t, s57_n, s5_fR8, s58_a, s58_t, s58_n, s5_fR10, s510_a, s510_t, s510_n, s5_fR11, s511_a, s511_t, s511_n, s5_fR12, s512_a, s512_t, s512_n, s5_fR13, s513_a, s513_t, s513_n, i_lit, i_n1, r0, r6, r9, e1, e2, e3]; first | done | (with_reducible rfl; done))); try dsimp only) | (apply it_p; (focus (first | assumption | (simp (disch := first | assumption | omega | rfl) only [s5_k, s5_fI, s5_fL, s5_pI, s5_pL, s5_z0, s5_z1, s5_fR1, s51_a, s51_t, s51_n, s5_fR2, s52_a, s52_t, s52_n, s5_fR3, s53_a, s53_t, s53_n, s5_fR5, s55_a, s55_t, s55_n, s5_fR7, s57_a, s57_t, s57_n, s5_fR8, s58_a, s58_t, s58_n, s5_fR10, s510_a, s510_t, s510_n, s5_fR11, s511_a, s511_t, s511_n, s5_fR12, s512_a, s512_t, s512_n, s5_fR13, s513_a, s513_t, s513_n, i_lit, i_n1, r0, r6, r9, e1, e2, e3]; first | done | omega)))) | (apply it_n; (focus (first | assumption | (simp (disch := first | assumption | omega | rfl) only [s5_k, s5_fI, s5_fL, s5_pI, s5_pL, s5_z0, s5_z1, s5_fR1, s51_a, s51_t, s51_n, s5_fR2, s52_a, s52_t, s52_n, s5_fR3, s53_a, s53_t, s53_n, s5_fR5, s55_a, s55_t, s55_n, s5_fR7, s57_a, s57_t, s57_n, s5_fR8, s58_a, s58_t, s58_n, s5_fR10, s510_a, s510_t, s510_n, s5_fR11, s511_a, s511_t, s511_n, s5_fR12, s512_a, s512_t, s512_n, s5_fR13, s513_a, s513_t, s513_n, i_lit, i_n1, r0, r6, r9, e1, e2, e3]; first | done | omega)))))
        all_goals rfl
theorem c_newName (hN : 1200 < N) (hO : hOk H) (hn : nOk H W) (hs : ShR H W c I L) (h : CqR n T m (.inr t) I L) : ∃ J K, fX8_takeNewName N 15 1 (mk I L r) = some (L 1 8, mk J K r) ∧ CqR n T m (nmO n T m H W t) J K ∧ FrT 1 S4c I J L K := by
  have e1 := c_atName (N := N) (r := r) h
  unfold nmO
  cases c1 : isNm t with
  | true =>
    have hw := isNm_w h.2.2.2 c1
    have h8 : L 1 8 = i64 (cB 32 t.2.2.2.1) := h.2.1.2.2.2.2.1 (of_decide_eq_true c1).1
    have e2 := c_isTold (N := N) (r := r) hN hO hn hs hw
    rw [← h8] at e2
    rw [c1] at e1
    simp only [if_true]
    cases c2 : tkn H W t.2.2.2.1 with
    | true =>
      rw [c2] at e2
      obtain ⟨J, e3, g1, g2⟩ := c_failR (N := N) (r := r) (k := 3) h (by omega)
      refine ⟨J, L, ?_, g1, g2⟩
      unfold fX8_takeNewName
      repeat (first | (apply bd_eq; (focus (simp (disch := first | assumption | omega | rfl) only [i_rem, i_pred, i_addn1, i_lit, i_n1, i_add, i_mul, i_sub, i_le, i_lt, i_eq, i_ne1, n1_ne, n1_lt, n1_le, i_lt1, i_le1, bd_s, nar_bi, nar_0, nar_1, if_pos, if_neg, ↓reduceIte, reduceCtorEq, eq_self, if_true, if_false, not_true_eq_false, not_false_eq_true, tp_k, tp_fI, tp_fL, tp_pI, tp_pL, tp_z0, tp_z1, tp_fR0, tp0_a, tp0_t, tp0_n, tp_fR1, tp1_a, tp1_t, tp1_n, s5_k, s5_fI, s5_fL, s5_pI, s5_pL, s5_z0, s5_z1, s5_fR1, s51_a, s51_t, s51_n, s5_fR2, s52_a, s52_t, s52_n, s5_fR3, s53_a, s53_t, s53_n, s5_fR5, s55_a, s55_t, s55_n, s5_fR7, s57_a, s57_t, s57_n, s5_fR8, s58_a, s58_t, s58_n, s5_fR10, s510_a, s510_t, s510_n, s5_fR11, s511_a, s511_t, s511_n, s5_fR12, s512_a, s512_t, s512_n, s5_fR13, s513_a, s513_t, s513_n, e1, bi_z, e2, e3]; first | done | (with_reducible rfl; done))); try dsimp only) | (apply it_p; (focus (first | assumption | (simp (disch := first | assumption | omega | rfl) only [i_rem, i_pred, i_addn1, i_lit, i_n1, i_add, i_mul, i_sub, i_le, i_lt, i_eq, i_ne1, n1_ne, n1_lt, n1_le, i_lt1, i_le1, bd_s, nar_bi, nar_0, nar_1, if_pos, if_neg, ↓reduceIte, reduceCtorEq, eq_self, if_true, if_false, not_true_eq_false, not_false_eq_true, tp_k, tp_fI, tp_fL, tp_pI, tp_pL, tp_z0, tp_z1, tp_fR0, tp0_a, tp0_t, tp0_n, tp_fR1, tp1_a, tp1_t, tp1_n, s5_k, s5_fI, s5_fL, s5_pI, s5_pL, s5_z0, s5_z1, s5_fR1, s51_a, s51_t, s51_n, s5_fR2, s52_a, s52_t, s52_n, s5_fR3, s53_a, s53_t, s53_n, s5_fR5, s55_a, s55_t, s55_n, s5_fR7, s57_a, s57_t, s57_n, s5_fR8, s58_a, s58_t, s58_n, s5_fR10, s510_a, s510_t, s510_n, s5_fR11, s511_a, s511_t, s511_n, s5_fR12, s512_a, s512_t, s512_n, s5_fR13, s513_a, s513_t, s513_n, e1, bi_z, e2, e3]; first | done | omega)))) | (apply it_n; (focus (first | assumption | (simp (disch := first | assumption | omega | rfl) only [i_rem, i_pred, i_addn1, i_lit, i_n1, i_add, i_mul, i_sub, i_le, i_lt, i_eq, i_ne1, n1_ne, n1_lt, n1_le, i_lt1, i_le1, bd_s, nar_bi, nar_0, nar_1, if_pos, if_neg, ↓reduceIte, reduceCtorEq, eq_self, if_true, if_false, not_true_eq_false, not_false_eq_true, tp_k, tp_fI, tp_fL, tp_pI, tp_pL, tp_z0, tp_z1, tp_fR0, tp0_a, tp0_t, tp0_n, tp_fR1, tp1_a, tp1_t, tp1_n, s5_k, s5_fI, s5_fL, s5_pI, s5_pL, s5_z0, s5_z1, s5_fR1, s51_a, s51_t, s51_n, s5_fR2, s52_a, s52_t, s52_n, s5_fR3, s53_a, s53_t, s53_n, s5_fR5, s55_a, s55_t, s55_n, s5_fR7, s57_a, s57_t, s57_n, s5_fR8, s58_a, s58_t, s58_n, s5_fR10, s510_a, s510_t, s510_n, s5_fR11, s511_a, s511_t, s511_n, s5_fR12, s512_a, s512_t, s512_n, s5_fR13, s513_a, s513_t, s513_n, e1, bi_z, e2, e3]; first | done | omega)))))
      all_goals rfl
    | false =>
      rw [c2] at e2
      obtain ⟨J, K, e3, g1, g2⟩ := c_adv (N := N) (r := r) hN h
      refine ⟨J, K, ?_, g1, g2⟩
      unfold fX8_takeNewName
      repeat (first | (apply bd_eq; (focus (simp (disch := first | assumption | omega | rfl) only [i_rem, i_pred, i_addn1, i_lit, i_n1, i_add, i_mul, i_sub, i_le, i_lt, i_eq, i_ne1, n1_ne, n1_lt, n1_le, i_lt1, i_le1, bd_s, nar_bi, nar_0, nar_1, if_pos, if_neg, ↓reduceIte, reduceCtorEq, eq_self, if_true, if_false, not_true_eq_false, not_false_eq_true, tp_k, tp_fI, tp_fL, tp_pI, tp_pL, tp_z0, tp_z1, tp_fR0, tp0_a, tp0_t, tp0_n, tp_fR1, tp1_a, tp1_t, tp1_n, s5_k, s5_fI, s5_fL, s5_pI, s5_pL, s5_z0, s5_z1, s5_fR1, s51_a, s51_t, s51_n, s5_fR2, s52_a, s52_t, s52_n, s5_fR3, s53_a, s53_t, s53_n, s5_fR5, s55_a, s55_t, s55_n, s5_fR7, s57_a, s57_t, s57_n, s5_fR8, s58_a, s58_t, s58_n, s5_fR10, s510_a, s510_t, s510_n, s5_fR11, s511_a, s511_t, s511_n, s5_fR12, s512_a, s512_t, s512_n, s5_fR13, s513_a, s513_t, s513_n, e1, bi_z, e2, e3]; first | done | (with_reducible rfl; done))); try dsimp only) | (apply it_p; (focus (first | assumption | (simp (disch := first | assumption | omega | rfl) only [i_rem, i_pred, i_addn1, i_lit, i_n1, i_add, i_mul, i_sub, i_le, i_lt, i_eq, i_ne1, n1_ne, n1_lt, n1_le, i_lt1, i_le1, bd_s, nar_bi, nar_0, nar_1, if_pos, if_neg, ↓reduceIte, reduceCtorEq, eq_self, if_true, if_false, not_true_eq_false, not_false_eq_true, tp_k, tp_fI, tp_fL, tp_pI, tp_pL, tp_z0, tp_z1, tp_fR0, tp0_a, tp0_t, tp0_n, tp_fR1, tp1_a, tp1_t, tp1_n, s5_k, s5_fI, s5_fL, s5_pI, s5_pL, s5_z0, s5_z1, s5_fR1, s51_a, s51_t, s51_n, s5_fR2, s52_a, s52_t, s52_n, s5_fR3, s53_a, s53_t, s53_n, s5_fR5, s55_a, s55_t, s55_n, s5_fR7, s57_a, s57_t, s57_n, s5_fR8, s58_a, s58_t, s58_n, s5_fR10, s510_a, s510_t, s510_n, s5_fR11, s511_a, s511_t, s511_n, s5_fR12, s512_a, s512_t, s512_n, s5_fR13, s513_a, s513_t, s513_n, e1, bi_z, e2, e3]; first | done | omega)))) | (apply it_n; (focus (first | assumption | (simp (disch := first | assumption | omega | rfl) only [i_rem, i_pred, i_addn1, i_lit, i_n1, i_add, i_mul, i_sub, i_le, i_lt, i_eq, i_ne1, n1_ne, n1_lt, n1_le, i_lt1, i_le1, bd_s, nar_bi, nar_0, nar_1, if_pos, if_neg, ↓reduceIte, reduceCtorEq, eq_self, if_true, if_false, not_true_eq_false, not_false_eq_true, tp_k, tp_fI, tp_fL, tp_pI, tp_pL, tp_z0, tp_z1, tp_fR0, tp0_a, tp0_t, tp0_n, tp_fR1, tp1_a, tp1_t, tp1_n, s5_k, s5_fI, s5_fL, s5_pI, s5_pL, s5_z0, s5_z1, s5_fR1, s51_a, s51_t, s51_n, s5_fR2, s52_a, s52_t, s52_n, s5_fR3, s53_a, s53_t, s53_n, s5_fR5, s55_a, s55_t, s55_n, s5_fR7, s57_a, s57_t, s57_n, s5_fR8, s58_a, s58_t, s58_n, s5_fR10, s510_a, s510_t, s510_n, s5_fR11, s511_a, s511_t, s511_n, s5_fR12, s512_a, s512_t, s512_n, s5_fR13, s513_a, s513_t, s513_n, e1, bi_z, e2, e3]; first | done | omega)))))
      all_goals rfl
  | false =>
    rw [c1] at e1
    obtain ⟨J, e3, g1, g2⟩ := c_failR (N := N) (r := r) (k := 1) h (by omega)
    refine ⟨J, L, ?_, g1, g2⟩
    unfold fX8_takeNewName
    repeat (first | (apply bd_eq; (focus (simp (disch := first | assumption | omega | rfl) only [i_rem, i_pred, i_addn1, i_lit, i_n1, i_add, i_mul, i_sub, i_le, i_lt, i_eq, i_ne1, n1_ne, n1_lt, n1_le, i_lt1, i_le1, bd_s, nar_bi, nar_0, nar_1, if_pos, if_neg, ↓reduceIte, reduceCtorEq, eq_self, if_true, if_false, not_true_eq_false, not_false_eq_true, tp_k, tp_fI, tp_fL, tp_pI, tp_pL, tp_z0, tp_z1, tp_fR0, tp0_a, tp0_t, tp0_n, tp_fR1, tp1_a, tp1_t, tp1_n, s5_k, s5_fI, s5_fL, s5_pI, s5_pL, s5_z0, s5_z1, s5_fR1, s51_a, s51_t, s51_n, s5_fR2, s52_a, s52_t, s52_n, s5_fR3, s53_a, s53_t, s53_n, s5_fR5, s55_a, s55_t, s55_n, s5_fR7, s57_a, s57_t, s57_n, s5_fR8, s58_a, s58_t, s58_n, s5_fR10, s510_a, s510_t, s510_n, s5_fR11, s511_a, s511_t, s511_n, s5_fR12, s512_a, s512_t, s512_n, s5_fR13, s513_a, s513_t, s513_n, e1, bi_z, e3]; first | done | (with_reducible rfl; done))); try dsimp only) | (apply it_p; (focus (first | assumption | (simp (disch := first | assumption | omega | rfl) only [i_rem, i_pred, i_addn1, i_lit, i_n1, i_add, i_mul, i_sub, i_le, i_lt, i_eq, i_ne1, n1_ne, n1_lt, n1_le, i_lt1, i_le1, bd_s, nar_bi, nar_0, nar_1, if_pos, if_neg, ↓reduceIte, reduceCtorEq, eq_self, if_true, if_false, not_true_eq_false, not_false_eq_true, tp_k, tp_fI, tp_fL, tp_pI, tp_pL, tp_z0, tp_z1, tp_fR0, tp0_a, tp0_t, tp0_n, tp_fR1, tp1_a, tp1_t, tp1_n, s5_k, s5_fI, s5_fL, s5_pI, s5_pL, s5_z0, s5_z1, s5_fR1, s51_a, s51_t, s51_n, s5_fR2, s52_a, s52_t, s52_n, s5_fR3, s53_a, s53_t, s53_n, s5_fR5, s55_a, s55_t, s55_n, s5_fR7, s57_a, s57_t, s57_n, s5_fR8, s58_a, s58_t, s58_n, s5_fR10, s510_a, s510_t, s510_n, s5_fR11, s511_a, s511_t, s511_n, s5_fR12, s512_a, s512_t, s512_n, s5_fR13, s513_a, s513_t, s513_n, e1, bi_z, e3]; first | done | omega)))) | (apply it_n; (focus (first | assumption | (simp (disch := first | assumption | omega | rfl) only [i_rem, i_pred, i_addn1, i_lit, i_n1, i_add, i_mul, i_sub, i_le, i_lt, i_eq, i_ne1, n1_ne, n1_lt, n1_le, i_lt1, i_le1, bd_s, nar_bi, nar_0, nar_1, if_pos, if_neg, ↓reduceIte, reduceCtorEq, eq_self, if_true, if_false, not_true_eq_false, not_false_eq_true, tp_k, tp_fI, tp_fL, tp_pI, tp_pL, tp_z0, tp_z1, tp_fR0, tp0_a, tp0_t, tp0_n, tp_fR1, tp1_a, tp1_t, tp1_n, s5_k, s5_fI, s5_fL, s5_pI, s5_pL, s5_z0, s5_z1, s5_fR1, s51_a, s51_t, s51_n, s5_fR2, s52_a, s52_t, s52_n, s5_fR3, s53_a, s53_t, s53_n, s5_fR5, s55_a, s55_t, s55_n, s5_fR7, s57_a, s57_t, s57_n, s5_fR8, s58_a, s58_t, s58_n, s5_fR10, s510_a, s510_t, s510_n, s5_fR11, s511_a, s511_t, s511_n, s5_fR12, s512_a, s512_t, s512_n, s5_fR13, s513_a, s513_t, s513_n, e1, bi_z, e3]; first | done | omega)))))
    all_goals rfl
theorem lg_c {H' : Nat → Nat} {l : Nat} (h : H' (29 + l) = H (29 + l)) : lg H' l = lg H l := by unfold lg; rw [h]
theorem sg_c {H' : Nat → Nat} {l k : Nat} (h : H' (29 + l) = H (29 + l)) : sg H' l k = sg H l k := by unfold sg; rw [lg_c h, h]
/-! bands -/
def bdO (n : Nat) (T : Nat → Nat) (m : Nat) (H : Nat → Nat) (W : Nat → List Nat) (t : Tok) : Oc := if H 0 < 6 then oN n T m 2 12 (oN n T m 1 9 (nmO n T m H W (nt n T m t))) else .inl (4, t.2.1)
def bdH (n : Nat) (T : Nat → Nat) (m : Nat) (H : Nat → Nat) (W : Nat → List Nat) (t : Tok) : Nat → Nat := u1 (u1 (u1 H 0 (H 0 + 1)) (5 + H 0) (vN 1 9 (nmO n T m H W (nt n T m t)))) (11 + H 0) (vN 2 12 (oN n T m 1 9 (nmO n T m H W (nt n T m t))))
def bdW (n : Nat) (T : Nat → Nat) (m : Nat) (H : Nat → Nat) (W : Nat → List Nat) (t : Tok) : Nat → List Nat := u1 W (H 0) (nt n T m t).2.2.2.1
theorem bd_ok (hO : hOk H) (hn : nOk H W) (h : CqR n T m (.inr t) I L) (hR : isR (bdO n T m H W t) = true) : hOk (bdH n T m H W t) ∧ nOk (bdH n T m H W t) (bdW n T m H W t) := by
  have o0 := hO.1; have o1 := hO.2.1; have o2 := hO.2.2.1; have o3 := hO.2.2.2.1; have o4 := hO.2.2.2.2.1; have o5 := hO.2.2.2.2.2.1
  obtain ⟨_, _, _, _, _, _, p1, p2, p3, p4⟩ := hO
  unfold bdO at hR
  by_cases c0 : H 0 < 6
  · rw [if_pos c0] at hR
    obtain ⟨z1, z2, z3⟩ := oN_R hR
    obtain ⟨z4, z5, z6⟩ := oN_R z1
    obtain ⟨z7, z8, z9⟩ := nmO_R z4
    have hw := isNm_w (nt_ok h.1 h.2.2.2) z7
    unfold bdH bdW
    generalize vN 1 9 (nmO n T m H W (nt n T m t)) = va at z5 z6
    generalize vN 2 12 (oN n T m 1 9 (nmO n T m H W (nt n T m t))) = vb at z2 z3
    have e0 : u1 (u1 (u1 H 0 (H 0 + 1)) (5 + H 0) va) (11 + H 0) vb 0 = H 0 + 1 := by rw [u1_ne (by omega), u1_ne (by omega), u1_eq]
    have ek : ∀ k, k ≠ 0 → k ≠ 5 + H 0 → k ≠ 11 + H 0 → u1 (u1 (u1 H 0 (H 0 + 1)) (5 + H 0) va) (11 + H 0) vb k = H k := fun k y1 y2 y3 => by rw [u1_ne y3, u1_ne y2, u1_ne y1]
    refine ⟨⟨by rw [e0]; omega, by rw [ek 1 (by omega) (by omega) (by omega)]; exact o1, by rw [ek 2 (by omega) (by omega) (by omega)]; exact o2, by rw [ek 3 (by omega) (by omega) (by omega)]; exact o3, by rw [ek 4 (by omega) (by omega) (by omega)]; exact o4, by rw [ek 4 (by omega) (by omega) (by omega)]; exact o5, fun b hb => ?_, fun k hk => ?_, fun k hk => ?_, fun k hk => ?_⟩, fun b hb => ?_, fun k hk => ?_, fun k hk => ?_⟩
    · rw [e0] at hb
      by_cases hbe : b = H 0
      · subst hbe
        rw [u1_ne (by omega), u1_eq, u1_eq]; omega
      · rw [ek (5 + b) (by omega) (by omega) (by omega), ek (11 + b) (by omega) (by omega) (by omega)]; exact p1 b (by omega)
    · rw [ek 3 (by omega) (by omega) (by omega)] at hk
      rw [ek (17 + k) (by omega) (by omega) (by omega)]; exact p2 k hk
    · rw [ek 1 (by omega) (by omega) (by omega)] at hk
      rw [ek (25 + k) (by omega) (by omega) (by omega)]; exact p3 k hk
    · rw [ek 2 (by omega) (by omega) (by omega)] at hk
      rw [ek (29 + k) (by omega) (by omega) (by omega)]; exact p4 k hk
    · rw [e0] at hb
      by_cases hbe : b = H 0
      · rw [hbe, u1_eq]; exact hw
      · rw [u1_ne hbe]; exact hn.1 b (by omega)
    · rw [ek 1 (by omega) (by omega) (by omega)] at hk
      rw [u1_ne (by omega)]; exact hn.2.1 k hk
    · rw [ek 2 (by omega) (by omega) (by omega)] at hk
      rw [u1_ne (by omega)]; exact hn.2.2 k hk
  · rw [if_neg c0] at hR; cases hR
theorem c_readBand (hN : 1200 < N) (hO : hOk H) (hn : nOk H W) (hs : ShR H W c I L) (h : CqR n T m (.inr t) I L) : ∃ J K, fX8_readBand N 15 1 (mk I L r) = some ((), mk J K r) ∧ CqR n T m (bdO n T m H W t) J K ∧ (isR (bdO n T m H W t) = true → ShR (bdH n T m H W t) (bdW n T m H W t) c J K) ∧ FrW I J L K := by
  have o0 := hO.1; have o1 := hO.2.1; have o2 := hO.2.2.1; have o3 := hO.2.2.2.1; have o4 := hO.2.2.2.2.1; have o5 := hO.2.2.2.2.2.1
  have q0 : I 15 0 = i32 (H 0) := hs.1.1.1
  unfold bdO
  by_cases c0 : H 0 < 6
  · rw [if_pos c0]
    obtain ⟨J1, K1, e1, g1, f1⟩ := c_adv (N := N) (r := r) hN h
    obtain ⟨J2, K2, e2, g2, f2⟩ := c_newName (N := N) (r := r) hN hO hn (ShR_t hs f1) g1
    obtain ⟨J3, K3, e3, g3, f3⟩ := c_takeNum (N := N) (r := r) (a := 1) (b := 9) hN g2 (by omega) (by omega)
    obtain ⟨J4, K4, e4, g4, f4⟩ := c_takeNum (N := N) (r := r) (a := 2) (b := 12) hN g3 (by omega) (by omega)
    have f := f1.tr (f2.tr (f3.tr f4))
    have hs4 := ShR_t hs f
    obtain ⟨y1, y2⟩ := fault_0 g4
    unfold bdH bdW
    generalize ho : oN n T m 2 12 (oN n T m 1 9 (nmO n T m H W (nt n T m t))) = oo at g4 y1 y2
    cases hR : isR oo with
    | false =>
      have y3 := y2 hR
      refine ⟨J4, K4, ?_, g4, fun z => (by cases z), f.w⟩
      unfold fX8_readBand
      repeat (first | (apply bd_eq; (focus (simp (disch := first | assumption | omega | rfl) only [i_rem, i_pred, i_addn1, i_lit, i_n1, i_add, i_mul, i_sub, i_le, i_lt, i_eq, i_ne1, n1_ne, n1_lt, n1_le, i_lt1, i_le1, bd_s, nar_bi, nar_0, nar_1, if_pos, if_neg, ↓reduceIte, reduceCtorEq, eq_self, if_true, if_false, not_true_eq_false, not_false_eq_true, tp_k, tp_fI, tp_fL, tp_pI, tp_pL, tp_z0, tp_z1, tp_fR0, tp0_a, tp0_t, tp0_n, tp_fR1, tp1_a, tp1_t, tp1_n, s5_k, s5_fI, s5_fL, s5_pI, s5_pL, s5_z0, s5_z1, s5_fR1, s51_a, s51_t, s51_n, s5_fR2, s52_a, s52_t, s52_n, s5_fR3, s53_a, s53_t, s53_n, s5_fR5, s55_a, s55_t, s55_n, s5_fR7, s57_a, s57_t, s57_n, s5_fR8, s58_a, s58_t, s58_n, s5_fR10, s510_a, s510_t, s510_n, s5_fR11, s511_a, s511_t, s511_n, s5_fR12, s512_a, s512_t, s512_n, s5_fR13, s513_a, s513_t, s513_n, q0, e1, e2, e3, e4]; first | done | (with_reducible rfl; done))); try dsimp only) | (apply it_p; (focus (first | assumption | (simp (disch := first | assumption | omega | rfl) only [i_rem, i_pred, i_addn1, i_lit, i_n1, i_add, i_mul, i_sub, i_le, i_lt, i_eq, i_ne1, n1_ne, n1_lt, n1_le, i_lt1, i_le1, bd_s, nar_bi, nar_0, nar_1, if_pos, if_neg, ↓reduceIte, reduceCtorEq, eq_self, if_true, if_false, not_true_eq_false, not_false_eq_true, tp_k, tp_fI, tp_fL, tp_pI, tp_pL, tp_z0, tp_z1, tp_fR0, tp0_a, tp0_t, tp0_n, tp_fR1, tp1_a, tp1_t, tp1_n, s5_k, s5_fI, s5_fL, s5_pI, s5_pL, s5_z0, s5_z1, s5_fR1, s51_a, s51_t, s51_n, s5_fR2, s52_a, s52_t, s52_n, s5_fR3, s53_a, s53_t, s53_n, s5_fR5, s55_a, s55_t, s55_n, s5_fR7, s57_a, s57_t, s57_n, s5_fR8, s58_a, s58_t, s58_n, s5_fR10, s510_a, s510_t, s510_n, s5_fR11, s511_a, s511_t, s511_n, s5_fR12, s512_a, s512_t, s512_n, s5_fR13, s513_a, s513_t, s513_n, q0, e1, e2, e3, e4]; first | done | omega)))) | (apply it_n; (focus (first | assumption | (simp (disch := first | assumption | omega | rfl) only [i_rem, i_pred, i_addn1, i_lit, i_n1, i_add, i_mul, i_sub, i_le, i_lt, i_eq, i_ne1, n1_ne, n1_lt, n1_le, i_lt1, i_le1, bd_s, nar_bi, nar_0, nar_1, if_pos, if_neg, ↓reduceIte, reduceCtorEq, eq_self, if_true, if_false, not_true_eq_false, not_false_eq_true, tp_k, tp_fI, tp_fL, tp_pI, tp_pL, tp_z0, tp_z1, tp_fR0, tp0_a, tp0_t, tp0_n, tp_fR1, tp1_a, tp1_t, tp1_n, s5_k, s5_fI, s5_fL, s5_pI, s5_pL, s5_z0, s5_z1, s5_fR1, s51_a, s51_t, s51_n, s5_fR2, s52_a, s52_t, s52_n, s5_fR3, s53_a, s53_t, s53_n, s5_fR5, s55_a, s55_t, s55_n, s5_fR7, s57_a, s57_t, s57_n, s5_fR8, s58_a, s58_t, s58_n, s5_fR10, s510_a, s510_t, s510_n, s5_fR11, s511_a, s511_t, s511_n, s5_fR12, s512_a, s512_t, s512_n, s5_fR13, s513_a, s513_t, s513_n, q0, e1, e2, e3, e4]; first | done | omega)))))
      all_goals rfl
    | true =>
      have y3 := y1 hR
      rw [← ho] at hR
      have zz := (oN_R (oN_R hR).1).1
      have hnm := (nmO_R zz).1
      have h8 : K1 1 8 = i64 (cB 32 (nt n T m t).2.2.2.1) := g1.2.1.2.2.2.2.1 (of_decide_eq_true hnm).1
      rw [h8] at e2
      generalize hva : vN 1 9 (nmO n T m H W (nt n T m t)) = va at e3
      generalize hvb : vN 2 12 (oN n T m 1 9 (nmO n T m H W (nt n T m t))) = vb at e4
      obtain ⟨⟨⟨r0, r6, r9, r4, r14⟩, s1, s2, s3, s4, s5, s6, s7⟩, ⟨n1', n2', n3'⟩, hc⟩ := hs4
      refine ⟨up (up (up J4 17 (H 0) (i32 va)) 18 (H 0) (i32 vb)) 15 0 (i32 (H 0 + 1)), upL K4 16 (H 0) (i64 (cB 32 (nt n T m t).2.2.2.1)), ?_, ?_, fun _ => ⟨⟨⟨?_, ?_, ?_, ?_, ?_⟩, ?_, ?_, ?_, ?_, ?_, ?_, ?_⟩, ⟨?_, ?_, ?_⟩, ?_⟩, ?_⟩
      · unfold fX8_readBand
        repeat (first | (apply bd_eq; (focus (simp (disch := first | assumption | omega | rfl) only [i_rem, i_pred, i_addn1, i_lit, i_n1, i_add, i_mul, i_sub, i_le, i_lt, i_eq, i_ne1, n1_ne, n1_lt, n1_le, i_lt1, i_le1, bd_s, nar_bi, nar_0, nar_1, if_pos, if_neg, ↓reduceIte, reduceCtorEq, eq_self, if_true, if_false, not_true_eq_false, not_false_eq_true, tp_k, tp_fI, tp_fL, tp_pI, tp_pL, tp_z0, tp_z1, tp_fR0, tp0_a, tp0_t, tp0_n, tp_fR1, tp1_a, tp1_t, tp1_n, s5_k, s5_fI, s5_fL, s5_pI, s5_pL, s5_z0, s5_z1, s5_fR1, s51_a, s51_t, s51_n, s5_fR2, s52_a, s52_t, s52_n, s5_fR3, s53_a, s53_t, s53_n, s5_fR5, s55_a, s55_t, s55_n, s5_fR7, s57_a, s57_t, s57_n, s5_fR8, s58_a, s58_t, s58_n, s5_fR10, s510_a, s510_t, s510_n, s5_fR11, s511_a, s511_t, s511_n, s5_fR12, s512_a, s512_t, s512_n, s5_fR13, s513_a, s513_t, s513_n, q0, e1, e2, e3, e4, r0, up_off]; first | done | (with_reducible rfl; done))); try dsimp only) | (apply it_p; (focus (first | assumption | (simp (disch := first | assumption | omega | rfl) only [i_rem, i_pred, i_addn1, i_lit, i_n1, i_add, i_mul, i_sub, i_le, i_lt, i_eq, i_ne1, n1_ne, n1_lt, n1_le, i_lt1, i_le1, bd_s, nar_bi, nar_0, nar_1, if_pos, if_neg, ↓reduceIte, reduceCtorEq, eq_self, if_true, if_false, not_true_eq_false, not_false_eq_true, tp_k, tp_fI, tp_fL, tp_pI, tp_pL, tp_z0, tp_z1, tp_fR0, tp0_a, tp0_t, tp0_n, tp_fR1, tp1_a, tp1_t, tp1_n, s5_k, s5_fI, s5_fL, s5_pI, s5_pL, s5_z0, s5_z1, s5_fR1, s51_a, s51_t, s51_n, s5_fR2, s52_a, s52_t, s52_n, s5_fR3, s53_a, s53_t, s53_n, s5_fR5, s55_a, s55_t, s55_n, s5_fR7, s57_a, s57_t, s57_n, s5_fR8, s58_a, s58_t, s58_n, s5_fR10, s510_a, s510_t, s510_n, s5_fR11, s511_a, s511_t, s511_n, s5_fR12, s512_a, s512_t, s512_n, s5_fR13, s513_a, s513_t, s513_n, q0, e1, e2, e3, e4, r0, up_off]; first | done | omega)))) | (apply it_n; (focus (first | assumption | (simp (disch := first | assumption | omega | rfl) only [i_rem, i_pred, i_addn1, i_lit, i_n1, i_add, i_mul, i_sub, i_le, i_lt, i_eq, i_ne1, n1_ne, n1_lt, n1_le, i_lt1, i_le1, bd_s, nar_bi, nar_0, nar_1, if_pos, if_neg, ↓reduceIte, reduceCtorEq, eq_self, if_true, if_false, not_true_eq_false, not_false_eq_true, tp_k, tp_fI, tp_fL, tp_pI, tp_pL, tp_z0, tp_z1, tp_fR0, tp0_a, tp0_t, tp0_n, tp_fR1, tp1_a, tp1_t, tp1_n, s5_k, s5_fI, s5_fL, s5_pI, s5_pL, s5_z0, s5_z1, s5_fR1, s51_a, s51_t, s51_n, s5_fR2, s52_a, s52_t, s52_n, s5_fR3, s53_a, s53_t, s53_n, s5_fR5, s55_a, s55_t, s55_n, s5_fR7, s57_a, s57_t, s57_n, s5_fR8, s58_a, s58_t, s58_n, s5_fR10, s510_a, s510_t, s510_n, s5_fR11, s511_a, s511_t, s511_n, s5_fR12, s512_a, s512_t, s512_n, s5_fR13, s513_a, s513_t, s513_n, q0, e1, e2, e3, e4, r0, up_off]; first | done | omega)))))
        all_goals rfl
      · exact CqR_s g4 (by simp (disch := omega) only [up_row]) (by simp (disch := omega) only [up_row]) (upL_row (by omega)) (upL_row (by omega))
      · rw [up_self, u1_ne (by omega), u1_ne (by omega), u1_eq]
      · rw [up_ofk (by omega), up_row (by omega), up_row (by omega), u1_ne (by omega), u1_ne (by omega), u1_ne (by omega)]; exact r6
      · rw [up_ofk (by omega), up_row (by omega), up_row (by omega), u1_ne (by omega), u1_ne (by omega), u1_ne (by omega)]; exact r9
      · rw [up_ofk (by omega), up_row (by omega), up_row (by omega), u1_ne (by omega), u1_ne (by omega), u1_ne (by omega)]; exact r4
      · rw [up_ofk (by omega), up_row (by omega), up_row (by omega), u1_ne (by omega), u1_ne (by omega), u1_ne (by omega)]; exact r14
      · intro b hb
        rw [u1_ne (by omega), u1_ne (by omega), u1_eq] at hb
        rw [up_row (by omega), up_row (by omega), up_at]
        by_cases hbe : b = H 0
        · rw [if_pos hbe, hbe, u1_ne (by omega), u1_eq]
        · rw [if_neg hbe, u1_ne (by omega), u1_ne (by omega), u1_ne (by omega)]; exact s1 b (by omega)
      · intro b hb
        rw [u1_ne (by omega), u1_ne (by omega), u1_eq] at hb
        rw [up_row (by omega), up_at]
        by_cases hbe : b = H 0
        · rw [if_pos hbe, hbe, u1_eq]
        · rw [if_neg hbe, up_row (by omega), u1_ne (by omega), u1_ne (by omega), u1_ne (by omega)]; exact s2 b (by omega)
      · intro b hb
        rw [u1_ne (by omega), u1_ne (by omega), u1_ne (by omega)] at hb
        rw [up_row (by omega), up_row (by omega), up_row (by omega), u1_ne (by omega), u1_ne (by omega), u1_ne (by omega)]; exact s3 b hb
      · intro b hb
        rw [u1_ne (by omega), u1_ne (by omega), u1_ne (by omega)] at hb
        rw [up_row (by omega), up_row (by omega), up_row (by omega), u1_ne (by omega), u1_ne (by omega), u1_ne (by omega)]; exact s4 b hb
      · intro b hb
        rw [u1_ne (by omega), u1_ne (by omega), u1_ne (by omega)] at hb
        rw [up_row (by omega), up_row (by omega), up_row (by omega), u1_ne (by omega), u1_ne (by omega), u1_ne (by omega)]; exact s5 b hb
      · intro b hb
        rw [u1_ne (by omega), u1_ne (by omega), u1_ne (by omega)] at hb
        rw [up_row (by omega), up_row (by omega), up_row (by omega), lg_c (H := H) (by rw [u1_ne (by omega), u1_ne (by omega), u1_ne (by omega)])]; exact s6 b hb
      · intro b hb k hk
        rw [u1_ne (by omega), u1_ne (by omega), u1_ne (by omega)] at hb
        rw [lg_c (H := H) (by rw [u1_ne (by omega), u1_ne (by omega), u1_ne (by omega)])] at hk
        rw [up_row (by omega), up_row (by omega), up_row (by omega), sg_c (H := H) (by rw [u1_ne (by omega), u1_ne (by omega), u1_ne (by omega)])]; exact s7 b hb k hk
      · intro b hb
        rw [u1_ne (by omega), u1_ne (by omega), u1_eq] at hb
        rw [upL_at]
        by_cases hbe : b = H 0
        · rw [if_pos hbe, hbe, u1_eq]
        · rw [if_neg hbe, u1_ne hbe]; exact n1' b (by omega)
      · intro b hb
        rw [u1_ne (by omega), u1_ne (by omega), u1_ne (by omega)] at hb
        rw [upL_row (by omega), u1_ne (by omega)]; exact n2' b hb
      · intro b hb
        rw [u1_ne (by omega), u1_ne (by omega), u1_ne (by omega)] at hb
        rw [upL_row (by omega), u1_ne (by omega)]; exact n3' b hb
      · rw [up_ofk (by omega), up_row (by omega), up_row (by omega)]; exact hc
      · refine f.w.tr ⟨fun z z1 z2 => by simp (disch := omega) only [up_row], fun k hk => by simp (disch := omega) only [up_row], fun z z1 z2 => upL_row (by omega), ?_⟩
        rw [up_ofk (by omega), up_row (by omega), up_row (by omega)]
  · rw [if_neg c0]
    obtain ⟨J, e3, g1, g2⟩ := c_failR (N := N) (r := r) (k := 4) h (by omega)
    refine ⟨J, L, ?_, g1, fun z => (by cases z), g2.w⟩
    unfold fX8_readBand
    repeat (first | (apply bd_eq; (focus (simp (disch := first | assumption | omega | rfl) only [i_rem, i_pred, i_addn1, i_lit, i_n1, i_add, i_mul, i_sub, i_le, i_lt, i_eq, i_ne1, n1_ne, n1_lt, n1_le, i_lt1, i_le1, bd_s, nar_bi, nar_0, nar_1, if_pos, if_neg, ↓reduceIte, reduceCtorEq, eq_self, if_true, if_false, not_true_eq_false, not_false_eq_true, tp_k, tp_fI, tp_fL, tp_pI, tp_pL, tp_z0, tp_z1, tp_fR0, tp0_a, tp0_t, tp0_n, tp_fR1, tp1_a, tp1_t, tp1_n, s5_k, s5_fI, s5_fL, s5_pI, s5_pL, s5_z0, s5_z1, s5_fR1, s51_a, s51_t, s51_n, s5_fR2, s52_a, s52_t, s52_n, s5_fR3, s53_a, s53_t, s53_n, s5_fR5, s55_a, s55_t, s55_n, s5_fR7, s57_a, s57_t, s57_n, s5_fR8, s58_a, s58_t, s58_n, s5_fR10, s510_a, s510_t, s510_n, s5_fR11, s511_a, s511_t, s511_n, s5_fR12, s512_a, s512_t, s512_n, s5_fR13, s513_a, s513_t, s513_n, q0, e3]; first | done | (with_reducible rfl; done))); try dsimp only) | (apply it_p; (focus (first | assumption | (simp (disch := first | assumption | omega | rfl) only [i_rem, i_pred, i_addn1, i_lit, i_n1, i_add, i_mul, i_sub, i_le, i_lt, i_eq, i_ne1, n1_ne, n1_lt, n1_le, i_lt1, i_le1, bd_s, nar_bi, nar_0, nar_1, if_pos, if_neg, ↓reduceIte, reduceCtorEq, eq_self, if_true, if_false, not_true_eq_false, not_false_eq_true, tp_k, tp_fI, tp_fL, tp_pI, tp_pL, tp_z0, tp_z1, tp_fR0, tp0_a, tp0_t, tp0_n, tp_fR1, tp1_a, tp1_t, tp1_n, s5_k, s5_fI, s5_fL, s5_pI, s5_pL, s5_z0, s5_z1, s5_fR1, s51_a, s51_t, s51_n, s5_fR2, s52_a, s52_t, s52_n, s5_fR3, s53_a, s53_t, s53_n, s5_fR5, s55_a, s55_t, s55_n, s5_fR7, s57_a, s57_t, s57_n, s5_fR8, s58_a, s58_t, s58_n, s5_fR10, s510_a, s510_t, s510_n, s5_fR11, s511_a, s511_t, s511_n, s5_fR12, s512_a, s512_t, s512_n, s5_fR13, s513_a, s513_t, s513_n, q0, e3]; first | done | omega)))) | (apply it_n; (focus (first | assumption | (simp (disch := first | assumption | omega | rfl) only [i_rem, i_pred, i_addn1, i_lit, i_n1, i_add, i_mul, i_sub, i_le, i_lt, i_eq, i_ne1, n1_ne, n1_lt, n1_le, i_lt1, i_le1, bd_s, nar_bi, nar_0, nar_1, if_pos, if_neg, ↓reduceIte, reduceCtorEq, eq_self, if_true, if_false, not_true_eq_false, not_false_eq_true, tp_k, tp_fI, tp_fL, tp_pI, tp_pL, tp_z0, tp_z1, tp_fR0, tp0_a, tp0_t, tp0_n, tp_fR1, tp1_a, tp1_t, tp1_n, s5_k, s5_fI, s5_fL, s5_pI, s5_pL, s5_z0, s5_z1, s5_fR1, s51_a, s51_t, s51_n, s5_fR2, s52_a, s52_t, s52_n, s5_fR3, s53_a, s53_t, s53_n, s5_fR5, s55_a, s55_t, s55_n, s5_fR7, s57_a, s57_t, s57_n, s5_fR8, s58_a, s58_t, s58_n, s5_fR10, s510_a, s510_t, s510_n, s5_fR11, s511_a, s511_t, s511_n, s5_fR12, s512_a, s512_t, s512_n, s5_fR13, s513_a, s513_t, s513_n, q0, e3]; first | done | omega)))))
    all_goals rfl
end
