/-! ===== TOKENS ===== -/
/-- kind (0 end, 1 word, 2 number, 3 mark, 4 none), place, where the next begins, the word, the number or mark -/
abbrev Tok : Type := Nat × Nat × Nat × List Nat × Nat
def isL (c : Nat) : Bool := decide (97 ≤ c ∧ c ≤ 122)
def isD (c : Nat) : Bool := decide (48 ≤ c ∧ c ≤ 57)
def isA (c : Nat) : Bool := isL c || isD c
def isM (c : Nat) : Bool := decide (c = 59 ∨ c = 60 ∨ c = 61 ∨ c = 62 ∨ c = 40 ∨ c = 41)
def isB (c : Nat) : Bool := decide (c = 32 ∨ c = 10)
def skK (T : Nat → Nat) (n q : Nat) : Nat := match fd (fun k => decide (¬ isB (T (q + k)) = true)) (n - q) with
  | some k => k
  | none => n - q
def rn (T : Nat → Nat) (n p : Nat) : Nat := match fd (fun k => decide (¬ isA (T (p + k)) = true)) (n - p) with
  | some k => k
  | none => n - p
def lc (T : Nat → Nat) (p k : Nat) : Nat := cnt (fun j => isL (T (p + j))) k
def dg (T : Nat → Nat) (p k : Nat) : Nat := cnt (fun j => isD (T (p + j))) k
/-- the letters of a run, the last first -/
def wl (T : Nat → Nat) (p : Nat) : Nat → List Nat
  | 0 => []
  | k + 1 => (T (p + k) - 96) :: wl T p k
def dv (T : Nat → Nat) (p : Nat) : Nat → Nat
  | 0 => 0
  | k + 1 => dv T p k * 10 + (T (p + k) - 48)
def kdR (l d : Nat) : Nat := if d = 0 ∧ l ≤ 7 then 1 else if l = 0 ∧ d ≤ 3 then 2 else 4
def tkA (T : Nat → Nat) (n p : Nat) : Tok := if isA (T p) then (kdR (lc T p (rn T n p)) (dg T p (rn T n p)), p, p + rn T n p, wl T p (rn T n p), dv T p (rn T n p)) else (if isM (T p) then 3 else 4, p, p + 1, [], T p)
def tkB (T : Nat → Nat) (n m p : Nat) : Tok := if m ≤ p ∧ m < n then (4, m, p, [], 0) else if n ≤ p then (0, n, p, [], 0) else tkA T n p
/-- the token from the place q on -/
def nxT (T : Nat → Nat) (n m q : Nat) : Tok := tkB T n m (q + skK T n q)
def kwI (w : List Nat) : Option Nat := fd (fun k => decide (kwd k = w)) 20
section
variable {T : Nat → Nat} {n m p q k : Nat}
theorem isLD {c : Nat} (h : isL c = true) : isD c = false := by
  have := of_decide_eq_true h
  exact decide_eq_false (by omega)
theorem isA_D {c : Nat} (h : isA c = true) (h2 : isL c = false) : isD c = true := by
  unfold isA at h; rw [h2, Bool.false_or] at h; exact h
theorem isA_L {c : Nat} (h : isA c = true) (h2 : isD c = false) : isL c = true := by
  unfold isA at h; rw [h2, Bool.or_false] at h; exact h
theorem skK_le : skK T n q ≤ n - q := by
  unfold skK
  cases e : fd (fun k => decide (¬ isB (T (q + k)) = true)) (n - q) with
  | none => exact Nat.le_refl _
  | some k => exact Nat.le_of_lt (fd_some.mp e).1
theorem rn_le : rn T n p ≤ n - p := by
  unfold rn
  cases e : fd (fun k => decide (¬ isA (T (p + k)) = true)) (n - p) with
  | none => exact Nat.le_refl _
  | some k => exact Nat.le_of_lt (fd_some.mp e).1
theorem rn_in (h : k < rn T n p) : isA (T (p + k)) = true := by
  unfold rn at h
  cases e : fd (fun k => decide (¬ isA (T (p + k)) = true)) (n - p) with
  | none =>
    rw [e] at h
    have := of_decide_eq_false (fd_none.mp e k h)
    exact Decidable.not_not.mp this
  | some j =>
    rw [e] at h
    have := of_decide_eq_false ((fd_some.mp e).2.2 k h)
    exact Decidable.not_not.mp this
theorem rn_end : p + rn T n p = n ∨ n ≤ p ∨ (p + rn T n p < n ∧ isA (T (p + rn T n p)) = false) := by
  unfold rn
  cases e : fd (fun k => decide (¬ isA (T (p + k)) = true)) (n - p) with
  | none => dsimp only; omega
  | some j =>
    obtain ⟨h1, h2, _⟩ := fd_some.mp e
    refine Or.inr (Or.inr ⟨by dsimp only; omega, ?_⟩)
    have := of_decide_eq_true h2
    dsimp only
    cases c : isA (T (p + j)) with
    | false => rfl
    | true => exact absurd c this
theorem rn_1 (hp : p < n) (h : isA (T p) = true) : 1 ≤ rn T n p := by
  rcases rn_end (T := T) (n := n) (p := p) with h1 | h1 | h1
  · omega
  · omega
  · by_cases h0 : rn T n p = 0
    · rw [h0, Nat.add_zero, h] at h1; cases h1.2
    · omega
theorem rn_0 (h : isA (T p) = false) : rn T n p = 0 := by
  by_cases h0 : 0 < rn T n p
  · have := rn_in h0
    rw [Nat.add_zero, h] at this; cases this
  · omega
theorem lc_s : lc T p (k + 1) = if isL (T (p + k)) then lc T p k + 1 else lc T p k := cnt_s
theorem dg_s : dg T p (k + 1) = if isD (T (p + k)) then dg T p k + 1 else dg T p k := cnt_s
theorem lcdg : ∀ k, k ≤ rn T n p → lc T p k + dg T p k = k := by
  intro k
  induction k with
  | zero => intro _; rfl
  | succ k ih =>
    intro hk
    have h1 := ih (by omega)
    have h2 := rn_in (show k < rn T n p by omega)
    rw [lc_s, dg_s]
    cases c : isL (T (p + k)) with
    | true => rw [isLD c]; simp; omega
    | false => rw [isA_D h2 c]; simp; omega
theorem wl_len : ∀ k, (wl T p k).length = k := by
  intro k
  induction k with
  | zero => rfl
  | succ k ih => show (wl T p k).length + 1 = k + 1; rw [ih]
theorem wl_in : ∀ k, dg T p k = 0 → (∀ j, j < k → isA (T (p + j)) = true) → ∀ d, d ∈ wl T p k → 1 ≤ d ∧ d ≤ 26 := by
  intro k
  induction k with
  | zero => intro _ _ d hd; cases hd
  | succ k ih =>
    intro h0 hA d hd
    rw [dg_s] at h0
    have hD : isD (T (p + k)) = false := by
      cases c : isD (T (p + k)) with
      | false => rfl
      | true => rw [c] at h0; simp at h0
    rw [hD] at h0
    have hL := isA_L (hA k (by omega)) hD
    have := of_decide_eq_true hL
    cases hd with
    | head => omega
    | tail _ hd => exact ih (by simpa using h0) (fun j hj => hA j (by omega)) d hd
theorem dv_999 : ∀ k, k ≤ 3 → (∀ j, j < k → isD (T (p + j)) = true) → dv T p k < 10 ^ k := by
  intro k
  induction k with
  | zero => intro _ _; exact Nat.one_pos
  | succ k ih =>
    intro hk h
    have h1 := ih (by omega) (fun j hj => h j (by omega))
    have h2 := of_decide_eq_true (h k (by omega))
    show dv T p k * 10 + (T (p + k) - 48) < 10 ^ (k + 1)
    rw [Nat.pow_succ]
    omega
theorem lc_0 : ∀ k, lc T p k = 0 → (∀ j, j < k → isA (T (p + j)) = true) → ∀ j, j < k → isD (T (p + j)) = true := by
  intro k
  induction k with
  | zero => intro _ _ j hj; omega
  | succ k ih =>
    intro h0 hA j hj
    rw [lc_s] at h0
    have hL : isL (T (p + k)) = false := by
      cases c : isL (T (p + k)) with
      | false => rfl
      | true => rw [c] at h0; simp at h0
    rw [hL] at h0
    by_cases e : j = k
    · subst e; exact isA_D (hA j (by omega)) hL
    · exact ih (by simpa using h0) (fun j hj => hA j (by omega)) j (by omega)
def tOk (n : Nat) (t : Tok) : Prop := t.1 ≤ 4 ∧ t.2.1 ≤ 940 ∧ t.2.2.1 ≤ n ∧ (t.1 = 1 → wOk t.2.2.2.1) ∧ (t.1 = 2 → t.2.2.2.2 ≤ 999) ∧ (t.1 = 3 → t.2.2.2.2 < 256)
theorem tA_ok (hn : n ≤ 940) (hp : p < n) (hT : ∀ k, k < n → T k < 256) : tOk n (tkA T n p) := by
  have hr := rn_le (T := T) (n := n) (p := p)
  unfold tkA
  by_cases hA : isA (T p) = true
  · rw [if_pos hA]
    have r1 := rn_1 hp hA
    have hs := lcdg (T := T) (n := n) (p := p) _ (Nat.le_refl _)
    have hin : ∀ j, j < rn T n p → isA (T (p + j)) = true := fun j hj => rn_in hj
    refine ⟨?_, by dsimp only; omega, by dsimp only; omega, fun h => ?_, fun h => ?_, fun h => ?_⟩
    · dsimp only; unfold kdR; split
      · omega
      · split <;> omega
    · dsimp only at h ⊢
      unfold kdR at h
      split at h
      · rename_i hc
        exact ⟨by rw [wl_len]; exact r1, by rw [wl_len]; omega, wl_in _ hc.1 hin⟩
      · split at h <;> omega
    · dsimp only at h ⊢
      unfold kdR at h
      split at h
      · omega
      · split at h
        · rename_i hc
          have h1 := dv_999 (T := T) (p := p) (rn T n p) (by omega) (lc_0 _ hc.1 hin)
          have h2 : 10 ^ rn T n p ≤ 10 ^ 3 := Nat.pow_le_pow_right (by omega) (by omega)
          omega
        · omega
    · dsimp only at h
      unfold kdR at h
      split at h
      · omega
      · split at h <;> omega
  · rw [if_neg hA]
    have := hT p hp
    refine ⟨?_, by dsimp only; omega, by dsimp only; omega, fun h => ?_, fun h => ?_, fun _ => this⟩
    · dsimp only; split <;> omega
    · dsimp only at h; split at h <;> omega
    · dsimp only at h; split at h <;> omega
theorem nx_ok (hn : n ≤ 940) (hq : q ≤ n) (hT : ∀ k, k < n → T k < 256) : tOk n (nxT T n m q) := by
  have hs := skK_le (T := T) (n := n) (q := q)
  unfold nxT tkB
  split
  · exact ⟨by dsimp only; omega, by dsimp only; omega, by dsimp only; omega, fun h => by dsimp only at h; omega, fun h => by dsimp only at h; omega, fun h => by dsimp only at h; omega⟩
  · split
    · exact ⟨by dsimp only; omega, by dsimp only; omega, by dsimp only; omega, fun h => by dsimp only at h; omega, fun h => by dsimp only at h; omega, fun h => by dsimp only at h; omega⟩
    · exact tA_ok hn (by omega) hT
theorem kwd_ok : ∀ k, k < 20 → wOk (kwd k) := by
  intro k hk
  have : ∀ k, k < 20 → (1 ≤ (kwd k).length ∧ (kwd k).length ≤ 7 ∧ (kwd k).all (fun d => decide (1 ≤ d ∧ d ≤ 26)) = true) := by decide
  obtain ⟨h1, h2, h3⟩ := this k hk
  exact ⟨h1, h2, fun d hd => of_decide_eq_true (List.all_eq_true.mp h3 d hd)⟩
theorem kwd_inj : ∀ k, k < 20 → ∀ j, j < 20 → kwd k = kwd j → k = j := by decide
theorem kwI_lt {w : List Nat} {k : Nat} (h : kwI w = some k) : k < 20 ∧ kwd k = w := ⟨(fd_some.mp h).1, of_decide_eq_true (fd_some.mp h).2.1⟩
theorem kwI_k {k : Nat} (hk : k < 20) {w : List Nat} : kwI w = some k ↔ kwd k = w := by
  constructor
  · intro h; exact (kwI_lt h).2
  · intro h
    exact fd_some.mpr ⟨hk, decide_eq_true h, fun j hj => decide_eq_false (fun z => by
      have := kwd_inj k hk j (by omega) (h.trans z.symm)
      omega)⟩
theorem up_id {I : Nat → Nat → Int32} {a k : Nat} {v : Int32} (h : I a k = v) : up I a k v = I := by
  funext a' k'
  rw [up]
  by_cases hc : a' = a ∧ k' = k
  · rw [if_pos hc, hc.1, hc.2, h]
  · rw [if_neg hc]
end
/-- a row of the reader's cells: what changes as a token is read -/
def FrT (o : Nat) (S : Nat → Prop) (I J : Nat → Nat → Int32) (L K : Nat → Nat → Int64) : Prop := (∀ z, z ≠ o → J z = I z) ∧ (∀ k, ¬ S k → J o k = I o k) ∧ ∀ z, z ≠ o → K z = L z
def Sc (k : Nat) : Prop := k = 4 ∨ k = 5 ∨ k = 6 ∨ k = 7 ∨ k = 9
def Sr (k : Nat) : Prop := k = 4 ∨ k = 7
def Sm (k : Nat) : Prop := k = 5 ∨ k = 6 ∨ k = 7 ∨ k = 8 ∨ k = 9
theorem FrT.rf {o : Nat} {S : Nat → Prop} {I : Nat → Nat → Int32} {L : Nat → Nat → Int64} : FrT o S I I L L := ⟨fun _ _ => rfl, fun _ _ => rfl, fun _ _ => rfl⟩
theorem FrT.tr {o : Nat} {S : Nat → Prop} {I J I2 : Nat → Nat → Int32} {L K L2 : Nat → Nat → Int64} (h : FrT o S I J L K) (g : FrT o S J I2 K L2) : FrT o S I I2 L L2 := ⟨fun z hz => (g.1 z hz).trans (h.1 z hz), fun k hk => (g.2.1 k hk).trans (h.2.1 k hk), fun z hz => (g.2.2 z hz).trans (h.2.2 z hz)⟩
theorem FrT.mono {o : Nat} {S S' : Nat → Prop} {I J : Nat → Nat → Int32} {L K : Nat → Nat → Int64} (h : FrT o S I J L K) (hs : ∀ k, S k → S' k) : FrT o S' I J L K := ⟨h.1, fun k hk => h.2.1 k (fun z => hk (hs k z)), h.2.2⟩
theorem Sr_Sc (k : Nat) (h : Sr k) : Sc k := by unfold Sr at h; unfold Sc; omega
theorem FrT.up {o k : Nat} {v : Int32} {S : Nat → Prop} {I J : Nat → Nat → Int32} {L K : Nat → Nat → Int64} (h : FrT o S I J L K) (hk : S k) : FrT o S I (up J o k v) L K := ⟨fun z hz => by rw [up_row hz]; exact h.1 z hz, fun j hj => by rw [up_ofk (fun e => hj (by rw [e]; exact hk))]; exact h.2.1 j hj, h.2.2⟩
theorem FrT.upL {o k : Nat} {v : Int64} {S : Nat → Prop} {I J : Nat → Nat → Int32} {L K : Nat → Nat → Int64} (h : FrT o S I J L K) : FrT o S I J L (upL K o k v) := ⟨h.1, h.2.1, fun z hz => by rw [upL_row hz]; exact h.2.2 z hz⟩
/-- the class's reader: the tape, and where it stands -/
def TC (n : Nat) (T : Nat → Nat) (m : Nat) (I : Nat → Nat → Int32) (L : Nat → Nat → Int64) : Prop := I 1 2 = i32 n ∧ n ≤ 940 ∧ I 1 3 = i32 m ∧ m ≤ 1000 ∧ (∀ k, k < n → I 2 k = i32 (T k)) ∧ (∀ k, k < n → T k < 256) ∧ ∀ k, k < 20 → L 3 k = i64 (cB 32 (kwd k))
def CK (t : Tok) (I : Nat → Nat → Int32) (L : Nat → Nat → Int64) : Prop := I 1 5 = i32 t.1 ∧ I 1 6 = i32 t.2.1 ∧ I 1 4 = i32 t.2.2.1 ∧ I 1 9 = (if t.1 = 1 then oi (kwI t.2.2.2.1) else n1) ∧ (t.1 = 1 → L 1 8 = i64 (cB 32 t.2.2.2.1)) ∧ ((t.1 = 2 ∨ t.1 = 3) → I 1 7 = i32 t.2.2.2.2)
section
variable {I : Nat → Nat → Int32} {L : Nat → Nat → Int64} {r : Bool} {N : Nat} {T : Nat → Nat} {n m p q : Nat}
theorem TC_fr {J : Nat → Nat → Int32} {K : Nat → Nat → Int64} (h : TC n T m I L) (f : FrT 1 Sc I J L K) : TC n T m J K := by
  obtain ⟨h1, h2, h3, h4, h5, h6, h7⟩ := h
  refine ⟨by rw [f.2.1 2 (by unfold Sc; omega)]; exact h1, h2, by rw [f.2.1 3 (by unfold Sc; omega)]; exact h3, h4, fun k hk => by rw [f.1 2 (by omega)]; exact h5 k hk, h6, fun k hk => by rw [f.2.2 3 (by omega)]; exact h7 k hk⟩
theorem c_skip (hN : 1200 < N) (h : TC n T m I L) (hq : q ≤ n) (h4 : I 1 4 = i32 q) : fX9_skipBlanks N 1 (mk I L r) = some ((), mk (up I 1 4 (i32 (q + skK T n q))) L r) := by
  obtain ⟨h1, h2, h3, h4', h5, h6, h7⟩ := h
  have e := lp_fd (F := fun n' v => fX9_skipBlanks_L0 N 1 n' (mk (up I 1 4 (i32 q + v)) L r)) (m := n - q) (fun k => ¬ isB (T (q + k)) = true) (fun k => mk (up I 1 4 (i32 (q + k))) L r) (mk (up I 1 4 (i32 (q + (n - q)))) L r) ?_ ?_ ?_ (n := N) (by omega)
  · rw [i_add, Nat.add_zero, up_id h4] at e
    unfold fX9_skipBlanks
    rw [e]
    unfold skK
    cases fd (fun k => decide (¬ isB (T (q + k)) = true)) (n - q) with
    | none => rfl
    | some k => rfl
  · intro n' k hk hP
    have hb : ¬ (T (q + k) = 32 ∨ T (q + k) = 10) := fun z => hP (decide_eq_true z)
    have t6 := h6 (q + k) (by omega)
    rw [i_add]
    rw [fX9_skipBlanks_L0]
    repeat (first | (apply bd_eq; (focus (simp (disch := first | assumption | omega | rfl) only [i_rem, i_pred, i_addn1, i_lit, i_n1, i_add, i_mul, i_sub, i_le, i_lt, i_eq, i_ne1, n1_ne, n1_lt, n1_le, i_lt1, i_le1, bd_s, nar_bi, nar_0, nar_1, if_pos, if_neg, ↓reduceIte, reduceCtorEq, eq_self, if_true, if_false, not_true_eq_false, not_false_eq_true, tp_k, tp_fI, tp_fL, tp_pI, tp_pL, tp_z0, tp_z1, tp_fR0, tp0_a, tp0_t, tp0_n, tp_fR1, tp1_a, tp1_t, tp1_n, up_at, up_off, h1, h5]; first | done | (with_reducible rfl; done))); try dsimp only) | (apply it_p; (focus (first | assumption | (simp (disch := first | assumption | omega | rfl) only [i_rem, i_pred, i_addn1, i_lit, i_n1, i_add, i_mul, i_sub, i_le, i_lt, i_eq, i_ne1, n1_ne, n1_lt, n1_le, i_lt1, i_le1, bd_s, nar_bi, nar_0, nar_1, if_pos, if_neg, ↓reduceIte, reduceCtorEq, eq_self, if_true, if_false, not_true_eq_false, not_false_eq_true, tp_k, tp_fI, tp_fL, tp_pI, tp_pL, tp_z0, tp_z1, tp_fR0, tp0_a, tp0_t, tp0_n, tp_fR1, tp1_a, tp1_t, tp1_n, up_at, up_off, h1, h5]; first | done | omega)))) | (apply it_n; (focus (first | assumption | (simp (disch := first | assumption | omega | rfl) only [i_rem, i_pred, i_addn1, i_lit, i_n1, i_add, i_mul, i_sub, i_le, i_lt, i_eq, i_ne1, n1_ne, n1_lt, n1_le, i_lt1, i_le1, bd_s, nar_bi, nar_0, nar_1, if_pos, if_neg, ↓reduceIte, reduceCtorEq, eq_self, if_true, if_false, not_true_eq_false, not_false_eq_true, tp_k, tp_fI, tp_fL, tp_pI, tp_pL, tp_z0, tp_z1, tp_fR0, tp0_a, tp0_t, tp0_n, tp_fR1, tp1_a, tp1_t, tp1_n, up_at, up_off, h1, h5]; first | done | omega)))))
    all_goals rfl
  · intro n' k hk hP
    have hb := of_decide_eq_true (Decidable.not_not.mp hP)
    have t6 := h6 (q + k) (by omega)
    rw [i_add, i_add]
    rw [fX9_skipBlanks_L0]
    rcases hb with hb | hb
    · simp (disch := first | assumption | omega | rfl) only [i_rem, i_pred, i_addn1, i_lit, i_n1, i_add, i_mul, i_sub, i_le, i_lt, i_eq, i_ne1, n1_ne, n1_lt, n1_le, i_lt1, i_le1, bd_s, nar_bi, nar_0, nar_1, if_pos, if_neg, ↓reduceIte, reduceCtorEq, eq_self, if_true, if_false, not_true_eq_false, not_false_eq_true, tp_k, tp_fI, tp_fL, tp_pI, tp_pL, tp_z0, tp_z1, tp_fR0, tp0_a, tp0_t, tp0_n, tp_fR1, tp1_a, tp1_t, tp1_n, fX9_skipBlanks_J39_0, up_at, up_off, h1, h5, hb, up_up]
      rfl
    · simp (disch := first | assumption | omega | rfl) only [i_rem, i_pred, i_addn1, i_lit, i_n1, i_add, i_mul, i_sub, i_le, i_lt, i_eq, i_ne1, n1_ne, n1_lt, n1_le, i_lt1, i_le1, bd_s, nar_bi, nar_0, nar_1, if_pos, if_neg, ↓reduceIte, reduceCtorEq, eq_self, if_true, if_false, not_true_eq_false, not_false_eq_true, tp_k, tp_fI, tp_fL, tp_pI, tp_pL, tp_z0, tp_z1, tp_fR0, tp0_a, tp0_t, tp0_n, tp_fR1, tp1_a, tp1_t, tp1_n, fX9_skipBlanks_J39_0, up_at, up_off, h1, h5, hb, up_up]
      rfl
  · intro n'
    rw [i_add]
    have hqn : q + (n - q) = n := by omega
    rw [hqn]
    rw [fX9_skipBlanks_L0]
    repeat (first | (apply bd_eq; (focus (simp (disch := first | assumption | omega | rfl) only [i_rem, i_pred, i_addn1, i_lit, i_n1, i_add, i_mul, i_sub, i_le, i_lt, i_eq, i_ne1, n1_ne, n1_lt, n1_le, i_lt1, i_le1, bd_s, nar_bi, nar_0, nar_1, if_pos, if_neg, ↓reduceIte, reduceCtorEq, eq_self, if_true, if_false, not_true_eq_false, not_false_eq_true, tp_k, tp_fI, tp_fL, tp_pI, tp_pL, tp_z0, tp_z1, tp_fR0, tp0_a, tp0_t, tp0_n, tp_fR1, tp1_a, tp1_t, tp1_n, up_at, up_off, h1]; first | done | (with_reducible rfl; done))); try dsimp only) | (apply it_p; (focus (first | assumption | (simp (disch := first | assumption | omega | rfl) only [i_rem, i_pred, i_addn1, i_lit, i_n1, i_add, i_mul, i_sub, i_le, i_lt, i_eq, i_ne1, n1_ne, n1_lt, n1_le, i_lt1, i_le1, bd_s, nar_bi, nar_0, nar_1, if_pos, if_neg, ↓reduceIte, reduceCtorEq, eq_self, if_true, if_false, not_true_eq_false, not_false_eq_true, tp_k, tp_fI, tp_fL, tp_pI, tp_pL, tp_z0, tp_z1, tp_fR0, tp0_a, tp0_t, tp0_n, tp_fR1, tp1_a, tp1_t, tp1_n, up_at, up_off, h1]; first | done | omega)))) | (apply it_n; (focus (first | assumption | (simp (disch := first | assumption | omega | rfl) only [i_rem, i_pred, i_addn1, i_lit, i_n1, i_add, i_mul, i_sub, i_le, i_lt, i_eq, i_ne1, n1_ne, n1_lt, n1_le, i_lt1, i_le1, bd_s, nar_bi, nar_0, nar_1, if_pos, if_neg, ↓reduceIte, reduceCtorEq, eq_self, if_true, if_false, not_true_eq_false, not_false_eq_true, tp_k, tp_fI, tp_fL, tp_pI, tp_pL, tp_z0, tp_z1, tp_fR0, tp0_a, tp0_t, tp0_n, tp_fR1, tp1_a, tp1_t, tp1_n, up_at, up_off, h1]; first | done | omega)))))
    all_goals rfl
def RC (T : Nat → Nat) (p k : Nat) (J : Nat → Nat → Int32) (K : Nat → Nat → Int64) : Prop := J 1 4 = i32 (p + k) ∧ (dg T p k = 0 → K 1 8 = i64 (cB 32 (wl T p k))) ∧ (lc T p k = 0 → J 1 7 = i32 (dv T p k))
theorem c_runL (hN : 1200 < N) (h : TC n T m I L) (hp : p ≤ n) (h0 : RC T p 0 I L) : ∃ J K, fX9_readRun_L14 N 1 N (i32 0) (i32 0) (mk I L r) = some (i32 (lc T p (rn T n p)), i32 (dg T p (rn T n p)), mk J K r) ∧ RC T p (rn T n p) J K ∧ FrT 1 Sr I J L K := by
  have hr := rn_le (T := T) (n := n) (p := p)
  have hT := h
  obtain ⟨h1, h2, h3, h4', h5, h6, h7⟩ := h
  obtain ⟨ρ, e, J, K, rfl, g1, g2⟩ := lp_in (F := fun n' (s : Int32 × Int32 × (Nat → Nat → Int32) × (Nat → Nat → Int64)) => fX9_readRun_L14 N 1 n' s.1 s.2.1 (mk s.2.2.1 s.2.2.2 r)) (m := rn T n p) (fun k s => s.1 = i32 (lc T p k) ∧ s.2.1 = i32 (dg T p k) ∧ RC T p k s.2.2.1 s.2.2.2 ∧ FrT 1 Sr I s.2.2.1 L s.2.2.2) (fun ρ => ∃ J K, ρ = (i32 (lc T p (rn T n p)), i32 (dg T p (rn T n p)), mk J K r) ∧ RC T p (rn T n p) J K ∧ FrT 1 Sr I J L K) (fun n' k s hk hs => by
    obtain ⟨u1, u2, J, K⟩ := s
    obtain ⟨a1, a2, a3, a4⟩ := hs
    dsimp only at a1 a2 a3 a4 ⊢
    subst a1; subst a2
    obtain ⟨b1, b2, b3, _, b5, _, _⟩ := TC_fr hT (a4.mono Sr_Sc)
    obtain ⟨c1, c2, c3⟩ := a3
    by_cases hkl : k = rn T n p
    · subst hkl
      refine Or.inl ⟨_, ?_, J, K, rfl, ⟨c1, c2, c3⟩, a4⟩
      rcases rn_end (T := T) (n := n) (p := p) with z | z | ⟨z1, z2⟩
      · rw [fX9_readRun_L14]
        repeat (first | (apply bd_eq; (focus (simp (disch := first | assumption | omega | rfl) only [i_rem, i_pred, i_addn1, i_lit, i_n1, i_add, i_mul, i_sub, i_le, i_lt, i_eq, i_ne1, n1_ne, n1_lt, n1_le, i_lt1, i_le1, bd_s, nar_bi, nar_0, nar_1, if_pos, if_neg, ↓reduceIte, reduceCtorEq, eq_self, if_true, if_false, not_true_eq_false, not_false_eq_true, tp_k, tp_fI, tp_fL, tp_pI, tp_pL, tp_z0, tp_z1, tp_fR0, tp0_a, tp0_t, tp0_n, tp_fR1, tp1_a, tp1_t, tp1_n, c1, b1]; first | done | (with_reducible rfl; done))); try dsimp only) | (apply it_p; (focus (first | assumption | (simp (disch := first | assumption | omega | rfl) only [i_rem, i_pred, i_addn1, i_lit, i_n1, i_add, i_mul, i_sub, i_le, i_lt, i_eq, i_ne1, n1_ne, n1_lt, n1_le, i_lt1, i_le1, bd_s, nar_bi, nar_0, nar_1, if_pos, if_neg, ↓reduceIte, reduceCtorEq, eq_self, if_true, if_false, not_true_eq_false, not_false_eq_true, tp_k, tp_fI, tp_fL, tp_pI, tp_pL, tp_z0, tp_z1, tp_fR0, tp0_a, tp0_t, tp0_n, tp_fR1, tp1_a, tp1_t, tp1_n, c1, b1]; first | done | omega)))) | (apply it_n; (focus (first | assumption | (simp (disch := first | assumption | omega | rfl) only [i_rem, i_pred, i_addn1, i_lit, i_n1, i_add, i_mul, i_sub, i_le, i_lt, i_eq, i_ne1, n1_ne, n1_lt, n1_le, i_lt1, i_le1, bd_s, nar_bi, nar_0, nar_1, if_pos, if_neg, ↓reduceIte, reduceCtorEq, eq_self, if_true, if_false, not_true_eq_false, not_false_eq_true, tp_k, tp_fI, tp_fL, tp_pI, tp_pL, tp_z0, tp_z1, tp_fR0, tp0_a, tp0_t, tp0_n, tp_fR1, tp1_a, tp1_t, tp1_n, c1, b1]; first | done | omega)))))
        all_goals rfl
      · rw [fX9_readRun_L14]
        repeat (first | (apply bd_eq; (focus (simp (disch := first | assumption | omega | rfl) only [i_rem, i_pred, i_addn1, i_lit, i_n1, i_add, i_mul, i_sub, i_le, i_lt, i_eq, i_ne1, n1_ne, n1_lt, n1_le, i_lt1, i_le1, bd_s, nar_bi, nar_0, nar_1, if_pos, if_neg, ↓reduceIte, reduceCtorEq, eq_self, if_true, if_false, not_true_eq_false, not_false_eq_true, tp_k, tp_fI, tp_fL, tp_pI, tp_pL, tp_z0, tp_z1, tp_fR0, tp0_a, tp0_t, tp0_n, tp_fR1, tp1_a, tp1_t, tp1_n, c1, b1]; first | done | (with_reducible rfl; done))); try dsimp only) | (apply it_p; (focus (first | assumption | (simp (disch := first | assumption | omega | rfl) only [i_rem, i_pred, i_addn1, i_lit, i_n1, i_add, i_mul, i_sub, i_le, i_lt, i_eq, i_ne1, n1_ne, n1_lt, n1_le, i_lt1, i_le1, bd_s, nar_bi, nar_0, nar_1, if_pos, if_neg, ↓reduceIte, reduceCtorEq, eq_self, if_true, if_false, not_true_eq_false, not_false_eq_true, tp_k, tp_fI, tp_fL, tp_pI, tp_pL, tp_z0, tp_z1, tp_fR0, tp0_a, tp0_t, tp0_n, tp_fR1, tp1_a, tp1_t, tp1_n, c1, b1]; first | done | omega)))) | (apply it_n; (focus (first | assumption | (simp (disch := first | assumption | omega | rfl) only [i_rem, i_pred, i_addn1, i_lit, i_n1, i_add, i_mul, i_sub, i_le, i_lt, i_eq, i_ne1, n1_ne, n1_lt, n1_le, i_lt1, i_le1, bd_s, nar_bi, nar_0, nar_1, if_pos, if_neg, ↓reduceIte, reduceCtorEq, eq_self, if_true, if_false, not_true_eq_false, not_false_eq_true, tp_k, tp_fI, tp_fL, tp_pI, tp_pL, tp_z0, tp_z1, tp_fR0, tp0_a, tp0_t, tp0_n, tp_fR1, tp1_a, tp1_t, tp1_n, c1, b1]; first | done | omega)))))
        all_goals rfl
      · have hL : ¬ (97 ≤ T (p + rn T n p) ∧ T (p + rn T n p) ≤ 122) := fun q => by
          unfold isA isL at z2; rw [decide_eq_true q] at z2; cases z2
        have hD : ¬ (48 ≤ T (p + rn T n p) ∧ T (p + rn T n p) ≤ 57) := fun q => by
          unfold isA isD at z2; rw [decide_eq_true q, Bool.or_true] at z2; cases z2
        have t6 := h6 _ z1
        have b5' := b5 _ z1
        rw [fX9_readRun_L14]
        by_cases q1 : T (p + rn T n p) < 97
        · by_cases q2 : T (p + rn T n p) < 48
          · repeat (first | (apply bd_eq; (focus (simp (disch := first | assumption | omega | rfl) only [i_rem, i_pred, i_addn1, i_lit, i_n1, i_add, i_mul, i_sub, i_le, i_lt, i_eq, i_ne1, n1_ne, n1_lt, n1_le, i_lt1, i_le1, bd_s, nar_bi, nar_0, nar_1, if_pos, if_neg, ↓reduceIte, reduceCtorEq, eq_self, if_true, if_false, not_true_eq_false, not_false_eq_true, tp_k, tp_fI, tp_fL, tp_pI, tp_pL, tp_z0, tp_z1, tp_fR0, tp0_a, tp0_t, tp0_n, tp_fR1, tp1_a, tp1_t, tp1_n, c1, b1, b5']; first | done | (with_reducible rfl; done))); try dsimp only) | (apply it_p; (focus (first | assumption | (simp (disch := first | assumption | omega | rfl) only [i_rem, i_pred, i_addn1, i_lit, i_n1, i_add, i_mul, i_sub, i_le, i_lt, i_eq, i_ne1, n1_ne, n1_lt, n1_le, i_lt1, i_le1, bd_s, nar_bi, nar_0, nar_1, if_pos, if_neg, ↓reduceIte, reduceCtorEq, eq_self, if_true, if_false, not_true_eq_false, not_false_eq_true, tp_k, tp_fI, tp_fL, tp_pI, tp_pL, tp_z0, tp_z1, tp_fR0, tp0_a, tp0_t, tp0_n, tp_fR1, tp1_a, tp1_t, tp1_n, c1, b1, b5']; first | done | omega)))) | (apply it_n; (focus (first | assumption | (simp (disch := first | assumption | omega | rfl) only [i_rem, i_pred, i_addn1, i_lit, i_n1, i_add, i_mul, i_sub, i_le, i_lt, i_eq, i_ne1, n1_ne, n1_lt, n1_le, i_lt1, i_le1, bd_s, nar_bi, nar_0, nar_1, if_pos, if_neg, ↓reduceIte, reduceCtorEq, eq_self, if_true, if_false, not_true_eq_false, not_false_eq_true, tp_k, tp_fI, tp_fL, tp_pI, tp_pL, tp_z0, tp_z1, tp_fR0, tp0_a, tp0_t, tp0_n, tp_fR1, tp1_a, tp1_t, tp1_n, c1, b1, b5']; first | done | omega)))))
            all_goals rfl
          · repeat (first | (apply bd_eq; (focus (simp (disch := first | assumption | omega | rfl) only [i_rem, i_pred, i_addn1, i_lit, i_n1, i_add, i_mul, i_sub, i_le, i_lt, i_eq, i_ne1, n1_ne, n1_lt, n1_le, i_lt1, i_le1, bd_s, nar_bi, nar_0, nar_1, if_pos, if_neg, ↓reduceIte, reduceCtorEq, eq_self, if_true, if_false, not_true_eq_false, not_false_eq_true, tp_k, tp_fI, tp_fL, tp_pI, tp_pL, tp_z0, tp_z1, tp_fR0, tp0_a, tp0_t, tp0_n, tp_fR1, tp1_a, tp1_t, tp1_n, c1, b1, b5']; first | done | (with_reducible rfl; done))); try dsimp only) | (apply it_p; (focus (first | assumption | (simp (disch := first | assumption | omega | rfl) only [i_rem, i_pred, i_addn1, i_lit, i_n1, i_add, i_mul, i_sub, i_le, i_lt, i_eq, i_ne1, n1_ne, n1_lt, n1_le, i_lt1, i_le1, bd_s, nar_bi, nar_0, nar_1, if_pos, if_neg, ↓reduceIte, reduceCtorEq, eq_self, if_true, if_false, not_true_eq_false, not_false_eq_true, tp_k, tp_fI, tp_fL, tp_pI, tp_pL, tp_z0, tp_z1, tp_fR0, tp0_a, tp0_t, tp0_n, tp_fR1, tp1_a, tp1_t, tp1_n, c1, b1, b5']; first | done | omega)))) | (apply it_n; (focus (first | assumption | (simp (disch := first | assumption | omega | rfl) only [i_rem, i_pred, i_addn1, i_lit, i_n1, i_add, i_mul, i_sub, i_le, i_lt, i_eq, i_ne1, n1_ne, n1_lt, n1_le, i_lt1, i_le1, bd_s, nar_bi, nar_0, nar_1, if_pos, if_neg, ↓reduceIte, reduceCtorEq, eq_self, if_true, if_false, not_true_eq_false, not_false_eq_true, tp_k, tp_fI, tp_fL, tp_pI, tp_pL, tp_z0, tp_z1, tp_fR0, tp0_a, tp0_t, tp0_n, tp_fR1, tp1_a, tp1_t, tp1_n, c1, b1, b5']; first | done | omega)))))
            all_goals rfl
        · repeat (first | (apply bd_eq; (focus (simp (disch := first | assumption | omega | rfl) only [i_rem, i_pred, i_addn1, i_lit, i_n1, i_add, i_mul, i_sub, i_le, i_lt, i_eq, i_ne1, n1_ne, n1_lt, n1_le, i_lt1, i_le1, bd_s, nar_bi, nar_0, nar_1, if_pos, if_neg, ↓reduceIte, reduceCtorEq, eq_self, if_true, if_false, not_true_eq_false, not_false_eq_true, tp_k, tp_fI, tp_fL, tp_pI, tp_pL, tp_z0, tp_z1, tp_fR0, tp0_a, tp0_t, tp0_n, tp_fR1, tp1_a, tp1_t, tp1_n, c1, b1, b5']; first | done | (with_reducible rfl; done))); try dsimp only) | (apply it_p; (focus (first | assumption | (simp (disch := first | assumption | omega | rfl) only [i_rem, i_pred, i_addn1, i_lit, i_n1, i_add, i_mul, i_sub, i_le, i_lt, i_eq, i_ne1, n1_ne, n1_lt, n1_le, i_lt1, i_le1, bd_s, nar_bi, nar_0, nar_1, if_pos, if_neg, ↓reduceIte, reduceCtorEq, eq_self, if_true, if_false, not_true_eq_false, not_false_eq_true, tp_k, tp_fI, tp_fL, tp_pI, tp_pL, tp_z0, tp_z1, tp_fR0, tp0_a, tp0_t, tp0_n, tp_fR1, tp1_a, tp1_t, tp1_n, c1, b1, b5']; first | done | omega)))) | (apply it_n; (focus (first | assumption | (simp (disch := first | assumption | omega | rfl) only [i_rem, i_pred, i_addn1, i_lit, i_n1, i_add, i_mul, i_sub, i_le, i_lt, i_eq, i_ne1, n1_ne, n1_lt, n1_le, i_lt1, i_le1, bd_s, nar_bi, nar_0, nar_1, if_pos, if_neg, ↓reduceIte, reduceCtorEq, eq_self, if_true, if_false, not_true_eq_false, not_false_eq_true, tp_k, tp_fI, tp_fL, tp_pI, tp_pL, tp_z0, tp_z1, tp_fR0, tp0_a, tp0_t, tp0_n, tp_fR1, tp1_a, tp1_t, tp1_n, c1, b1, b5']; first | done | omega)))))
          all_goals rfl
    · have hkl : k < rn T n p := by omega
      have hA := rn_in hkl
      have z1 : p + k < n := by omega
      have t6 := h6 _ z1
      have b5' := b5 _ z1
      cases cL : isL (T (p + k)) with
      | true =>
        have hl := of_decide_eq_true cL
        have cD := isLD cL
        have e1 : Int32.toInt64 (i32 (T (p + k) - 97 + 1)) = i64 (T (p + k) - 96) := by
          rw [show T (p + k) - 97 + 1 = T (p + k) - 96 by omega, j_of32 (by omega)]
        refine Or.inr ⟨hkl, (i32 (lc T p (k + 1)), i32 (dg T p (k + 1)), up J 1 4 (i32 (p + k + 1)), upL K 1 8 (K 1 8 * i64 32 + i64 (T (p + k) - 96))), ?_, rfl, rfl, ⟨by dsimp only; exact up_self, fun hz => ?_, fun hz => ?_⟩, (a4.up (by unfold Sr; omega)).upL⟩
        · have q1 : ¬ T (p + k) < 97 := by omega
          have q2 : ¬ 122 < T (p + k) := by omega
          dsimp only
          rw [lc_s, dg_s, cL, cD]
          rw [fX9_readRun_L14]
          repeat (first | (with_reducible apply bd_eq; (focus (simp (disch := first | assumption | omega | rfl) only [i_rem, i_pred, i_addn1, i_lit, i_n1, i_add, i_mul, i_sub, i_le, i_lt, i_eq, i_ne1, n1_ne, n1_lt, n1_le, i_lt1, i_le1, bd_s, nar_bi, nar_0, nar_1, if_pos, if_neg, ↓reduceIte, reduceCtorEq, eq_self, if_true, if_false, not_true_eq_false, not_false_eq_true, tp_k, tp_fI, tp_fL, tp_pI, tp_pL, tp_z0, tp_z1, tp_fR0, tp0_a, tp0_t, tp0_n, tp_fR1, tp1_a, tp1_t, tp1_n, c1, b1, b5', j_lit]; first | done | (with_reducible rfl; done))); try dsimp only) | (with_reducible apply it_p; (focus (first | assumption | (simp (disch := first | assumption | omega | rfl) only [i_rem, i_pred, i_addn1, i_lit, i_n1, i_add, i_mul, i_sub, i_le, i_lt, i_eq, i_ne1, n1_ne, n1_lt, n1_le, i_lt1, i_le1, bd_s, nar_bi, nar_0, nar_1, if_pos, if_neg, ↓reduceIte, reduceCtorEq, eq_self, if_true, if_false, not_true_eq_false, not_false_eq_true, tp_k, tp_fI, tp_fL, tp_pI, tp_pL, tp_z0, tp_z1, tp_fR0, tp0_a, tp0_t, tp0_n, tp_fR1, tp1_a, tp1_t, tp1_n, c1, b1, b5', j_lit]; first | done | omega)))) | (with_reducible apply it_n; (focus (first | assumption | (simp (disch := first | assumption | omega | rfl) only [i_rem, i_pred, i_addn1, i_lit, i_n1, i_add, i_mul, i_sub, i_le, i_lt, i_eq, i_ne1, n1_ne, n1_lt, n1_le, i_lt1, i_le1, bd_s, nar_bi, nar_0, nar_1, if_pos, if_neg, ↓reduceIte, reduceCtorEq, eq_self, if_true, if_false, not_true_eq_false, not_false_eq_true, tp_k, tp_fI, tp_fL, tp_pI, tp_pL, tp_z0, tp_z1, tp_fR0, tp0_a, tp0_t, tp0_n, tp_fR1, tp1_a, tp1_t, tp1_n, c1, b1, b5', j_lit]; first | done | omega)))))
          unfold fX9_readRun_J104_14
          simp (disch := first | assumption | omega | rfl) only [i_rem, i_pred, i_addn1, i_lit, i_n1, i_add, i_mul, i_sub, i_le, i_lt, i_eq, i_ne1, n1_ne, n1_lt, n1_le, i_lt1, i_le1, bd_s, nar_bi, nar_0, nar_1, if_pos, if_neg, ↓reduceIte, reduceCtorEq, eq_self, if_true, if_false, not_true_eq_false, not_false_eq_true, tp_k, tp_fI, tp_fL, tp_pI, tp_pL, tp_z0, tp_z1, tp_fR0, tp0_a, tp0_t, tp0_n, tp_fR1, tp1_a, tp1_t, tp1_n, c1, Bool.false_eq_true, j_lit, e1]
        · dsimp only
          rw [dg_s, cD] at hz
          rw [upL_self, c2 (by simpa using hz), j_mul, j_add]; rfl
        · rw [lc_s, cL] at hz; simp at hz
      | false =>
        have cD := isA_D hA cL
        have hl := of_decide_eq_true cD
        refine Or.inr ⟨hkl, (i32 (lc T p (k + 1)), i32 (dg T p (k + 1)), up (up J 1 7 (J 1 7 * i32 10 + i32 (T (p + k)) - i32 48)) 1 4 (i32 (p + k + 1)), K), ?_, rfl, rfl, ⟨by dsimp only; exact up_self, fun hz => ?_, fun hz => ?_⟩, (a4.up (by unfold Sr; omega)).up (by unfold Sr; omega)⟩
        · have q1 : T (p + k) < 97 := by omega
          have q2 : ¬ T (p + k) < 48 := by omega
          have q3 : ¬ 57 < T (p + k) := by omega
          dsimp only
          rw [lc_s, dg_s, cL, cD]
          rw [fX9_readRun_L14]
          repeat (first | (with_reducible apply bd_eq; (focus (simp (disch := first | assumption | omega | rfl) only [i_rem, i_pred, i_addn1, i_lit, i_n1, i_add, i_mul, i_sub, i_le, i_lt, i_eq, i_ne1, n1_ne, n1_lt, n1_le, i_lt1, i_le1, bd_s, nar_bi, nar_0, nar_1, if_pos, if_neg, ↓reduceIte, reduceCtorEq, eq_self, if_true, if_false, not_true_eq_false, not_false_eq_true, tp_k, tp_fI, tp_fL, tp_pI, tp_pL, tp_z0, tp_z1, tp_fR0, tp0_a, tp0_t, tp0_n, tp_fR1, tp1_a, tp1_t, tp1_n, c1, b1, b5']; first | done | (with_reducible rfl; done))); try dsimp only) | (with_reducible apply it_p; (focus (first | assumption | (simp (disch := first | assumption | omega | rfl) only [i_rem, i_pred, i_addn1, i_lit, i_n1, i_add, i_mul, i_sub, i_le, i_lt, i_eq, i_ne1, n1_ne, n1_lt, n1_le, i_lt1, i_le1, bd_s, nar_bi, nar_0, nar_1, if_pos, if_neg, ↓reduceIte, reduceCtorEq, eq_self, if_true, if_false, not_true_eq_false, not_false_eq_true, tp_k, tp_fI, tp_fL, tp_pI, tp_pL, tp_z0, tp_z1, tp_fR0, tp0_a, tp0_t, tp0_n, tp_fR1, tp1_a, tp1_t, tp1_n, c1, b1, b5']; first | done | omega)))) | (with_reducible apply it_n; (focus (first | assumption | (simp (disch := first | assumption | omega | rfl) only [i_rem, i_pred, i_addn1, i_lit, i_n1, i_add, i_mul, i_sub, i_le, i_lt, i_eq, i_ne1, n1_ne, n1_lt, n1_le, i_lt1, i_le1, bd_s, nar_bi, nar_0, nar_1, if_pos, if_neg, ↓reduceIte, reduceCtorEq, eq_self, if_true, if_false, not_true_eq_false, not_false_eq_true, tp_k, tp_fI, tp_fL, tp_pI, tp_pL, tp_z0, tp_z1, tp_fR0, tp0_a, tp0_t, tp0_n, tp_fR1, tp1_a, tp1_t, tp1_n, c1, b1, b5']; first | done | omega)))))
          unfold fX9_readRun_J73_14
          repeat (first | (with_reducible apply bd_eq; (focus (simp (disch := first | assumption | omega | rfl) only [i_rem, i_pred, i_addn1, i_lit, i_n1, i_add, i_mul, i_sub, i_le, i_lt, i_eq, i_ne1, n1_ne, n1_lt, n1_le, i_lt1, i_le1, bd_s, nar_bi, nar_0, nar_1, if_pos, if_neg, ↓reduceIte, reduceCtorEq, eq_self, if_true, if_false, not_true_eq_false, not_false_eq_true, tp_k, tp_fI, tp_fL, tp_pI, tp_pL, tp_z0, tp_z1, tp_fR0, tp0_a, tp0_t, tp0_n, tp_fR1, tp1_a, tp1_t, tp1_n, c1, b1, b5']; first | done | (with_reducible rfl; done))); try dsimp only) | (with_reducible apply it_p; (focus (first | assumption | (simp (disch := first | assumption | omega | rfl) only [i_rem, i_pred, i_addn1, i_lit, i_n1, i_add, i_mul, i_sub, i_le, i_lt, i_eq, i_ne1, n1_ne, n1_lt, n1_le, i_lt1, i_le1, bd_s, nar_bi, nar_0, nar_1, if_pos, if_neg, ↓reduceIte, reduceCtorEq, eq_self, if_true, if_false, not_true_eq_false, not_false_eq_true, tp_k, tp_fI, tp_fL, tp_pI, tp_pL, tp_z0, tp_z1, tp_fR0, tp0_a, tp0_t, tp0_n, tp_fR1, tp1_a, tp1_t, tp1_n, c1, b1, b5']; first | done | omega)))) | (with_reducible apply it_n; (focus (first | assumption | (simp (disch := first | assumption | omega | rfl) only [i_rem, i_pred, i_addn1, i_lit, i_n1, i_add, i_mul, i_sub, i_le, i_lt, i_eq, i_ne1, n1_ne, n1_lt, n1_le, i_lt1, i_le1, bd_s, nar_bi, nar_0, nar_1, if_pos, if_neg, ↓reduceIte, reduceCtorEq, eq_self, if_true, if_false, not_true_eq_false, not_false_eq_true, tp_k, tp_fI, tp_fL, tp_pI, tp_pL, tp_z0, tp_z1, tp_fR0, tp0_a, tp0_t, tp0_n, tp_fR1, tp1_a, tp1_t, tp1_n, c1, b1, b5']; first | done | omega)))))
          unfold fX9_readRun_J104_14
          simp (disch := first | assumption | omega | rfl) only [i_rem, i_pred, i_addn1, i_lit, i_n1, i_add, i_mul, i_sub, i_le, i_lt, i_eq, i_ne1, n1_ne, n1_lt, n1_le, i_lt1, i_le1, bd_s, nar_bi, nar_0, nar_1, if_pos, if_neg, ↓reduceIte, reduceCtorEq, eq_self, if_true, if_false, not_true_eq_false, not_false_eq_true, tp_k, tp_fI, tp_fL, tp_pI, tp_pL, tp_z0, tp_z1, tp_fR0, tp0_a, tp0_t, tp0_n, tp_fR1, tp1_a, tp1_t, tp1_n, c1, up_ofk, Bool.false_eq_true]
        · rw [dg_s, cD] at hz; simp at hz
        · rw [lc_s, cL] at hz
          dsimp only
          rw [up_ofk (by omega), up_self, c3 (by simpa using hz), i_mul, i_add, i_sub (by omega)]
          show _ = i32 (dv T p k * 10 + (T (p + k) - 48))
          congr 1; omega) (n := N) (by omega) (s := (i32 0, i32 0, I, L)) ⟨rfl, rfl, h0, FrT.rf⟩
  exact ⟨J, K, e, g1, g2⟩
end
