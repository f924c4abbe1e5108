/-! ===== WHAT BOTH HOLD ===== -/
/-- a word, its last letter first (1 .. 26) -/
def cB (β : Nat) : List Nat → Nat
  | [] => 0
  | d :: w => cB β w * β + d
def i64 (n : Nat) : Int64 := Int64.ofNat n
def wOk (w : List Nat) : Prop := 1 ≤ w.length ∧ w.length ≤ 7 ∧ ∀ d, d ∈ w → 1 ≤ d ∧ d ≤ 26
/-- names: 0.. bands, 6.. writers, 10.. laws -/
def nOk (H : Nat → Nat) (W : Nat → List Nat) : Prop := (∀ b, b < H 0 → wOk (W b)) ∧ (∀ w, w < H 1 → wOk (W (6 + w))) ∧ (∀ l, l < H 2 → wOk (W (10 + l)))
def NS (s : Nat) (H : Nat → Nat) (W : Nat → List Nat) (L : Nat → Nat → Int64) : Prop := (∀ b, b < H 0 → L (s + 1) b = i64 (cB 32 (W b))) ∧ (∀ w, w < H 1 → L (s + 5) w = i64 (cB 32 (W (6 + w)))) ∧ (∀ l, l < H 2 → L (s + 7) l = i64 (cB 32 (W (10 + l))))
def NM (h : Nat → Int64) (p : Nat) (H : Nat → Nat) (W : Nat → List Nat) : Prop := (∀ b, b < H 0 → h (p + b) = i64 (cB 27 (W b))) ∧ (∀ w, w < H 1 → h (p + (6 + w)) = i64 (cB 27 (W (6 + w)))) ∧ (∀ l, l < H 2 → h (p + (10 + l)) = i64 (cB 27 (W (10 + l))))
/-- what a sentence says: of what is so, and of a band -/
abbrev Say : Type := (Nat → Int32) → Nat → Bool
abbrev Abs : Type := (Nat → Nat) × (Nat → List Nat) × (Nat → Int32) × Option Say
def cmpR (r : Nat) (v : Int32) (y : Nat) : Bool := if r = 60 then decide (v < i32 y) else if r = 61 then decide (v = i32 y) else decide (i32 y < v)
/-- one that stands alone: k its word (11 ..), x a law, a writer or the sign of a comparison, y a number -/
def atm (H : Nat → Nat) (k x y : Nat) : Say := fun B b =>
  if k = 11 then decide (cn B b = 0) else if k = 12 then decide (cn B b = H (11 + b)) else if k = 13 then !decide (tdA H (B 0).toNatClampNeg < i32 (H (5 + b)))
  else if k = 14 then rdI H B x b else if k = 15 then exb (fun p => decide (B (92 + (12 * b + p)) = i32 x)) 12
  else if k = 16 then cmpR x (i32 (H (5 + b))) y else if k = 17 then cmpR x (i32 (cn B b)) y else if k = 18 then cmpR x (B (14 + b)) y else cmpR x (i32 b) y
def atOk (H : Nat → Nat) (k x y : Nat) : Prop := 11 ≤ k ∧ k ≤ 19 ∧ (k = 14 → x < H 2) ∧ (k = 15 → x < H 1) ∧ (16 ≤ k → 60 ≤ x ∧ x ≤ 62) ∧ y ≤ 999 ∧ x < 1000
/-- a step of the class over a stack, the top first -/
def exS (H : Nat → Nat) (B : Nat → Int32) (b : Nat) (t : Nat × Nat × Nat) (s : List Bool) : List Bool :=
  if t.1 = 10 then (match s with
    | x :: s' => (!x) :: s'
    | [] => [false])
  else if t.1 = 9 then (match s with
    | y :: x :: s' => (x && y) :: s'
    | s' => false :: s')
  else if t.1 = 8 then (match s with
    | y :: x :: s' => (x || y) :: s'
    | s' => false :: s')
  else atm H t.1 t.2.1 t.2.2 B b :: s
def exL (H : Nat → Nat) (B : Nat → Int32) (b : Nat) (c : List (Nat × Nat × Nat)) (s : List Bool) : List Bool := c.foldl (fun s t => exS H B b t s) s
def stOk (H : Nat → Nat) (t : Nat × Nat × Nat) : Prop := t.1 = 8 ∨ t.1 = 9 ∨ t.1 = 10 ∨ atOk H t.1 t.2.1 t.2.2
/-- the class's steps, in the sentence e -/
def CS (e : Nat) (c : List (Nat × Nat × Nat)) (I : Nat → Nat → Int32) : Prop := I e 5 = i32 c.length ∧ c.length ≤ 40 ∧ ∀ i, i < c.length → I (e + 1) i = i32 (c.getD i (0, 0, 0)).1 ∧ I (e + 2) i = i32 (c.getD i (0, 0, 0)).2.1 ∧ I (e + 3) i = i32 (c.getD i (0, 0, 0)).2.2
def SS (e : Nat) (H : Nat → Nat) (D : Option Say) (I : Nat → Nat → Int32) : Prop := match D with
  | none => I e 6 = i32 0
  | some d => (∃ o, 1 ≤ o ∧ o ≤ 20 ∧ I e 6 = i32 o) ∧ ∃ c, CS e c I ∧ (∀ t, t ∈ c → stOk H t) ∧ ∀ B b, exL H B b c [] = [d B b]
/-- the reference's node k, in the row g from o on, says d -/
def nd (H : Nat → Nat) (g : Nat → Int32) (o : Nat) : Nat → Nat → Say → Prop
  | 0, _, _ => False
  | f + 1, k, d => k < 60 ∧ ((∃ x d1, g (o + 4 * k) = i32 1 ∧ g (o + 4 * k + 1) = i32 x ∧ nd H g o f x d1 ∧ ∀ B b, d B b = !(d1 B b)) ∨
    (∃ x y d1 d2, g (o + 4 * k) = i32 2 ∧ g (o + 4 * k + 1) = i32 x ∧ g (o + 4 * k + 2) = i32 y ∧ nd H g o f x d1 ∧ nd H g o f y d2 ∧ ∀ B b, d B b = (d1 B b && d2 B b)) ∨
    (∃ x y d1 d2, g (o + 4 * k) = i32 3 ∧ g (o + 4 * k + 1) = i32 x ∧ g (o + 4 * k + 2) = i32 y ∧ nd H g o f x d1 ∧ nd H g o f y d2 ∧ ∀ B b, d B b = (d1 B b || d2 B b)) ∨
    (∃ q x y, g (o + 4 * k) = i32 (50 + q) ∧ atOk H q x y ∧ (q < 16 → g (o + 4 * k + 1) = i32 x) ∧ (16 ≤ q → g (o + 4 * k + 2) = i32 y ∧ g (o + 4 * k + 3) = i32 x) ∧ ∀ B b, d B b = atm H q x y B b))
def SM (g : Nat → Int32) (o : Nat) (H : Nat → Nat) (D : Option Say) : Prop := match D with
  | none => g o = i32 0
  | some d => g o = i32 1 ∧ ∃ t, g (o + 1) = i32 t ∧ nd H g (o + 2) 60 t d
/-- whether 'lapse' was told -/
def LT (s : Nat) (I : Nat → Nat → Int32) : Prop := I s 15 = i32 0 ∨ I s 15 = i32 1
def CA (A : Abs) (s a e : Nat) (I : Nat → Nat → Int32) (L : Nat → Nat → Int64) : Prop := RS s A.1 I ∧ NS s A.1 A.2.1 L ∧ BR a A.2.2.1 I ∧ SS e A.1 A.2.2.2 I ∧ LT s I
def MA (A : Abs) (g : Nat → Int32) (o : Nat) (h : Nat → Int64) (p : Nat) : Prop := MH g o A.1 ∧ NM h p A.1 A.2.1 ∧ MB g (o + 35) A.2.2.1 ∧ SM g (o + 199) A.1 A.2.2.2
def aOk (A : Abs) : Prop := hOk A.1 ∧ nOk A.1 A.2.1 ∧ bOk A.1 A.2.2.1
def CG (o : Option Abs) (k : Nat) (I : Nat → Nat → Int32) (L : Nat → Nat → Int64) : Prop := match o with
  | none => I 137 k = i32 0
  | some A => I 137 k = i32 1 ∧ CA A (138 + 24 * k) (149 + 24 * k) (157 + 24 * k) I L
def MG (o : Option Abs) (k : Nat) (I : Nat → Nat → Int32) (L : Nat → Nat → Int64) : Prop := match o with
  | none => I 196 k = i32 0
  | some A => I 196 k = i32 1 ∧ MA A (I 190) (441 * k) (L 195) (16 * k)
/-- the keywords, their last letters first -/
def kwL : List (List Nat) := [[4, 14, 1, 2], [5, 4, 9, 20], [18, 5, 20, 9, 18, 23], [23, 1, 12], [5, 19, 16, 1, 12], [19, 5, 20, 9, 18, 23], [4, 1, 5, 18, 20], [18, 21, 15, 8], [18, 15], [4, 14, 1], [20, 15, 14], [5, 18, 1, 2], [12, 12, 21, 6], [20, 5, 23], [19, 4, 12, 15, 8], [25, 2], [20, 8, 7, 9, 5, 8], [19, 14, 7, 9, 19], [4, 5, 8, 19, 1, 23], [18, 5, 2, 13, 21, 14]]
def kwd (k : Nat) : List Nat := kwL.getD k []
def CT (n : Nat) (T : Nat → Nat) (f : Int32) (I : Nat → Nat → Int32) (L : Nat → Nat → Int64) : Prop := I 1 2 = i32 n ∧ n ≤ 940 ∧ I 1 10 = f ∧ (∀ k, k < n → I 2 k = i32 (T k)) ∧ ∀ k, k < 20 → L 3 k = i64 (cB 32 (kwd k))
def MT (n : Nat) (T : Nat → Nat) (f : Int32) (I : Nat → Nat → Int32) : Prop := I 186 2 = i32 n ∧ I 186 10 = f ∧ ∀ k, k < n → I 187 k = i32 (T k)
/-- what the latest answers were: mend's, room's, book's, the row -/
abbrev Ans : Type := (Nat → Int32) × (Nat → Int32) × (Nat → Int32) × Nat × (Nat → Int32)
def CE (E : Ans) (I : Nat → Nat → Int32) : Prop := (∀ k, k < 3 → I 127 (1 + k) = E.1 k) ∧ (∀ l, l < 6 → I 131 l = E.2.1 l) ∧ (∀ k, k < 4 → I 108 (7 + k) = E.2.2.1 k) ∧ I 0 14 = i32 E.2.2.2.1 ∧ E.2.2.2.1 ≤ 20 ∧ ∀ k, k < E.2.2.2.1 → I 133 k = E.2.2.2.2 k
def oneOf (c : Int32) (g e : Nat → Int32) (m : Nat) : Prop := (c = i32 0 ∧ ∀ k, k < m → e k = n1) ∨ (c = i32 1 ∧ ∀ k, k < m → g k = e k)
def rooOf (c u : Int32) (g e : Nat → Int32) : Prop := (c = i32 0 ∧ ∀ k, k < 6 → e k = n1) ∨ (c = i32 1 ∧ ∃ m, m ≤ 6 ∧ u = i32 m ∧ (∀ k, k < m → g k = e k) ∧ ∀ k, m ≤ k → k < 6 → e k = n1)
def ME (E : Ans) (I : Nat → Nat → Int32) : Prop := oneOf (I 186 27) (I 198) E.1 3 ∧ rooOf (I 186 32) (I 186 31) (I 200) E.2.1 ∧ oneOf (I 186 39) (I 204) E.2.2.1 4 ∧ I 186 34 = i32 E.2.2.2.1 ∧ ∀ k, k < E.2.2.2.1 → I 202 k = E.2.2.2.2 k
def WC (A : Abs) (G : Nat → Option Abs) (s : Nat) (P : Nat → Nat → Int32) (n : Nat) (T : Nat → Nat) (f : Int32) (E : Ans) (I : Nat → Nat → Int32) (L : Nat → Nat → Int64) : Prop := CA A 4 26 114 I L ∧ PR s P I ∧ (∀ k, k < 2 → CG (G k) k I L) ∧ CT n T f I L ∧ CE E I
def WM (A : Abs) (G : Nat → Option Abs) (s : Nat) (P : Nat → Nat → Int32) (n : Nat) (T : Nat → Nat) (f : Int32) (E : Ans) (I : Nat → Nat → Int32) (L : Nat → Nat → Int64) : Prop := MA A (I 188) 0 (L 193) 0 ∧ MP s P I ∧ (∀ k, k < 2 → MG (G k) k I L) ∧ MT n T f I ∧ ME E I
def inv (A : Abs) (G : Nat → Option Abs) (s : Nat) (P : Nat → Nat → Int32) (n : Nat) (T : Nat → Nat) : Prop := aOk A ∧ (∀ k, k < 2 → ∀ A', G k = some A' → aOk A') ∧ (∀ j, j < s → bOk A.1 (P j)) ∧ ∀ k, k < n → T k < 256
def Ok (I : Nat → Nat → Int32) (L : Nat → Nat → Int64) : Prop := ∃ A G s P n T f E, WC A G s P n T f E I L ∧ WM A G s P n T f E I L ∧ inv A G s P n T
/-- a call on both: the same answer, and all is well behind it -/
def Step2 (f g : Mem → Option (Int32 × Mem)) (I : Nat → Nat → Int32) (L : Nat → Nat → Int64) (r : Bool) : Prop := ∃ x I1 L1 r1 I2 L2, f (mk I L r) = some (x, mk I1 L1 r1) ∧ g (mk I1 L1 r1) = some (x, mk I2 L2 r1) ∧ Ok I2 L2
section
variable {A : Abs} {G : Nat → Option Abs} {s n : Nat} {P : Nat → Nat → Int32} {T : Nat → Nat} {f : Int32} {E : Ans} {I J : Nat → Nat → Int32} {L K : Nat → Nat → Int64} {r : Bool}
theorem RS_of {s : Nat} {H : Nat → Nat} (e : ∀ q, s ≤ q → q ≤ s + 10 → J q = I q) (h : RS s H I) : RS s H J := by
  unfold RS at *
  simp only [e s (by omega) (by omega), e (s + 2) (by omega) (by omega), e (s + 3) (by omega) (by omega), e (s + 4) (by omega) (by omega), e (s + 6) (by omega) (by omega), e (s + 8) (by omega) (by omega), e (s + 9) (by omega) (by omega), e (s + 10) (by omega) (by omega)]
  exact h
theorem NS_of {s : Nat} {H : Nat → Nat} {W : Nat → List Nat} (e : ∀ q, s ≤ q → q ≤ s + 10 → K q = L q) (h : NS s H W L) : NS s H W K := by
  unfold NS at *
  simp only [e (s + 1) (by omega) (by omega), e (s + 5) (by omega) (by omega), e (s + 7) (by omega) (by omega)]
  exact h
theorem BR_of {a : Nat} {B : Nat → Int32} (e : ∀ q, a ≤ q → q ≤ a + 6 → J q = I q) (h : BR a B I) : BR a B J := by
  unfold BR at *
  simp only [e a (by omega) (by omega), e (a + 5) (by omega) (by omega), e (a + 6) (by omega) (by omega), e (a + 4) (by omega) (by omega), e (a + 1) (by omega) (by omega), e (a + 2) (by omega) (by omega), e (a + 3) (by omega) (by omega)]
  exact h
theorem CS_of {e : Nat} {c : List (Nat × Nat × Nat)} (h0 : ∀ q, e ≤ q → q ≤ e + 3 → J q = I q) (h : CS e c I) : CS e c J := by
  unfold CS at *
  simp only [h0 e (by omega) (by omega), h0 (e + 1) (by omega) (by omega), h0 (e + 2) (by omega) (by omega), h0 (e + 3) (by omega) (by omega)]
  exact h
theorem SS_of {e : Nat} {H : Nat → Nat} {D : Option Say} (h0 : ∀ q, e ≤ q → q ≤ e + 3 → J q = I q) (h : SS e H D I) : SS e H D J := by
  cases D with
  | none =>
    show J e 6 = i32 0
    rw [h0 e (by omega) (by omega)]; exact h
  | some d =>
    obtain ⟨⟨o, h1, h2, h3⟩, c, h4, h5, h6⟩ := h
    exact ⟨⟨o, h1, h2, by rw [h0 e (by omega) (by omega)]; exact h3⟩, c, CS_of h0 h4, h5, h6⟩
theorem LT_of {s : Nat} (e : J s = I s) (h : LT s I) : LT s J := by
  unfold LT at *; rw [e]; exact h
theorem PR_of (e : ∀ q, 42 ≤ q → q < 108 → J q = I q) (h : PR s P I) : PR s P J := by
  obtain ⟨f, h1, h2, h3, h4, h5⟩ := h
  refine ⟨f, h1, h2, by rw [e 42 (by omega) (by omega)]; exact h3, by rw [e 42 (by omega) (by omega)]; exact h4, fun j hj => ?_⟩
  have := Nat.mod_lt (f + j) (show 8 > 0 by omega)
  exact BR_of (fun q h1 h2 => e q (by omega) (by omega)) (h5 j hj)
theorem CG_of {o : Option Abs} {k : Nat} (hk : k < 2) (e : ∀ q, 137 ≤ q → q < 186 → J q = I q) (e2 : ∀ q, 137 ≤ q → q < 186 → K q = L q) (h : CG o k I L) : CG o k J K := by
  cases o with
  | none =>
    show J 137 k = i32 0
    rw [e 137 (by omega) (by omega)]; exact h
  | some A =>
    obtain ⟨h1, h2, h3, h4, h5, h6⟩ := h
    exact ⟨by rw [e 137 (by omega) (by omega)]; exact h1, RS_of (fun q h1 h2 => e q (by omega) (by omega)) h2, NS_of (fun q h1 h2 => e2 q (by omega) (by omega)) h3, BR_of (fun q h1 h2 => e q (by omega) (by omega)) h4, SS_of (fun q h1 h2 => e q (by omega) (by omega)) h5, LT_of (e _ (by omega) (by omega)) h6⟩
theorem CT_of (e1 : J 1 = I 1) (e2 : J 2 = I 2) (e3 : K 3 = L 3) (h : CT n T f I L) : CT n T f J K := by
  unfold CT at *; rw [e1, e2, e3]; exact h
theorem CE_of (e1 : J 127 = I 127) (e2 : J 131 = I 131) (e3 : J 108 = I 108) (e4 : J 0 = I 0) (e5 : J 133 = I 133) (h : CE E I) : CE E J := by
  unfold CE at *; rw [e1, e2, e3, e4, e5]; exact h
theorem WC_of (e : ∀ q, q < 186 → J q = I q) (e2 : ∀ q, q < 186 → K q = L q) (h : WC A G s P n T f E I L) : WC A G s P n T f E J K := by
  obtain ⟨⟨h1, h2, h3, h4, h9⟩, h5, h6, h7, h8⟩ := h
  exact ⟨⟨RS_of (fun q _ h2 => e q (by omega)) h1, NS_of (fun q _ h2 => e2 q (by omega)) h2, BR_of (fun q _ h2 => e q (by omega)) h3, SS_of (fun q _ h2 => e q (by omega)) h4, LT_of (e _ (by omega)) h9⟩, PR_of (fun q _ h2 => e q (by omega)) h5, fun k hk => CG_of hk (fun q _ h2 => e q h2) (fun q _ h2 => e2 q h2) (h6 k hk), CT_of (e 1 (by omega)) (e 2 (by omega)) (e2 3 (by omega)) h7, CE_of (e _ (by omega)) (e _ (by omega)) (e _ (by omega)) (e _ (by omega)) (e _ (by omega)) h8⟩
theorem MG_of {o : Option Abs} {k : Nat} (e1 : J 196 = I 196) (e2 : J 190 = I 190) (e3 : K 195 = L 195) (h : MG o k I L) : MG o k J K := by
  unfold MG at *; rw [e1, e2, e3]; exact h
theorem WM_of (e : ∀ q, 187 ≤ q → J q = I q) (e0 : ∀ k, k ≠ 0 → J 186 k = I 186 k) (e2 : K 193 = L 193) (e3 : K 195 = L 195) (h : WM A G s P n T f E I L) : WM A G s P n T f E J K := by
  obtain ⟨h1, h2, h3, h4, h5⟩ := h
  refine ⟨?_, ?_, ?_, ?_, ?_⟩
  · rw [e 188 (by omega), e2]; exact h1
  · unfold MP at *; rw [e 191 (by omega), e0 24 (by omega)]; exact h2
  · exact fun k hk => MG_of (e _ (by omega)) (e _ (by omega)) e3 (h3 k hk)
  · unfold MT at *; rw [e 187 (by omega), e0 2 (by omega), e0 10 (by omega)]; exact h4
  · unfold ME at *; rw [e 198 (by omega), e 200 (by omega), e 202 (by omega), e 204 (by omega), e0 27 (by omega), e0 32 (by omega), e0 31 (by omega), e0 39 (by omega), e0 34 (by omega)]; exact h5
/-- the class has changed, the reference hasn't -/
theorem WM_c (e : ∀ q, 186 ≤ q → J q = I q) (e2 : ∀ q, 186 ≤ q → q < 206 → K q = L q) (h : WM A G s P n T f E I L) : WM A G s P n T f E J K := WM_of (fun q hq => e q (by omega)) (fun k _ => by rw [e 186 (by omega)]) (e2 _ (by omega) (by omega)) (e2 _ (by omega) (by omega)) h
theorem WM_t {v : Int32} (h : WM A G s P n T f E I L) : WM A G s P n T f E (up I 186 0 v) L := WM_of (fun q hq => up_row (by omega)) (fun k hk => up_ofk hk) rfl rfl h
theorem WC_t {v : Int32} {k : Nat} (h : WC A G s P n T f E I L) : WC A G s P n T f E (up I 186 k v) L := WC_of (fun q hq => up_row (by omega)) (fun _ _ => rfl) h
theorem WM_R (h : WM A G s P n T f E I L) : MR A.1 A.2.2.1 I := ⟨h.1.1, by have := h.1.2.2.1; rwa [Nat.zero_add] at this⟩
/-- a question: nothing changes but 'thrown' -/
theorem Step_q {F g : Mem → Option (Int32 × Mem)} {x v : Int32} (h : WC A G s P n T f E I L ∧ WM A G s P n T f E I L ∧ inv A G s P n T) (h1 : F (mk I L r) = some (x, mk I L r)) (h2 : g (mk I L r) = some (x, mk (up I 186 0 v) L r)) : Step2 F g I L r := ⟨x, I, L, r, _, L, h1, h2, A, G, s, P, n, T, f, E, WC_t h.1, WM_t h.2.1, h.2.2⟩
end
