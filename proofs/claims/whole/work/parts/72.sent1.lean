/-! ===== A SENTENCE, AS IT IS READ ===== -/
abbrev Cod : Type := List (Nat × Nat × Nat)
/-- a fault and its place; or how many ones there are now, the token behind, the steps, what is said -/
abbrev Ps : Type := (Nat × Nat) ⊕ (Nat × Tok × Cod × Say)
def isBk (t : Tok) : Bool := decide (t.1 = 3 ∧ t.2.2.2.2 = 40)
/-- the number of a one's first word: 10 .. 19, or 20 for a bracket -/
def stW (t : Tok) : Option Nat := if isBk t = true then some 20 else match kk t with
  | some k => if 10 ≤ k then some k else none
  | none => none
def rlO (n : Nat) (T : Nat → Nat) (m : Nat) (t : Tok) : Oc := if t.1 = 3 ∧ 60 ≤ t.2.2.2.2 ∧ t.2.2.2.2 ≤ 62 then .inr (nt n T m t) else .inl (1, t.2.1)
def plO (n : Nat) (T : Nat → Nat) (m : Nat) (H : Nat → Nat) (W : Nat → List Nat) (q : Nat) (t : Tok) : Oc := if q = 14 then nfO n T m (H 2) (fun i => W (10 + i)) (.inr t) else if q = 15 then nfO n T m (H 1) (fun i => W (6 + i)) (.inr t) else if q < 16 then .inr t else oN n T m 0 999 (rlO n T m t)
def plX (n : Nat) (T : Nat → Nat) (m : Nat) (H : Nat → Nat) (W : Nat → List Nat) (q : Nat) (t : Tok) : Nat := if q = 14 then nfV (H 2) (fun i => W (10 + i)) (.inr t) else if q = 15 then nfV (H 1) (fun i => W (6 + i)) (.inr t) else if q < 16 then 0 else t.2.2.2.2
def plY (n : Nat) (T : Nat → Nat) (m : Nat) (q : Nat) (t : Tok) : Nat := if q < 16 then 0 else vN 0 999 (rlO n T m t)
def dOr (p : Option Say) (d : Say) : Say := match p with
  | none => d
  | some p => fun B b => p B b || d B b
def dAnd (p d : Say) : Say := fun B b => p B b && d B b
def dNot (d : Say) : Say := fun B b => !d B b
/-- joined by 'and' and 'or': p what was said before the last 'or', d since -/
def pFl (n : Nat) (T : Nat → Nat) (m : Nat) (P : Nat → Tok → Ps) : Nat → Nat → Tok → Option Say → Say → Cod → Nat → Ps
  | 0, _, _, _, _, _, _ => .inl (4, 0)
  | F + 1, k, t, p, d, c, v => if kk t = some 9 then (match P k (nt n T m t) with
      | .inl e => .inl e
      | .inr x => pFl n T m P F x.1 x.2.1 p (dAnd d x.2.2.2) (c ++ x.2.2.1 ++ [(9, 0, 0)]) v)
    else if kk t = some 8 then (match P k (nt n T m t) with
      | .inl e => .inl e
      | .inr x => pFl n T m P F x.1 x.2.1 (some (dOr p d)) x.2.2.2 (c ++ x.2.2.1) (v + 1))
    else .inr (k, t, c ++ List.replicate v (8, 0, 0), dOr p d)
def pCo (n : Nat) (T : Nat → Nat) (m : Nat) (P : Nat → Tok → Ps) (k : Nat) (t : Tok) : Ps := match P k t with
  | .inl e => .inl e
  | .inr x => pFl n T m P 21 x.1 x.2.1 none x.2.2.2 x.2.2.1 0
/-- one, with g levels left -/
def pOn (n : Nat) (T : Nat → Nat) (m : Nat) (H : Nat → Nat) (W : Nat → List Nat) : Nat → Nat → Tok → Ps
  | 0, _, t => if stW t = none then .inl (1, t.2.1) else .inl (4, t.2.1)
  | g + 1, k, t => match stW t with
    | none => .inl (1, t.2.1)
    | some q => if 20 ≤ k then .inl (4, t.2.1)
      else if q = 10 then (match pOn n T m H W g (k + 1) (nt n T m t) with
        | .inl e => .inl e
        | .inr x => .inr (x.1, x.2.1, x.2.2.1 ++ [(10, 0, 0)], dNot x.2.2.2))
      else if q = 20 then (match pCo n T m (pOn n T m H W g) (k + 1) (nt n T m t) with
        | .inl e => .inl e
        | .inr x => match oM n T m 41 (.inr x.2.1) with
          | .inl e => .inl e
          | .inr t' => .inr (x.1, t', x.2.2.1, x.2.2.2))
      else match plO n T m H W q (nt n T m t) with
        | .inl e => .inl e
        | .inr t' => .inr (k + 1, t', [(q, plX n T m H W q (nt n T m t), plY n T m q (nt n T m t))], atm H q (plX n T m H W q (nt n T m t)) (plY n T m q (nt n T m t)))
/-- what holds of all that is read: ones, steps, their sense -/
def psG (n : Nat) (H : Nat → Nat) (k : Nat) (o : Ps) : Prop := match o with
  | .inl e => 1 ≤ e.1 ∧ e.1 ≤ 4
  | .inr x => k < x.1 ∧ x.1 ≤ 20 ∧ tOk n x.2.1 ∧ x.2.2.1.length + 1 ≤ 2 * (x.1 - k) ∧ (∀ t, t ∈ x.2.2.1 → stOk H t) ∧ ∀ B b s, exL H B b x.2.2.1 s = x.2.2.2 B b :: s
section
variable {T : Nat → Nat} {n m : Nat} {t : Tok} {H : Nat → Nat} {W : Nat → List Nat}
theorem exL_app {B : Nat → Int32} {b : Nat} {c c' : Cod} {s : List Bool} : exL H B b (c ++ c') s = exL H B b c' (exL H B b c s) := by
  unfold exL; exact List.foldl_append
theorem stW_q {q : Nat} (h : stW t = some q) : (q = 20 ∧ isBk t = true) ∨ (isBk t = false ∧ kk t = some q ∧ 10 ≤ q ∧ q ≤ 19) := by
  unfold stW at h
  by_cases c1 : isBk t = true
  · rw [if_pos c1] at h
    cases h; exact Or.inl ⟨rfl, c1⟩
  · rw [if_neg c1] at h
    cases hk : kk t with
    | none => rw [hk] at h; cases h
    | some k =>
      rw [hk] at h
      dsimp only at h
      by_cases c2 : 10 ≤ k
      · rw [if_pos c2] at h
        cases h
        have := (kk_lt hk).2.1
        refine Or.inr ⟨?_, rfl, c2, by omega⟩
        cases hb : isBk t with
        | true => exact absurd hb c1
        | false => rfl
      · rw [if_neg c2] at h; cases h
def orZ (p : Option Say) (B : Nat → Int32) (b : Nat) (z : Bool) : Bool := match p with
  | none => z
  | some p => p B b || z
def Inv8 (H : Nat → Nat) (p : Option Say) (d : Say) (c : Cod) (v : Nat) : Prop := ∀ B b, ∃ q : List Bool, (∀ s, exL H B b c s = d B b :: (q ++ s)) ∧ ∀ z s, exL H B b (List.replicate v (8, 0, 0)) (z :: (q ++ s)) = orZ p B b z :: s
theorem inv_0 {d : Say} {c : Cod} (h : ∀ B b s, exL H B b c s = d B b :: s) : Inv8 H none d c 0 := fun B b => ⟨[], fun s => h B b s, fun z s => rfl⟩
theorem inv_and {p : Option Say} {d d' : Say} {c c' : Cod} {v : Nat} (h : Inv8 H p d c v) (h' : ∀ B b s, exL H B b c' s = d' B b :: s) : Inv8 H p (dAnd d d') (c ++ c' ++ [(9, 0, 0)]) v := by
  intro B b
  obtain ⟨q, h1, h2⟩ := h B b
  refine ⟨q, fun s => ?_, h2⟩
  rw [exL_app, exL_app, h1, h']
  rfl
theorem inv_or {p : Option Say} {d d' : Say} {c c' : Cod} {v : Nat} (h : Inv8 H p d c v) (h' : ∀ B b s, exL H B b c' s = d' B b :: s) : Inv8 H (some (dOr p d)) d' (c ++ c') (v + 1) := by
  intro B b
  obtain ⟨q, h1, h2⟩ := h B b
  refine ⟨d B b :: q, fun s => ?_, fun z s => ?_⟩
  · rw [exL_app, h1, h']; rfl
  · rw [List.replicate_succ]
    have : exL H B b ((8, 0, 0) :: List.replicate v (8, 0, 0)) (z :: (d B b :: q ++ s)) = exL H B b (List.replicate v (8, 0, 0)) ((d B b || z) :: (q ++ s)) := rfl
    rw [this, h2]
    cases p with
    | none => rfl
    | some p =>
      show (p B b || (d B b || z)) :: s = ((p B b || d B b) || z) :: s
      rw [Bool.or_assoc]
theorem inv_e {p : Option Say} {d : Say} {c : Cod} {v : Nat} (h : Inv8 H p d c v) {B : Nat → Int32} {b : Nat} {s : List Bool} : exL H B b (c ++ List.replicate v (8, 0, 0)) s = dOr p d B b :: s := by
  obtain ⟨q, h1, h2⟩ := h B b
  rw [exL_app, h1, h2]
  cases p <;> rfl
theorem pFl_ok {P : Nat → Tok → Ps} (h9 : n ≤ 940) (hT : ∀ k, k < n → T k < 256) (hP : ∀ k t, tOk n t → psG n H k (P k t)) : ∀ F k t p d c v k0, k0 < k → k ≤ 20 → tOk n t → c.length + v + 1 ≤ 2 * (k - k0) → (∀ t, t ∈ c → stOk H t) → Inv8 H p d c v → psG n H k0 (pFl n T m P F k t p d c v) := by
  intro F
  induction F with
  | zero => intro k t p d c v k0 _ _ _ _ _ _; exact ⟨by decide, by decide⟩
  | succ F ih =>
    intro k t p d c v k0 h1 h2 ht hc hs hi
    have ht' : tOk n (nt n T m t) := nx_ok h9 ht.2.2.1 hT
    rw [pFl]
    by_cases c9 : kk t = some 9
    · rw [if_pos c9]
      have := hP k (nt n T m t) ht'
      cases hx : P k (nt n T m t) with
      | inl e => rw [hx] at this; exact this
      | inr x =>
        rw [hx] at this
        obtain ⟨a1, a2, a3, a4, a5, a6⟩ := this
        refine ih _ _ _ _ _ _ _ (by omega) a2 a3 ?_ ?_ (inv_and hi a6)
        · rw [List.length_append, List.length_append]
          show c.length + x.2.2.1.length + 1 + v + 1 ≤ _
          omega
        · intro t ht
          rcases List.mem_append.mp ht with ht | ht
          · rcases List.mem_append.mp ht with ht | ht
            · exact hs t ht
            · exact a5 t ht
          · have : t = (9, 0, 0) := by simpa using ht
            rw [this]; exact Or.inr (Or.inl rfl)
    · rw [if_neg c9]
      by_cases c8 : kk t = some 8
      · rw [if_pos c8]
        have := hP k (nt n T m t) ht'
        cases hx : P k (nt n T m t) with
        | inl e => rw [hx] at this; exact this
        | inr x =>
          rw [hx] at this
          obtain ⟨a1, a2, a3, a4, a5, a6⟩ := this
          refine ih _ _ _ _ _ _ _ (by omega) a2 a3 ?_ ?_ (inv_or hi a6)
          · rw [List.length_append]
            omega
          · intro t ht
            rcases List.mem_append.mp ht with ht | ht
            · exact hs t ht
            · exact a5 t ht
      · rw [if_neg c8]
        refine ⟨h1, h2, ht, ?_, ?_, fun B b s => inv_e hi⟩
        · dsimp only
          rw [List.length_append, List.length_replicate]; omega
        · intro t ht
          rcases List.mem_append.mp ht with ht | ht
          · exact hs t ht
          · rw [(List.mem_replicate.mp ht).2]; exact Or.inl rfl
theorem pCo_ok {P : Nat → Tok → Ps} {k : Nat} (h9 : n ≤ 940) (hT : ∀ k, k < n → T k < 256) (hP : ∀ k t, tOk n t → psG n H k (P k t)) (ht : tOk n t) : psG n H k (pCo n T m P k t) := by
  unfold pCo
  have := hP k t ht
  cases hx : P k t with
  | inl e => rw [hx] at this; exact this
  | inr x =>
    rw [hx] at this
    obtain ⟨a1, a2, a3, a4, a5, a6⟩ := this
    exact pFl_ok h9 hT hP 21 x.1 x.2.1 none x.2.2.2 x.2.2.1 0 k a1 a2 a3 (by omega) a5 (inv_0 a6)
end
