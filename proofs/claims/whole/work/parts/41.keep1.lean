/-! ===== HOW SELDOM ONE MUST WRITE IT ===== -/
def wz (H : Nat → Nat) (h g i : Nat) : Bool := decide (¬ tdA H (h + i) < i32 g)
def uP (H : Nat → Nat) (h g i m : Nat) : Nat := match fd (fun k => wz H h g (i + k)) m with
  | some k => i + k
  | none => i + m
def nxK (H : Nat → Nat) (h i a g : Nat) : Option (Nat × Nat) := if 0 < g ∧ wz H h g i = false then some (0, g) else if a + 1 < H 4 then some (a + 1, 0) else none
def stK (H : Nat → Nat) (h i : Nat) (F : Nat → Nat → Nat) (a g : Nat) : Nat := match nxK H h i a g with
  | none => 100000
  | some s => F s.1 s.2
/-- how often at the least, from the hour i on through n hours: by age and by the height where it stands -/
def fK (H : Nat → Nat) (h best : Nat) : Nat → Nat → Nat → Nat → Nat
  | 0, _, _, _ => 0
  | n + 1, i, a, g => if g < best then min (stK H h i (fK H h best n (i + 1)) a g) (1 + stK H h i (fK H h best n (i + 1)) a best) else stK H h i (fK H h best n (i + 1)) a g
def obM (H : Nat → Nat) (i : Nat) (V : Nat → Nat → Nat) (u a : Nat) : Nat := if (if i < u then 0 else a + 1) < H 4 then V u (if i < u then 0 else a + 1) else 100000
/-- the same by the hour until which it stands; w: until when what is written in the hour i stands -/
def vM (H : Nat → Nat) (w : Nat → Option Nat) : Nat → Nat → Nat → Nat → Nat
  | 0, _, _, _ => 0
  | n + 1, i, u, a => match w i with
    | none => obM H i (vM H w n (i + 1)) u a
    | some x => if u < x then min (obM H i (vM H w n (i + 1)) u a) (1 + obM H i (vM H w n (i + 1)) x a) else obM H i (vM H w n (i + 1)) u a
section
variable {H : Nat → Nat} {h best : Nat}
theorem i_nlt {x y : Int32} : x ≤ y ↔ ¬ y < x := by
  rw [Int32.le_iff_toInt_le, Int32.lt_iff_toInt_lt]; omega
theorem wz_mono {g g' i : Nat} (hg : g ≤ g') (h9 : g' ≤ 9) (hw : wz H h g' i = true) : wz H h g i = true := by
  have h1 := of_decide_eq_true hw
  refine decide_eq_true (fun z => h1 ?_)
  have e : i32 g ≤ i32 g' := by rw [i_le (by omega) (by omega)]; exact hg
  rw [Int32.lt_iff_toInt_lt] at z ⊢
  rw [Int32.le_iff_toInt_le] at e
  omega
theorem uP_ge {g i m : Nat} : i ≤ uP H h g i m ∧ uP H h g i m ≤ i + m := by
  unfold uP
  cases e : fd (fun k => wz H h g (i + k)) m with
  | none => exact ⟨by dsimp only; omega, Nat.le_refl _⟩
  | some k =>
    have := (fd_some.mp e).1
    exact ⟨by dsimp only; omega, by dsimp only; omega⟩
theorem uP_mono {g g' i m : Nat} (hg : g ≤ g') (h9 : g' ≤ 9) : uP H h g i m ≤ uP H h g' i m := by
  have h1 := uP_ge (H := H) (h := h) (g := g) (i := i) (m := m)
  cases e : fd (fun k => wz H h g' (i + k)) m with
  | none =>
    have : uP H h g' i m = i + m := by unfold uP; rw [e]
    omega
  | some k =>
    obtain ⟨a1, a2, a3⟩ := fd_some.mp e
    have e1 : uP H h g' i m = i + k := by unfold uP; rw [e]
    have e2 := wz_mono hg h9 a2
    cases e3 : fd (fun k => wz H h g (i + k)) m with
    | none => rw [fd_none.mp e3 k a1] at e2; cases e2
    | some j =>
      obtain ⟨b1, b2, b3⟩ := fd_some.mp e3
      have e4 : uP H h g i m = i + j := by unfold uP; rw [e3]
      by_cases hjk : k < j
      · rw [b3 k hjk] at e2; cases e2
      · omega
/-- it is washed off at once, or not in this hour -/
theorem uP_now {g i m : Nat} : (wz H h g i = true ∧ uP H h g i (m + 1) = i) ∨ (wz H h g i = false ∧ uP H h g i (m + 1) = uP H h g (i + 1) m ∧ i < uP H h g i (m + 1)) := by
  cases e : wz H h g i with
  | true =>
    left
    refine ⟨rfl, ?_⟩
    have : fd (fun k => wz H h g (i + k)) (m + 1) = some 0 := fd_some.mpr ⟨by omega, e, fun j hj => by omega⟩
    unfold uP; rw [this]; rfl
  | false =>
    right
    have key : uP H h g i (m + 1) = uP H h g (i + 1) m := by
      cases e1 : fd (fun k => wz H h g (i + 1 + k)) m with
      | none =>
        have h1 := fd_none.mp e1
        have : fd (fun k => wz H h g (i + k)) (m + 1) = none := fd_none.mpr (fun k hk => by
          cases k with
          | zero => exact e
          | succ k =>
            have := h1 k (by omega)
            rw [show i + 1 + k = i + (k + 1) by omega] at this
            exact this)
        unfold uP; rw [this, e1]; dsimp only; omega
      | some k =>
        obtain ⟨a1, a2, a3⟩ := fd_some.mp e1
        have : fd (fun k => wz H h g (i + k)) (m + 1) = some (k + 1) := fd_some.mpr ⟨by omega, by
          rw [show i + 1 + k = i + (k + 1) by omega] at a2; exact a2, fun j hj => by
          cases j with
          | zero => exact e
          | succ j =>
            have := a3 j (by omega)
            rw [show i + 1 + j = i + (j + 1) by omega] at this
            exact this⟩
        unfold uP; rw [this, e1]; dsimp only; omega
    have := (uP_ge (H := H) (h := h) (g := g) (i := i + 1) (m := m)).1
    exact ⟨rfl, key, by omega⟩
def Rk (H : Nat → Nat) (h n i u g : Nat) : Prop := (u ≤ i ∧ (g = 0 ∨ wz H h g i = true)) ∨ (i < u ∧ 0 < g ∧ u = uP H h g i n)
theorem Rk_up {n i g : Nat} (hg : 0 < g) : Rk H h (n + 1) i (uP H h g i (n + 1)) g := by
  rcases uP_now (H := H) (h := h) (g := g) (i := i) (m := n) with ⟨h1, h2⟩ | ⟨h1, h2, h3⟩
  · exact Or.inl ⟨by omega, Or.inr h1⟩
  · exact Or.inr ⟨h3, hg, rfl⟩
theorem keep_eq {w : Nat → Option Nat} (hb9 : best ≤ 9) {K : Nat} (h4 : 0 < H 4) (hw0 : best = 0 → ∀ i, i < K → w i = none) (hw1 : 0 < best → ∀ i, i < K → w i = some (uP H h best i (K - i))) : ∀ n i u a g, i + n = K → g ≤ 9 → (0 < n → Rk H h n i u g) → vM H w n i u a = fK H h best n i a g := by
  intro n
  induction n with
  | zero => intro i u a g _ _ _; rfl
  | succ n ih =>
    intro i u a g hK g9 hR
    have hR := hR (by omega)
    have ob : ∀ u g, g ≤ 9 → Rk H h (n + 1) i u g → ∀ a, obM H i (vM H w n (i + 1)) u a = stK H h i (fK H h best n (i + 1)) a g := by
      intro u g g9 hR a
      rcases hR with ⟨h1, h2⟩ | ⟨h1, h2, h3⟩
      · have e1 : ¬ (0 < g ∧ wz H h g i = false) := by
          rintro ⟨z1, z2⟩
          rcases h2 with h2 | h2
          · omega
          · rw [h2] at z2; cases z2
        rw [obM, if_neg (show ¬ i < u by omega), stK, nxK, if_neg e1]
        by_cases ha : a + 1 < H 4
        · rw [if_pos ha, if_pos ha]
          exact ih (i + 1) u (a + 1) 0 (by omega) (by omega) (fun _ => Or.inl ⟨by omega, Or.inl rfl⟩)
        · rw [if_neg ha, if_neg ha]
      · rcases uP_now (H := H) (h := h) (g := g) (i := i) (m := n) with ⟨k1, k2⟩ | ⟨k1, k2, k3⟩
        · omega
        · rw [obM, if_pos h1, if_pos h4, stK, nxK, if_pos ⟨h2, k1⟩]
          refine ih (i + 1) u 0 g (by omega) g9 (fun hn => ?_)
          rw [h3, k2]
          obtain ⟨m, rfl⟩ : ∃ m, n = m + 1 := ⟨n - 1, by omega⟩
          exact Rk_up h2
    have eu := ob u g g9 hR a
    by_cases hb : best = 0
    · rw [vM, hw0 hb i (by omega), fK, if_neg (by omega)]
      exact eu
    · have hb0 : 0 < best := by omega
      have ew := ob (uP H h best i (n + 1)) best hb9 (Rk_up hb0) a
      have hwi : w i = some (uP H h best i (n + 1)) := by rw [hw1 hb0 i (by omega), show K - i = n + 1 by omega]
      rw [vM, hwi, fK]
      dsimp only
      rw [eu, ew]
      have same : ((u < uP H h best i (n + 1)) ↔ (g < best)) ∨ stK H h i (fK H h best n (i + 1)) a best = stK H h i (fK H h best n (i + 1)) a g := by
        by_cases c1 : u < uP H h best i (n + 1)
        · by_cases c2 : g < best
          · exact Or.inl ⟨fun _ => c2, fun _ => c1⟩
          · right
            rcases hR with ⟨h1, h2⟩ | ⟨h1, h2, h3⟩
            · rcases h2 with h2 | h2
              · omega
              · have w1 := wz_mono (i := i) (show best ≤ g by omega) g9 h2
                unfold stK nxK
                rw [if_neg (show ¬ (0 < best ∧ wz H h best i = false) by rw [w1]; simp), if_neg (show ¬ (0 < g ∧ wz H h g i = false) by rw [h2]; simp)]
            · have := uP_mono (H := H) (h := h) (i := i) (m := n + 1) (show best ≤ g by omega) g9
              omega
        · by_cases c2 : g < best
          · right
            have ge := (uP_ge (H := H) (h := h) (g := best) (i := i) (m := n + 1)).1
            rcases hR with ⟨h1, h2⟩ | ⟨h1, h2, h3⟩
            · rcases uP_now (H := H) (h := h) (g := best) (i := i) (m := n) with ⟨k1, k2⟩ | ⟨k1, k2, k3⟩
              · have e1 : ¬ (0 < g ∧ wz H h g i = false) := by
                  rintro ⟨z1, z2⟩
                  rcases h2 with h2 | h2
                  · omega
                  · rw [h2] at z2; cases z2
                unfold stK nxK
                rw [if_neg (show ¬ (0 < best ∧ wz H h best i = false) by rw [k1]; simp), if_neg e1]
              · omega
            · have := uP_mono (H := H) (h := h) (i := i) (m := n + 1) (show g ≤ best by omega) hb9
              have e : uP H h best i (n + 1) = u := by omega
              rw [← ew, ← eu, e]
          · exact Or.inl ⟨fun z => absurd z c1, fun z => absurd z c2⟩
      rcases same with same | same
      · by_cases c2 : g < best
        · rw [if_pos (same.mpr c2), if_pos c2]
        · rw [if_neg (fun z => c2 (same.mp z)), if_neg c2]
      · rw [same]
        split <;> split <;> omega
theorem fK_val : ∀ n i a g, fK H h best n i a g ≤ n ∨ fK H h best n i a g = 100000 := by
  intro n
  induction n with
  | zero => intro i a g; exact Or.inl (Nat.le_refl _)
  | succ n ih =>
    intro i a g
    have st : ∀ a g, stK H h i (fK H h best n (i + 1)) a g ≤ n ∨ stK H h i (fK H h best n (i + 1)) a g = 100000 := by
      intro a g
      unfold stK
      cases nxK H h i a g with
      | none => exact Or.inr rfl
      | some s => exact ih _ _ _
    rw [fK]
    have h1 := st a g
    have h2 := st a best
    split
    · omega
    · omega
theorem fK_le {n i a g v : Nat} (hv : v < 100000) : fK H h best (n + 1) i a g ≤ v ↔ (∃ s, nxK H h i a g = some s ∧ fK H h best n (i + 1) s.1 s.2 ≤ v) ∨ (g < best ∧ ∃ s, nxK H h i a best = some s ∧ 1 + fK H h best n (i + 1) s.1 s.2 ≤ v) := by
  have st : ∀ a g, (∃ s, nxK H h i a g = some s ∧ fK H h best n (i + 1) s.1 s.2 = stK H h i (fK H h best n (i + 1)) a g) ∨ (nxK H h i a g = none ∧ stK H h i (fK H h best n (i + 1)) a g = 100000) := by
    intro a g
    unfold stK
    cases nxK H h i a g with
    | none => exact Or.inr ⟨rfl, rfl⟩
    | some s => exact Or.inl ⟨s, rfl, rfl⟩
  rw [fK]
  constructor
  · intro hle
    by_cases hg : g < best
    · rw [if_pos hg] at hle
      by_cases c : stK H h i (fK H h best n (i + 1)) a g ≤ v
      · rcases st a g with ⟨s, e1, e2⟩ | ⟨e1, e2⟩
        · exact Or.inl ⟨s, e1, by omega⟩
        · omega
      · rcases st a best with ⟨s, e1, e2⟩ | ⟨e1, e2⟩
        · exact Or.inr ⟨hg, s, e1, by omega⟩
        · omega
    · rw [if_neg hg] at hle
      rcases st a g with ⟨s, e1, e2⟩ | ⟨e1, e2⟩
      · exact Or.inl ⟨s, e1, by omega⟩
      · omega
  · rintro (⟨s, e1, e2⟩ | ⟨hg, s, e1, e2⟩)
    · have : stK H h i (fK H h best n (i + 1)) a g ≤ v := by unfold stK; rw [e1]; exact e2
      split <;> omega
    · have : 1 + stK H h i (fK H h best n (i + 1)) a best ≤ v := by unfold stK; rw [e1]; exact e2
      rw [if_pos hg]; omega
/-! the class's table -/
def setX (X : Nat → Nat → Nat) (a g c : Nat) : Nat → Nat → Nat := fun a' g' => if a' = a ∧ g' = g ∧ c < X a g then c else X a' g'
def psX (H : Nat → Nat) (h i : Nat) (Y : Nat → Nat → Nat) (a g c : Nat) : Nat → Nat → Nat := match nxK H h i a g with
  | none => Y
  | some s => setX Y s.1 s.2 c
def g1X (H : Nat → Nat) (h best i : Nat) (X : Nat → Nat → Nat) (a g : Nat) (Y : Nat → Nat → Nat) : Nat → Nat → Nat := if 1000 ≤ X a g then Y else if best ≤ g then psX H h i Y a g (X a g) else psX H h i (psX H h i Y a g (X a g)) a best (X a g + 1)
def gX (H : Nat → Nat) (h best i : Nat) (X : Nat → Nat → Nat) (a : Nat) (Y : Nat → Nat → Nat) (m : Nat) : Nat → Nat → Nat := fo (fun g Y => g1X H h best i X a g Y) Y m
def tX (H : Nat → Nat) (h best i : Nat) (X Y : Nat → Nat → Nat) (m : Nat) : Nat → Nat → Nat := fo (fun a Y => gX H h best i X a Y 10) Y m
def XK (H : Nat → Nat) (h best a0 g0 : Nat) : Nat → Nat → Nat → Nat
  | 0 => setX (fun _ _ => 1000) a0 g0 0
  | i + 1 => tX H h best i (XK H h best a0 g0 i) (fun _ _ => 1000) (H 4)
theorem setX_le {X : Nat → Nat → Nat} {a g c a' g' v : Nat} : setX X a g c a' g' ≤ v ↔ X a' g' ≤ v ∨ (a' = a ∧ g' = g ∧ c ≤ v) := by
  rw [setX]
  by_cases h1 : a' = a ∧ g' = g ∧ c < X a g
  · rw [if_pos h1]
    obtain ⟨rfl, rfl, h3⟩ := h1
    exact ⟨fun z => Or.inr ⟨rfl, rfl, z⟩, fun z => z.elim (fun z => by omega) (fun z => z.2.2)⟩
  · rw [if_neg h1]
    refine ⟨fun z => Or.inl z, fun z => z.elim id (fun ⟨z1, z2, z3⟩ => ?_)⟩
    subst z1; subst z2
    have : ¬ c < X a' g' := fun q => h1 ⟨rfl, rfl, q⟩
    omega
theorem psX_le {i : Nat} {Y : Nat → Nat → Nat} {a g c a' g' v : Nat} : psX H h i Y a g c a' g' ≤ v ↔ Y a' g' ≤ v ∨ (nxK H h i a g = some (a', g') ∧ c ≤ v) := by
  unfold psX
  cases e : nxK H h i a g with
  | none => exact ⟨fun z => Or.inl z, fun z => z.elim id (fun z => by cases z.1)⟩
  | some s =>
    dsimp only
    rw [setX_le]
    constructor
    · rintro (z | ⟨z1, z2, z3⟩)
      · exact Or.inl z
      · exact Or.inr ⟨by rw [z1, z2], z3⟩
    · rintro (z | ⟨z1, z2⟩)
      · exact Or.inl z
      · cases z1; exact Or.inr ⟨rfl, rfl, z2⟩
def Cd (H : Nat → Nat) (h best i : Nat) (X : Nat → Nat → Nat) (a g a' g' v : Nat) : Prop := X a g < 1000 ∧ ((nxK H h i a g = some (a', g') ∧ X a g ≤ v) ∨ (g < best ∧ nxK H h i a best = some (a', g') ∧ X a g + 1 ≤ v))
theorem g1X_le {i : Nat} {X Y : Nat → Nat → Nat} {a g a' g' v : Nat} : g1X H h best i X a g Y a' g' ≤ v ↔ Y a' g' ≤ v ∨ Cd H h best i X a g a' g' v := by
  unfold g1X Cd
  by_cases h1 : 1000 ≤ X a g
  · rw [if_pos h1]
    exact ⟨fun z => Or.inl z, fun z => z.elim id (fun z => by omega)⟩
  · rw [if_neg h1]
    by_cases h2 : best ≤ g
    · rw [if_pos h2, psX_le]
      constructor
      · rintro (z | z)
        · exact Or.inl z
        · exact Or.inr ⟨by omega, Or.inl z⟩
      · rintro (z | ⟨_, z | z⟩)
        · exact Or.inl z
        · exact Or.inr z
        · omega
    · rw [if_neg h2, psX_le, psX_le]
      constructor
      · rintro ((z | z) | z)
        · exact Or.inl z
        · exact Or.inr ⟨by omega, Or.inl z⟩
        · exact Or.inr ⟨by omega, Or.inr ⟨by omega, z⟩⟩
      · rintro (z | ⟨_, z | z⟩)
        · exact Or.inl (Or.inl z)
        · exact Or.inl (Or.inr z)
        · exact Or.inr z.2
theorem gX_le {i : Nat} {X Y : Nat → Nat → Nat} {a a' g' v : Nat} : ∀ m, gX H h best i X a Y m a' g' ≤ v ↔ Y a' g' ≤ v ∨ ∃ g, g < m ∧ Cd H h best i X a g a' g' v := by
  intro m
  induction m with
  | zero => exact ⟨fun z => Or.inl z, fun z => z.elim id (fun ⟨g, hg, _⟩ => absurd hg (Nat.not_lt_zero g))⟩
  | succ m ih =>
    have e : gX H h best i X a Y (m + 1) = g1X H h best i X a m (gX H h best i X a Y m) := rfl
    rw [e, g1X_le, ih]
    constructor
    · rintro ((z | ⟨g, hg, z⟩) | z)
      · exact Or.inl z
      · exact Or.inr ⟨g, by omega, z⟩
      · exact Or.inr ⟨m, by omega, z⟩
    · rintro (z | ⟨g, hg, z⟩)
      · exact Or.inl (Or.inl z)
      · by_cases hgm : g = m
        · subst hgm; exact Or.inr z
        · exact Or.inl (Or.inr ⟨g, by omega, z⟩)
theorem tX_le {i : Nat} {X Y : Nat → Nat → Nat} {a' g' v : Nat} : ∀ m, tX H h best i X Y m a' g' ≤ v ↔ Y a' g' ≤ v ∨ ∃ a g, a < m ∧ g < 10 ∧ Cd H h best i X a g a' g' v := by
  intro m
  induction m with
  | zero => exact ⟨fun z => Or.inl z, fun z => z.elim id (fun ⟨a, g, hg, _⟩ => absurd hg (Nat.not_lt_zero a))⟩
  | succ m ih =>
    have e : tX H h best i X Y (m + 1) = gX H h best i X m (tX H h best i X Y m) 10 := rfl
    rw [e, gX_le, ih]
    constructor
    · rintro ((z | ⟨a, g, h1, h2, z⟩) | ⟨g, hg, z⟩)
      · exact Or.inl z
      · exact Or.inr ⟨a, g, by omega, h2, z⟩
      · exact Or.inr ⟨m, g, by omega, hg, z⟩
    · rintro (z | ⟨a, g, h1, h2, z⟩)
      · exact Or.inl (Or.inl z)
      · by_cases ham : a = m
        · subst ham; exact Or.inr ⟨g, h2, z⟩
        · exact Or.inl (Or.inr ⟨a, g, by omega, h2, z⟩)
theorem XK_1000 {a0 g0 : Nat} : ∀ i a g, XK H h best a0 g0 i a g ≤ 1000 := by
  intro i
  cases i with
  | zero => intro a g; exact setX_le.mpr (Or.inl (Nat.le_refl _))
  | succ i => intro a g; exact (tX_le _).mpr (Or.inl (Nat.le_refl _))
theorem XK_inv {a0 g0 K : Nat} (hb : best < 10) (ha : a0 < H 4) (hg : g0 < 10) (hK : K ≤ 16) : ∀ i, i ≤ K → ∀ v, v < 1000 → ((∃ a g, a < H 4 ∧ g < 10 ∧ XK H h best a0 g0 i a g + fK H h best (K - i) i a g ≤ v) ↔ fK H h best K 0 a0 g0 ≤ v) := by
  intro i
  induction i with
  | zero =>
    intro _ v hv
    rw [Nat.sub_zero]
    constructor
    · rintro ⟨a, g, h1, h2, h3⟩
      have : XK H h best a0 g0 0 a g ≤ XK H h best a0 g0 0 a g := Nat.le_refl _
      rcases setX_le.mp this with z | ⟨z1, z2, z3⟩
      · omega
      · subst z1; subst z2; omega
    · intro z
      refine ⟨a0, g0, ha, hg, ?_⟩
      have : XK H h best a0 g0 0 a0 g0 ≤ 0 := setX_le.mpr (Or.inr ⟨rfl, rfl, Nat.le_refl _⟩)
      omega
  | succ i ih =>
    intro hi v hv
    rw [← ih (by omega) v hv]
    obtain ⟨n, hn⟩ : ∃ n, K - i = n + 1 := ⟨K - i - 1, by omega⟩
    rw [hn, show K - (i + 1) = n by omega]
    constructor
    · rintro ⟨a', g', h1, h2, h3⟩
      have hx : XK H h best a0 g0 (i + 1) a' g' ≤ XK H h best a0 g0 (i + 1) a' g' := Nat.le_refl _
      rcases (tX_le _).mp hx with z | ⟨a, g, z1, z2, z3, z4⟩
      · omega
      · refine ⟨a, g, z1, z2, ?_⟩
        have hf : fK H h best (n + 1) i a g ≤ v - XK H h best a0 g0 i a g := by
          refine (fK_le (by omega)).mpr ?_
          rcases z4 with ⟨y1, y2⟩ | ⟨y0, y1, y2⟩
          · exact Or.inl ⟨_, y1, by dsimp only; omega⟩
          · exact Or.inr ⟨y0, _, y1, by dsimp only; omega⟩
        have hle : XK H h best a0 g0 i a g ≤ v := by
          rcases z4 with ⟨y1, y2⟩ | ⟨y0, y1, y2⟩ <;> omega
        omega
    · rintro ⟨a, g, h1, h2, h3⟩
      have nk : ∀ g s, g < 10 → nxK H h i a g = some s → s.1 < H 4 ∧ s.2 < 10 := by
        intro g s hg hs
        unfold nxK at hs
        split at hs
        · cases hs; exact ⟨by dsimp only; omega, hg⟩
        · split at hs
          · cases hs; exact ⟨by assumption, by dsimp only; omega⟩
          · cases hs
      have hf : fK H h best (n + 1) i a g ≤ v - XK H h best a0 g0 i a g := by omega
      rcases (fK_le (by omega)).mp hf with ⟨s, e1, e2⟩ | ⟨e0, s, e1, e2⟩
      · obtain ⟨k1, k2⟩ := nk g s h2 e1
        have hx : XK H h best a0 g0 (i + 1) s.1 s.2 ≤ XK H h best a0 g0 i a g := (tX_le _).mpr (Or.inr ⟨a, g, h1, h2, by omega, Or.inl ⟨e1, Nat.le_refl _⟩⟩)
        exact ⟨s.1, s.2, k1, k2, by omega⟩
      · obtain ⟨k1, k2⟩ := nk best s hb e1
        have hx : XK H h best a0 g0 (i + 1) s.1 s.2 ≤ XK H h best a0 g0 i a g + 1 := (tX_le _).mpr (Or.inr ⟨a, g, h1, h2, by omega, Or.inr ⟨e0, e1, Nat.le_refl _⟩⟩)
        exact ⟨s.1, s.2, k1, k2, by omega⟩
end
