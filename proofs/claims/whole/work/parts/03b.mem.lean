/-! ===== THE MEMORY: cells by their numbers, numbers from the first cell that the law makes ===== -/
/-- ints, longs, refs (0: null, t+1: cell t), kinds (0: no cell of ours; c+1: an object of class c; 20..25: rows), lengths, one more than how many cells (0: not told) -/
abbrev Mem : Type := (Nat → Nat → Int32) × (Nat → Nat → Int64) × (Nat → Nat → Nat) × (Nat → Nat) × (Nat → Nat) × Nat
abbrev mI (M : Mem) : Nat → Nat → Int32 := M.1
abbrev mL (M : Mem) : Nat → Nat → Int64 := M.2.1
abbrev mR (M : Mem) : Nat → Nat → Nat := M.2.2.1
abbrev mK (M : Mem) : Nat → Nat := M.2.2.2.1
abbrev mN (M : Mem) : Nat → Nat := M.2.2.2.2.1
abbrev mZ (M : Mem) : Nat := M.2.2.2.2.2
/-- a whole row of ints, longs, refs is written -/
def wI (M : Mem) (a : Nat) (f : Nat → Int32) : Mem := (va_up (mI M) a f, mL M, mR M, mK M, mN M, mZ M)
def wL (M : Mem) (a : Nat) (f : Nat → Int64) : Mem := (mI M, va_up (mL M) a f, mR M, mK M, mN M, mZ M)
def wR (M : Mem) (a : Nat) (f : Nat → Nat) : Mem := (mI M, mL M, va_up (mR M) a f, mK M, mN M, mZ M)
def sI (M : Mem) (a k : Nat) (v : Int32) : Mem := wI M a (upd (mI M a) k v)
def sL (M : Mem) (a k : Nat) (v : Int64) : Mem := wL M a (vp_updL (mL M a) k v)
def sR (M : Mem) (a k : Nat) (v : Nat) : Mem := wR M a (va_up (mR M a) k (v + 1))
/-- a new cell of kind c, n places, all 0 -/
def nw (M : Mem) (c n : Nat) : Mem := (va_up (mI M) (mZ M - 1) (fun _ => 0), va_up (mL M) (mZ M - 1) (fun _ => 0), va_up (mR M) (mZ M - 1) (fun _ => 0), va_up (mK M) (mZ M - 1) c, va_up (mN M) (mZ M - 1) n, mZ M + 1)
def gR (M : Mem) (a k : Nat) : Option Nat := match mR M a k with
  | 0 => none
  | t + 1 => some t
def fT (c : Nat) : Nat → FieldType := match c with
  | 0 => tyX0
  | 1 => tyX1
  | 2 => tyX2
  | 3 => tyX3
  | 4 => tyX4
  | 5 => tyX5
  | 6 => tyX6
  | 7 => tyX7
  | 8 => tyX8
  | 9 => tyX9
  | 10 => tyX10
  | _ => tyX11
def fN (c : Nat) : Nat := match c with
  | 0 => 12
  | 1 => 11
  | 2 => 2
  | 3 => 3
  | 4 => 4
  | 5 => 3
  | 6 => 5
  | 7 => 7
  | 8 => 17
  | 9 => 12
  | 10 => 19
  | _ => 45
def ro (b : Nat) (t : Nat) : Option Nat := match t with
  | 0 => none
  | t + 1 => some (b + t)
def fv (b : Nat) (ty : FieldType) (i : Int32) (l : Int64) (r : Nat) : Value := match ty with
  | .int => .int i
  | .boolean => .int i
  | .long => .long l
  | _ => va_rf (ro b r)
def okT (ty : FieldType) : Bool := match ty with
  | .int => true
  | .boolean => true
  | .long => true
  | .object _ => true
  | .array _ => true
  | _ => false
theorem fT_ok : ∀ c, c < 12 → ∀ j, j < fN c → okT (fT c j) = true := by decide +kernel
theorem fv_0 {b : Nat} {ty : FieldType} (h : okT ty = true) : defaultValue ty = fv b ty 0 0 0 := by
  cases ty <;> first | rfl | cases h
/-- the fields of an object -/
def fE (b : Nat) (M : Mem) (a c : Nat) : List Value := (List.range (fN c)).map (fun j => fv b (fT c j) (mI M a j) (mL M a j) (mR M a j))
/-- a cell, as the kit has it -/
def cE (b : Nat) (cy : Nat → ClassId) (M : Mem) (a : Nat) : va_E :=
  if mK M a = 20 then .inl (cy 0, mN M a, .inl (mI M a)) else if mK M a = 21 then .inl (cy 1, mN M a, .inr (.inl (mL M a))) else if mK M a = 22 then .inl (cy 2, mN M a, .inl (mI M a))
  else if 23 ≤ mK M a then .inl (cy (mK M a - 20), mN M a, .inr (.inr (.inr (.inr (fun j => ro b (mR M a j)))))) else .inr (mK M a - 1, fE b M a (mK M a - 1))
def ty6 (cy : Nat → ClassId) : List (ClassId × FieldType) := [(cy 0, .int), (cy 1, .long), (cy 2, .boolean), (cy 3, .object RX0), (cy 4, .object RX7), (cy 5, .object RX8)]
/-- the heap holds the memory -/
def Rl (b : Nat) (D : va_G) (cy : Nat → ClassId) (M : Mem) (H : Heap) : Prop := (mZ M ≠ 0 → H.size + 1 = b + mZ M) ∧ ∀ q, mK M q ≠ 0 → va_at D vwCl (b + q, cE b cy M q) H
theorem Rl.put {b : Nat} {D : va_G} {cy : Nat → ClassId} {M M' : Mem} {a : Nat} {H H1 : Heap} (h : Rl b D cy M H) (hK : mK M' = mK M) (hZ : mZ M' = mZ M) (ho : ∀ x, x ≠ a → cE b cy M' x = cE b cy M x) (he : va_at D vwCl (b + a, cE b cy M' a) H1) (hz : H1.size = H.size) (oq : ∀ q, q ≠ b + a → H1[q]? = H[q]?) : Rl b D cy M' H1 := by
  refine ⟨by rw [hZ, hz]; exact h.1, fun q hq => ?_⟩
  rw [hK] at hq
  by_cases e : q = a
  · subst e; exact he
  · rw [ho q e]
    exact (h.2 q hq).kept (oq _ (fun z => e (Nat.add_left_cancel z)))
theorem Rl.forget {b : Nat} {D : va_G} {cy : Nat → ClassId} {M : Mem} {H : Heap} (h : Rl b D cy M H) : Rl b D cy (mI M, mL M, mR M, mK M, mN M, 0) H := ⟨fun z => absurd rfl z, h.2⟩
theorem Rl.new {b : Nat} {D : va_G} {cy : Nat → ClassId} {M : Mem} {c n : Nat} {H H1 : Heap} (h : Rl b D cy M H) (hZ : mZ M ≠ 0) (he : va_at D vwCl (b + (mZ M - 1), cE b cy (nw M c n) (mZ M - 1)) H1) (hz : H1.size = H.size + 1) (oq : ∀ q, q < H.size → H1[q]? = H[q]?) : Rl b D cy (nw M c n) H1 := by
  have h1 := h.1 hZ
  refine ⟨fun _ => ?_, fun q hq => ?_⟩
  · show H1.size + 1 = b + (mZ M + 1)
    omega
  · by_cases e : q = mZ M - 1
    · subst e; exact he
    · have hq' : mK M q ≠ 0 := by
        have z : mK (nw M c n) q = mK M q := va_up_ne _ _ e
        rw [z] at hq; exact hq
      have z : cE b cy (nw M c n) q = cE b cy M q := by simp only [cE, fE, nw, mI, mL, mR, mK, mN, va_up_ne _ _ e]
      rw [z]
      exact (h.2 q hq').kept (oq _ (h.2 q hq').lt)
theorem cE_wI {b : Nat} {cy : Nat → ClassId} {M : Mem} {a : Nat} {f : Nat → Int32} : ∀ x, x ≠ a → cE b cy (wI M a f) x = cE b cy M x := by
  intro x hx
  simp only [cE, fE, wI, mI, mL, mR, mK, mN, va_up_ne _ _ hx]
theorem cE_wL {b : Nat} {cy : Nat → ClassId} {M : Mem} {a : Nat} {f : Nat → Int64} : ∀ x, x ≠ a → cE b cy (wL M a f) x = cE b cy M x := by
  intro x hx
  simp only [cE, fE, wL, mI, mL, mR, mK, mN, va_up_ne _ _ hx]
theorem cE_wR {b : Nat} {cy : Nat → ClassId} {M : Mem} {a : Nat} {f : Nat → Nat} : ∀ x, x ≠ a → cE b cy (wR M a f) x = cE b cy M x := by
  intro x hx
  simp only [cE, fE, wR, mI, mL, mR, mK, mN, va_up_ne _ _ hx]
theorem cE_obj {b : Nat} {cy : Nat → ClassId} {M : Mem} {a c : Nat} (h : mK M a = c + 1) (hc : c < 12) : cE b cy M a = .inr (c, fE b M a c) := by
  unfold cE
  rw [h, if_neg (by omega), if_neg (by omega), if_neg (by omega), if_neg (by omega)]
  rfl
theorem cE_20 {b : Nat} {cy : Nat → ClassId} {M : Mem} {a : Nat} (h : mK M a = 20) : cE b cy M a = .inl (cy 0, mN M a, .inl (mI M a)) := by
  unfold cE
  rw [if_pos h]
theorem cE_21 {b : Nat} {cy : Nat → ClassId} {M : Mem} {a : Nat} (h : mK M a = 21) : cE b cy M a = .inl (cy 1, mN M a, .inr (.inl (mL M a))) := by
  unfold cE
  rw [if_neg (by omega), if_pos h]
theorem cE_22 {b : Nat} {cy : Nat → ClassId} {M : Mem} {a : Nat} (h : mK M a = 22) : cE b cy M a = .inl (cy 2, mN M a, .inl (mI M a)) := by
  unfold cE
  rw [if_neg (by omega), if_neg (by omega), if_pos h]
theorem cE_23 {b : Nat} {cy : Nat → ClassId} {M : Mem} {a : Nat} (h : 23 ≤ mK M a) : cE b cy M a = .inl (cy (mK M a - 20), mN M a, .inr (.inr (.inr (.inr (fun j => ro b (mR M a j)))))) := by
  unfold cE
  rw [if_neg (by omega), if_neg (by omega), if_neg (by omega), if_pos h]
theorem fE_get {b : Nat} {M : Mem} {a c j : Nat} (h : j < fN c) : (fE b M a c)[j]? = some (fv b (fT c j) (mI M a j) (mL M a j) (mR M a j)) := by
  unfold fE
  rw [List.getElem?_map, List.getElem?_range h]
  rfl
theorem fE_len {b : Nat} {M : Mem} {a c : Nat} : (fE b M a c).length = fN c := by unfold fE; rw [List.length_map, List.length_range]
theorem fE_set {b : Nat} {M M' : Mem} {a c j : Nat} {v : Value} (ho : ∀ k, k ≠ j → mI M' a k = mI M a k ∧ mL M' a k = mL M a k ∧ mR M' a k = mR M a k) (hv : v = fv b (fT c j) (mI M' a j) (mL M' a j) (mR M' a j)) : (fE b M a c).set j v = fE b M' a c := by
  apply List.ext_getElem?
  intro k
  rw [List.getElem?_set]
  by_cases e : j = k
  · subst e
    rw [if_pos rfl]
    by_cases h : j < fN c
    · rw [if_pos (by rw [fE_len]; exact h), fE_get h, hv]
    · rw [if_neg (by rw [fE_len]; exact h), List.getElem?_eq_none (by rw [fE_len]; omega)]
  · rw [if_neg e]
    by_cases h : k < fN c
    · rw [fE_get h, fE_get h, (ho k (Ne.symm e)).1, (ho k (Ne.symm e)).2.1, (ho k (Ne.symm e)).2.2]
    · rw [List.getElem?_eq_none (by rw [fE_len]; omega), List.getElem?_eq_none (by rw [fE_len]; omega)]
theorem gdS {α : Type} {c : Prop} [Decidable c] {x : Option α} {v : α} (h : (if c then x else none) = some v) : c ∧ x = some v := by
  by_cases hc : c
  · rw [if_pos hc] at h; exact ⟨hc, h⟩
  · rw [if_neg hc] at h; cases h
theorem bdS {α β : Type} {o : Option α} {f : α → Option β} {v : β} (h : o.bind f = some v) : ∃ t, o = some t ∧ f t = some v := Option.bind_eq_some_iff.mp h
theorem gR_some {M : Mem} {a k t : Nat} (h : gR M a k = some t) : mR M a k = t + 1 := by
  unfold gR at h
  cases hm : mR M a k with
  | zero => rw [hm] at h; cases h
  | succ n => rw [hm] at h; cases h; rfl
theorem P1 {D : va_G} {q : Nat × va_E} {H : Heap} (h : va_at D vwCl q H) : va_P D vwCl [q] H
  | 0, _, e => Option.some.inj e ▸ h
  | _ + 1, _, e => nomatch e
