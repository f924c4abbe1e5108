theorem bd_eq {α β : Type} {o : Option α} {x : α} {f : α → Option β} {y : Option β} (h1 : o = some x) (h2 : f x = y) : o.bind f = y := by subst h1; exact h2
theorem it_p {α : Type} {c : Prop} [Decidable c] {a b y : α} (hc : c) (h : a = y) : (if c then a else b) = y := by rw [if_pos hc]; exact h
theorem it_n {α : Type} {c : Prop} [Decidable c] {a b y : α} (hc : ¬ c) (h : b = y) : (if c then a else b) = y := by rw [if_neg hc]; exact h
theorem i_out {v : Int32} {n k : Nat} (hn : n < 2147483648) (h : v < 0 ∨ (0 ≤ v ∧ i32 n ≤ v)) (hk : k < n) : v = i32 k ↔ False := by
  refine ⟨fun e => ?_, False.elim⟩
  subst e
  rcases h with h | ⟨_, h⟩
  · rw [i_0, i_lt (by omega) (by omega)] at h; omega
  · rw [i_le (by omega) (by omega)] at h; omega
theorem in_out {v : Int32} {n : Nat} (hn : n < 2147483648) (h1 : 1 ≤ n) (hv : v < 0 ∨ (0 ≤ v ∧ i32 n ≤ v)) : (!decide (v < i32 0) && !decide (i32 (n - 1) < v)) = false := by
  rcases hv with hv | ⟨_, hv⟩
  · have hv' : v < i32 0 := hv
    simp [hv']
  · have : i32 (n - 1) < v := by
      rw [Int32.lt_iff_toInt_lt, i_toInt (by omega)]; rw [Int32.le_iff_toInt_le, i_toInt hn] at hv
      omega
    simp [this]
theorem in_in {k m : Nat} (hm : m < 2147483647) (hk : k ≤ m) : (!decide (i32 k < i32 0) && !decide (i32 m < i32 k)) = true := by
  have h1 : ¬ i32 k < i32 0 := by rw [i_lt (by omega) (by omega)]; omega
  have h2 : ¬ i32 m < i32 k := by rw [i_lt (by omega) (by omega)]; omega
  simp [h1, h2]
theorem up_up {I : Nat → Nat → Int32} {a k : Nat} {v w : Int32} : up (up I a k v) a k w = up I a k w := by
  funext a' k'
  simp only [up]
  split <;> rfl
theorem sh_1 : ∀ m, m < 31 → i32 1 <<< (i32 m &&& i32 31) = i32 (2 ^ m) := by decide
theorem tb_or {a b : Int32} : (a ||| b).toBitVec = a.toBitVec ||| b.toBitVec := rfl
theorem tb_and {a b : Int32} : (a &&& b).toBitVec = a.toBitVec &&& b.toBitVec := rfl
theorem bset_s {P : Nat → Bool} {m : Nat} : bset P (m + 1) = if P m then bset P m ||| (i32 1 <<< (i32 m &&& i32 31)) else bset P m := rfl
theorem tp_bit {m i : Nat} (hm : m < 31) : (i32 1 <<< (i32 m &&& i32 31)).toBitVec.getLsbD i = decide (i = m) := by
  rw [sh_1 m hm]
  have e : (i32 (2 ^ m)).toBitVec = BitVec.twoPow 32 m := by
    show BitVec.ofNat 32 (2 ^ m) = _
    rw [BitVec.twoPow_eq]
    apply BitVec.eq_of_toNat_eq
    simp [Nat.shiftLeft_eq]
  rw [e, BitVec.getLsbD_twoPow]
  by_cases h : i = m
  · subst h; simp; omega
  · have h2 : ¬ m = i := fun z => h z.symm
    simp [h, h2]
theorem bset_bit {P : Nat → Bool} {i : Nat} : ∀ {m : Nat}, m ≤ 31 → (bset P m).toBitVec.getLsbD i = (decide (i < m) && P i) := by
  intro m
  induction m with
  | zero =>
    intro _
    show (i32 0).toBitVec.getLsbD i = _
    have : (i32 0).toBitVec = 0#32 := rfl
    rw [this]; simp
  | succ m ih =>
    intro hm
    rw [bset_s]
    by_cases hP : P m = true
    · rw [if_pos hP, tb_or, BitVec.getLsbD_or, ih (by omega), tp_bit (by omega)]
      by_cases h1 : i = m
      · subst h1; simp [hP]
      · by_cases h2 : i < m
        · have : i < m + 1 := by omega
          simp [h1, h2, this]
        · have : ¬ i < m + 1 := by omega
          simp [h1, h2, this]
    · rw [if_neg hP, ih (by omega)]
      by_cases h1 : i = m
      · subst h1
        have : P i = false := by simpa using hP
        simp [this]
      · by_cases h2 : i < m
        · have : i < m + 1 := by omega
          simp [h2, this]
        · have : ¬ i < m + 1 := by omega
          simp [h2, this]
theorem i_ext {a b : Int32} (h : ∀ i, i < 32 → a.toBitVec.getLsbD i = b.toBitVec.getLsbD i) : a = b := by
  apply Int32.toBitVec_inj.mp
  exact BitVec.eq_of_getLsbD_eq h
theorem bset_or {P Q : Nat → Bool} {m : Nat} (hm : m ≤ 31) : bset P m ||| bset Q m = bset (fun k => P k || Q k) m := by
  apply i_ext
  intro i _
  rw [tb_or, BitVec.getLsbD_or, bset_bit hm, bset_bit hm, bset_bit hm]
  cases decide (i < m) <;> simp
theorem bset_and {P Q : Nat → Bool} {m : Nat} (hm : m ≤ 31) : bset P m &&& bset Q m = bset (fun k => P k && Q k) m := by
  apply i_ext
  intro i _
  rw [tb_and, BitVec.getLsbD_and, bset_bit hm, bset_bit hm, bset_bit hm]
  cases decide (i < m) <;> simp
theorem bset_or0 {P : Nat → Nat → Bool} {m : Nat} (hm : m ≤ 31) : ∀ n, fo (fun b s => s ||| bset (P b) m) (i32 0) n = bset (fun l => exb (fun b => P b l) n) m := by
  intro n
  induction n with
  | zero =>
    apply i_ext
    intro i _
    rw [bset_bit hm]
    show (i32 0).toBitVec.getLsbD i = _
    have : (i32 0).toBitVec = 0#32 := rfl
    rw [this]; simp [exb]
  | succ n ih =>
    rw [fo, ih, bset_or hm]; rfl
/-- a bit of an int, as the class asks for it -/
theorem sr_bit {x : Int32} {k : Nat} (hk : k < 32) : (x >>> (i32 k &&& i32 31)) &&& i32 1 = bi (x.toBitVec.getLsbD k) := by
  have e0 : ∀ k, k < 32 → (i32 k &&& i32 31) = i32 k := by decide
  have e1 : ∀ k, k < 32 → ((i32 k).toBitVec.smod 32).toNat = k := by decide
  rw [e0 k hk]
  have h := BitVec.and_one_eq_setWidth_ofBool_getLsbD (x := (x >>> i32 k).toBitVec)
  have e : ((x >>> i32 k) &&& i32 1).toBitVec = (x >>> i32 k).toBitVec &&& 1#32 := rfl
  have e2 : (x >>> i32 k).toBitVec.getLsbD 0 = x.toBitVec.getLsbD k := by
    rw [Int32.toBitVec_shiftRight]
    rw [BitVec.sshiftRight_eq', e1 k hk, BitVec.getLsbD_sshiftRight]
    simp [hk]
  apply Int32.toBitVec_inj.mp
  rw [e, h, e2]
  cases x.toBitVec.getLsbD k <;> rfl
theorem bset_0 {P : Nat → Bool} {m : Nat} (hm : m ≤ 31) : bset P m = i32 0 ↔ ∀ k, k < m → P k = false := by
  constructor
  · intro h k hk
    have := bset_bit (P := P) (i := k) hm
    rw [h] at this
    have e : (i32 0).toBitVec = 0#32 := rfl
    rw [e] at this
    simp [hk] at this
    exact this
  · intro h
    apply i_ext
    intro i _
    rw [bset_bit hm]
    have e : (i32 0).toBitVec = 0#32 := rfl
    rw [e]
    by_cases hi : i < m
    · simp [h i hi]
    · simp [hi]
section
variable {H : Nat → Nat} {B : Nat → Int32} {I : Nat → Nat → Int32} {L : Nat → Nat → Int64} {r : Bool} {N a : Nat}
theorem m_isIn2 {v a b : Int32} {M : Mem} : fX11_isIn N v a b M = some (bi (!decide (v < a) && !decide (b < v)), M) := by
  unfold fX11_isIn
  by_cases h1 : v < a
  · rw [if_pos h1]; simp [h1, bi]; rfl
  · rw [if_neg h1]
    by_cases h2 : b < v
    · simp [h1, h2, bi]; rfl
    · simp [h1, h2, bi]; rfl
theorem m_isInT {v a b : Int32} {M : Mem} (h : (!decide (v < a) && !decide (b < v)) = true) : fX11_isIn N v a b M = some (i32 1, M) := by rw [m_isIn2, h]; rfl
theorem m_isInF {v a b : Int32} {M : Mem} (h : (!decide (v < a) && !decide (b < v)) = false) : fX11_isIn N v a b M = some (i32 0, M) := by rw [m_isIn2, h]; rfl
theorem nag_congr {g g' : Nat → Int32} {l i i' : Nat} (h : ∀ k, k < lg H l → g (i + k) = g' (i' + k)) : nag H g l i = nag H g' l i' := allb_congr (fun k hk => by rw [h k hk])
theorem chh_congr {g g' : Nat → Int32} {l i i' m : Nat} (h : ∀ k, k < m → g (i + k) = g' (i' + k)) : chh H g l i m = chh H g' l i' m := exb_congr (fun p hp => nag_congr (fun k hk => by
  have := h (p + k) (by have := lg_2 (H := H) (l := l); omega)
  rw [Nat.add_assoc, Nat.add_assoc]; exact this))
theorem fit_congr {g g' : Nat → Int32} {i i' m : Nat} (h : ∀ k, k < m → g (i + k) = g' (i' + k)) : fitS H g i m = fitS H g' i' m := bset_congr (fun l _ => chh_congr h)
/-- the first hour that washes is in the first round of the table -/
theorem fd_per {P : Nat → Bool} {t m : Nat} (ht : 0 < t) (h : ∀ k, P (k + t) = P k) : fd P m = fd P (min t m) := by
  by_cases hm : m ≤ t
  · rw [Nat.min_eq_right hm]
  · rw [Nat.min_eq_left (by omega)]
    cases e : fd P t with
    | some k =>
      obtain ⟨h1, h2, h3⟩ := fd_some.mp e
      exact fd_some.mpr ⟨by omega, h2, h3⟩
    | none =>
      have h1 := fd_none.mp e
      refine fd_none.mpr ?_
      intro k
      induction k using Nat.strongRecOn with
      | _ k ih =>
        intro hk
        by_cases hkt : k < t
        · exact h1 k hkt
        · have := h (k - t)
          rw [show k - t + t = k by omega] at this
          rw [this]; exact ih (k - t) (by omega) (by omega)
end
