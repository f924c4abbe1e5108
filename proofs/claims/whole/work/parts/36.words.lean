/-! ===== LONGS THAT ARE SMALL NUMBERS, AND WORDS ===== -/
theorem j_lit {n : Nat} : (OfNat.ofNat n : Int64) = i64 (OfNat.ofNat n) := rfl
theorem j_add {a b : Nat} : i64 a + i64 b = i64 (a + b) := (Int64.ofNat_add a b).symm
theorem j_mul {a b : Nat} : i64 a * i64 b = i64 (a * b) := (Int64.ofNat_mul a b).symm
theorem j_sub {a b : Nat} (h : b ≤ a) : i64 a - i64 b = i64 (a - b) := by
  have e : i64 a = i64 (a - b) + i64 b := by rw [j_add, Nat.sub_add_cancel h]
  rw [e, Int64.add_sub_cancel]
theorem j_toInt {n : Nat} (h : n < 9223372036854775808) : (i64 n).toInt = n := Int64.toInt_ofNat_of_lt h
theorem j_eq {a b : Nat} (ha : a < 9223372036854775808) (hb : b < 9223372036854775808) : i64 a = i64 b ↔ a = b := by
  constructor
  · intro h; have := congrArg Int64.toInt h; rw [j_toInt ha, j_toInt hb] at this; omega
  · intro h; rw [h]
theorem j_of32 {n : Nat} (h : n < 2147483648) : Int32.toInt64 (i32 n) = i64 n := by
  apply Int64.toInt_inj.mp
  rw [Int32.toInt_toInt64, i_toInt h, j_toInt (by omega)]
theorem j_to32 {n : Nat} : Int64.toInt32 (i64 n) = i32 n := Int64.toInt32_ofNat'
theorem lg_0 {x y : Int64} : lg_cmp x y = i32 0 ↔ x = y := by
  unfold lg_cmp
  by_cases h : x > y
  · rw [if_pos h]
    constructor
    · intro z; exact absurd z (by decide)
    · intro z; subst z; exact absurd h Int64.lt_irrefl
  · rw [if_neg h]
    by_cases h2 : x = y
    · rw [if_pos h2]; exact ⟨fun _ => h2, fun _ => rfl⟩
    · rw [if_neg h2]
      constructor
      · intro z; exact absurd z (by decide)
      · intro z; exact absurd z h2
theorem j_cmp {a b : Nat} (ha : a < 9223372036854775808) (hb : b < 9223372036854775808) : lg_cmp (i64 a) (i64 b) = i32 0 ↔ a = b := lg_0.trans (j_eq ha hb)
theorem j_cmplt {a b : Nat} (ha : a < 9223372036854775808) (hb : b < 9223372036854775808) : lg_cmp (i64 a) (i64 b) < i32 0 ↔ a < b := by
  unfold lg_cmp
  by_cases h : i64 a > i64 b
  · rw [if_pos h]
    have h' : i64 b < i64 a := h
    rw [Int64.lt_iff_toInt_lt, j_toInt ha, j_toInt hb] at h'
    exact ⟨fun z => absurd z (by decide), fun z => by omega⟩
  · rw [if_neg h]
    have h' : ¬ i64 b < i64 a := h
    rw [Int64.lt_iff_toInt_lt, j_toInt ha, j_toInt hb] at h'
    by_cases h2 : i64 a = i64 b
    · rw [if_pos h2]
      rw [j_eq ha hb] at h2
      exact ⟨fun z => absurd z (by decide), fun z => by omega⟩
    · rw [if_neg h2]
      rw [j_eq ha hb] at h2
      exact ⟨fun _ => by omega, fun _ => by decide⟩
theorem j_div {a b : Nat} (ha : a < 9223372036854775808) (hb : b < 9223372036854775808) (h0 : 0 < b) : i64 a / i64 b = i64 (a / b) := by
  have q : a / b ≤ a := Nat.div_le_self a b
  apply Int64.toInt_inj.mp
  rw [Int64.toInt_div_of_ne_right _ _ (by
    intro z; have := congrArg Int64.toInt z; rw [j_toInt hb] at this
    have m1 : (-1 : Int64).toInt = -1 := by decide
    rw [m1] at this; omega), j_toInt ha, j_toInt hb, j_toInt (by omega)]
  rfl
theorem j_rem {a b : Nat} (ha : a < 9223372036854775808) (hb : b < 9223372036854775808) (h0 : 0 < b) : i64 a - i64 a / i64 b * i64 b = i64 (a % b) := by
  have q : a / b * b ≤ a := Nat.div_mul_le_self a b
  rw [j_div ha hb h0, j_mul, j_sub q]
  congr 1
  have := Nat.div_add_mod a b
  rw [Nat.mul_comm] at this
  omega
theorem j_u (y : UInt64) : UInt64.toInt64 y = i64 y.toNat := by
  apply Int64.toBitVec_inj.mp
  show y.toBitVec = BitVec.ofNat 64 y.toNat
  exact BitVec.eq_of_toNat_eq (by simp)
theorem j_toU {n : Nat} (h : n < 18446744073709551616) : (Int64.toUInt64 (i64 n)).toNat = n := by
  show (BitVec.ofNat 64 n).toNat = n
  rw [BitVec.toNat_ofNat]
  exact Nat.mod_eq_of_lt (by omega)
theorem j_shr {n j : Nat} (h : n < 9223372036854775808) (hj : j ≤ 6) : UInt64.toInt64 (Int64.toUInt64 (i64 n) >>> (Int64.toUInt64 (Int32.toInt64 (i32 (5 * j))) &&& Int64.toUInt64 63)) &&& i64 31 = i64 (n / 32 ^ j % 32) := by
  have e1 : ∀ y : UInt64, UInt64.toInt64 y &&& i64 31 = UInt64.toInt64 (y &&& 31) := fun y => rfl
  rw [e1, j_u, UInt64.toNat_and, UInt64.toNat_shiftRight, j_toU (by omega)]
  have e2 : (Int64.toUInt64 (Int32.toInt64 (i32 (5 * j))) &&& Int64.toUInt64 63).toNat % 64 = 5 * j := by
    obtain rfl | rfl | rfl | rfl | rfl | rfl | rfl : j = 0 ∨ j = 1 ∨ j = 2 ∨ j = 3 ∨ j = 4 ∨ j = 5 ∨ j = 6 := by omega
    all_goals decide
  rw [e2, Nat.shiftRight_eq_div_pow]
  have e3 : (31 : UInt64).toNat = 2 ^ 5 - 1 := rfl
  rw [e3, Nat.and_two_pow_sub_one_eq_mod]
  have e4 : 2 ^ (5 * j) = 32 ^ j := by rw [Nat.pow_mul]
  rw [e4]
theorem cB_lt {β : Nat} (hβ : 27 ≤ β) : ∀ {w : List Nat}, (∀ d, d ∈ w → 1 ≤ d ∧ d ≤ 26) → cB β w < β ^ w.length := by
  intro w
  induction w with
  | nil => intro _; exact Nat.one_pos
  | cons d w ih =>
    intro h
    have h1 := ih (fun x hx => h x (List.mem_cons_of_mem _ hx))
    have h2 := h d (List.mem_cons_self ..)
    show cB β w * β + d < β ^ (w.length + 1)
    rw [Nat.pow_succ]
    have h3 : (cB β w + 1) * β ≤ β ^ w.length * β := Nat.mul_le_mul_right β h1
    rw [Nat.add_mul] at h3
    omega
theorem cB_dig {β : Nat} (hβ : 27 ≤ β) : ∀ {w : List Nat}, (∀ d, d ∈ w → 1 ≤ d ∧ d ≤ 26) → ∀ j, cB β w / β ^ j % β = w.getD j 0 := by
  intro w
  induction w with
  | nil =>
    intro _ j
    show 0 / β ^ j % β = _
    rw [Nat.zero_div, Nat.zero_mod]; rfl
  | cons d w ih =>
    intro h j
    have h2 := h d (List.mem_cons_self ..)
    have h1 := ih (fun x hx => h x (List.mem_cons_of_mem _ hx))
    show (cB β w * β + d) / β ^ j % β = _
    cases j with
    | zero =>
      rw [Nat.pow_zero, Nat.div_one, Nat.add_comm, Nat.add_mul_mod_self_right, Nat.mod_eq_of_lt (by omega)]; rfl
    | succ j =>
      have e : (cB β w * β + d) / β = cB β w := by
        rw [Nat.add_comm, Nat.add_mul_div_right _ _ (by omega), Nat.div_eq_of_lt (by omega), Nat.zero_add]
      rw [Nat.pow_succ, Nat.mul_comm (β ^ j) β, ← Nat.div_div_eq_div_mul, e, h1 j]; rfl
theorem cB_inj {β : Nat} (hβ : 27 ≤ β) : ∀ {w v : List Nat}, (∀ d, d ∈ w → 1 ≤ d ∧ d ≤ 26) → (∀ d, d ∈ v → 1 ≤ d ∧ d ≤ 26) → (cB β w = cB β v ↔ w = v) := by
  intro w
  induction w with
  | nil =>
    intro v hw hv
    cases v with
    | nil => exact ⟨fun _ => rfl, fun _ => rfl⟩
    | cons e v =>
      have h2 := hv e (List.mem_cons_self ..)
      refine ⟨fun h => ?_, fun h => by cases h⟩
      have h' : 0 = cB β v * β + e := h
      omega
  | cons d w ih =>
    intro v hw hv
    have h1 := hw d (List.mem_cons_self ..)
    cases v with
    | nil =>
      refine ⟨fun h => ?_, fun h => by cases h⟩
      have h' : cB β w * β + d = 0 := h
      omega
    | cons e v =>
      have h2 := hv e (List.mem_cons_self ..)
      have h3 := ih (v := v) (fun x hx => hw x (List.mem_cons_of_mem _ hx)) (fun x hx => hv x (List.mem_cons_of_mem _ hx))
      constructor
      · intro h
        have h' : cB β w * β + d = cB β v * β + e := h
        have k1 : (cB β w * β + d) % β = d := by rw [Nat.add_comm, Nat.add_mul_mod_self_right, Nat.mod_eq_of_lt (by omega)]
        have k2 : (cB β v * β + e) % β = e := by rw [Nat.add_comm, Nat.add_mul_mod_self_right, Nat.mod_eq_of_lt (by omega)]
        have k3 : (cB β w * β + d) / β = cB β w := by rw [Nat.add_comm, Nat.add_mul_div_right _ _ (by omega), Nat.div_eq_of_lt (by omega), Nat.zero_add]
        have k4 : (cB β v * β + e) / β = cB β v := by rw [Nat.add_comm, Nat.add_mul_div_right _ _ (by omega), Nat.div_eq_of_lt (by omega), Nat.zero_add]
        rw [h'] at k1 k3
        rw [k1] at k2
        rw [k3] at k4
        rw [k2, h3.mp k4]
      · intro h; rw [h]
theorem pow_le' {β n m : Nat} (hβ : 27 ≤ β) (h : n ≤ m) : β ^ n ≤ β ^ m := Nat.pow_le_pow_right (by omega) h
theorem cB_63 {β : Nat} (hβ : 27 ≤ β) (hb : β ≤ 32) {w : List Nat} (h : wOk w) : cB β w < 34359738368 := by
  have h1 := cB_lt hβ h.2.2
  have h2 := pow_le' hβ h.2.1
  have h3 : β ^ 7 ≤ 32 ^ 7 := Nat.pow_le_pow_left hb 7
  have h4 : (32 : Nat) ^ 7 = 34359738368 := by decide
  omega
theorem w_eq {β : Nat} (hβ : 27 ≤ β) (hb : β ≤ 32) {w v : List Nat} (hw : wOk w) (hv : wOk v) : i64 (cB β w) = i64 (cB β v) ↔ w = v := by
  have h1 := cB_63 hβ hb hw
  have h2 := cB_63 hβ hb hv
  rw [j_eq (by omega) (by omega)]
  exact cB_inj hβ hw.2.2 hv.2.2
theorem w_cmp {β : Nat} (hβ : 27 ≤ β) (hb : β ≤ 32) {w v : List Nat} (hw : wOk w) (hv : wOk v) : lg_cmp (i64 (cB β w)) (i64 (cB β v)) = i32 0 ↔ w = v := lg_0.trans (w_eq hβ hb hw hv)
