/-! ===== NUMBERS: an int that is a small natural number ===== -/
def i32 (n : Nat) : Int32 := Int32.ofNat n
/-- -1 -/
def n1 : Int32 := -1
theorem i_lit {n : Nat} : (OfNat.ofNat n : Int32) = i32 (OfNat.ofNat n) := rfl
theorem i_0 : (0 : Int32) = i32 0 := rfl
theorem i_n1 : -(i32 1) = n1 := by decide
theorem i_add {a b : Nat} : i32 a + i32 b = i32 (a + b) := (Int32.ofNat_add a b).symm
theorem i_mul {a b : Nat} : i32 a * i32 b = i32 (a * b) := (Int32.ofNat_mul a b).symm
theorem i_sub {a b : Nat} (h : b ≤ a) : i32 a - i32 b = i32 (a - b) := by
  have e : i32 a = i32 (a - b) + i32 b := by rw [i_add, Nat.sub_add_cancel h]
  rw [e, Int32.add_sub_cancel]
theorem i_toInt {n : Nat} (h : n < 2147483648) : (i32 n).toInt = n := Int32.toInt_ofNat_of_lt h
theorem i_cl {n : Nat} (h : n < 2147483648) : (i32 n).toNatClampNeg = n := by
  rw [Int32.toNatClampNeg, i_toInt h]; exact Int.toNat_natCast n
theorem i_le {a b : Nat} (ha : a < 2147483648) (hb : b < 2147483648) : i32 a ≤ i32 b ↔ a ≤ b := by
  rw [Int32.le_iff_toInt_le, i_toInt ha, i_toInt hb]; omega
theorem i_lt {a b : Nat} (ha : a < 2147483648) (hb : b < 2147483648) : i32 a < i32 b ↔ a < b := by
  rw [Int32.lt_iff_toInt_lt, i_toInt ha, i_toInt hb]; omega
theorem i_eq {a b : Nat} (ha : a < 2147483648) (hb : b < 2147483648) : i32 a = i32 b ↔ a = b := by
  constructor
  · intro h; have := congrArg Int32.toInt h; rw [i_toInt ha, i_toInt hb] at this; omega
  · intro h; rw [h]
theorem n1_toInt : n1.toInt = -1 := by decide
theorem i_ne1 {a : Nat} (ha : a < 2147483648) : i32 a = n1 ↔ False := by
  constructor
  · intro h; have := congrArg Int32.toInt h; rw [i_toInt ha, n1_toInt] at this; omega
  · exact False.elim
theorem n1_ne {a : Nat} (ha : a < 2147483648) : n1 = i32 a ↔ False := by rw [eq_comm]; exact i_ne1 ha
theorem n1_lt {a : Nat} (ha : a < 2147483648) : n1 < i32 a ↔ True := by
  rw [Int32.lt_iff_toInt_lt, i_toInt ha, n1_toInt]; exact ⟨fun _ => trivial, fun _ => by omega⟩
theorem n1_le {a : Nat} (ha : a < 2147483648) : n1 ≤ i32 a ↔ True := by
  rw [Int32.le_iff_toInt_le, i_toInt ha, n1_toInt]; exact ⟨fun _ => trivial, fun _ => by omega⟩
theorem i_lt1 {a : Nat} (ha : a < 2147483648) : i32 a < n1 ↔ False := by
  rw [Int32.lt_iff_toInt_lt, i_toInt ha, n1_toInt]; exact ⟨fun h => by omega, False.elim⟩
theorem i_le1 {a : Nat} (ha : a < 2147483648) : i32 a ≤ n1 ↔ False := by
  rw [Int32.le_iff_toInt_le, i_toInt ha, n1_toInt]; exact ⟨fun h => by omega, False.elim⟩
theorem i_ib {k n : Nat} (h : k < n) (hk : k < 2147483648) : ib (i32 k) n := by
  intro z
  rcases z with z | z
  · rw [i_0, i_lt hk (by omega)] at z; omega
  · rw [i_cl hk] at z; omega
/-- an int is one of 0 .. n-1, or it isn't -/
theorem i_in (v : Int32) {n : Nat} (hn : n < 2147483648) : (∃ k, k < n ∧ v = i32 k) ∨ v < 0 ∨ (0 ≤ v ∧ i32 n ≤ v) := by
  by_cases h0 : v < 0
  · exact Or.inr (Or.inl h0)
  · by_cases h1 : i32 n ≤ v
    · refine Or.inr (Or.inr ⟨?_, h1⟩)
      rw [Int32.le_iff_toInt_le]; rw [Int32.lt_iff_toInt_lt] at h0; omega
    · left
      rw [Int32.lt_iff_toInt_lt] at h0
      rw [Int32.le_iff_toInt_le, i_toInt hn] at h1
      have z : (0 : Int32).toInt = 0 := rfl
      refine ⟨v.toInt.toNat, by omega, ?_⟩
      apply Int32.toInt_inj.mp
      rw [i_toInt (by omega)]; omega
/-! ===== READS AND WRITES ===== -/
theorem aI_k {M : Mem} {a k : Nat} (hk : mK M a = 20) (h : k < mN M a) (h2 : mN M a < 2147483648) : aI M a (i32 k) = some (mI M a k) := by
  rw [aI, if_pos ⟨hk, i_ib h (by omega)⟩, i_cl (by omega)]
theorem aL_k {M : Mem} {a k : Nat} (hk : mK M a = 21) (h : k < mN M a) (h2 : mN M a < 2147483648) : aL M a (i32 k) = some (mL M a k) := by
  rw [aL, if_pos ⟨hk, i_ib h (by omega)⟩, i_cl (by omega)]
theorem aZ_k {M : Mem} {a k : Nat} (hk : mK M a = 22) (h : k < mN M a) (h2 : mN M a < 2147483648) : aZ M a (i32 k) = some (mI M a k) := by
  rw [aZ, if_pos ⟨hk, i_ib h (by omega)⟩, i_cl (by omega)]
theorem aR_k {M : Mem} {c a k : Nat} (hk : mK M a = c) (h : k < mN M a) (h2 : mN M a < 2147483648) : aR M c a (i32 k) = gR M a k := by
  rw [aR, if_pos ⟨hk, i_ib h (by omega)⟩, i_cl (by omega)]
theorem tI_k {M : Mem} {a k : Nat} {v : Int32} (hk : mK M a = 20) (h : k < mN M a) (h2 : mN M a < 2147483648) : tI M a (i32 k) v = some (sI M a k v) := by
  rw [tI, if_pos ⟨hk, i_ib h (by omega)⟩, i_cl (by omega)]
theorem tL_k {M : Mem} {a k : Nat} {v : Int64} (hk : mK M a = 21) (h : k < mN M a) (h2 : mN M a < 2147483648) : tL M a (i32 k) v = some (sL M a k v) := by
  rw [tL, if_pos ⟨hk, i_ib h (by omega)⟩, i_cl (by omega)]
theorem kS_k {k : Nat} (h : k < 10) : kS (i32 k) = some (stk k) := by
  rw [kS, if_pos (i_ib h (by omega)), i_cl (by omega)]
theorem mI_sI {M : Mem} {a k a' k' : Nat} {v : Int32} : mI (sI M a k v) a' k' = if a' = a ∧ k' = k then v else mI M a' k' := by
  show va_up (mI M) a (upd (mI M a) k v) a' k' = _
  simp only [va_up, upd]
  by_cases h : a' = a
  · subst h; by_cases h2 : k' = k <;> simp [h2, upd, vp_updL]
  · simp [h]
theorem mL_sL {M : Mem} {a k a' k' : Nat} {v : Int64} : mL (sL M a k v) a' k' = if a' = a ∧ k' = k then v else mL M a' k' := by
  show va_up (mL M) a (vp_updL (mL M a) k v) a' k' = _
  simp only [va_up, vp_updL]
  by_cases h : a' = a
  · subst h; by_cases h2 : k' = k <;> simp [h2, upd, vp_updL]
  · simp [h]
theorem i_rem {a b : Nat} (ha : a < 2147483648) (hb : b < 2147483648) (h0 : 0 < b) : i32 a - i32 a / i32 b * i32 b = i32 (a % b) := by
  have hd : i32 a / i32 b = i32 (a / b) := by
    have q : a / b ≤ a := Nat.div_le_self a b
    apply Int32.toInt_inj.mp
    rw [Int32.toInt_div_of_ne_right _ _ (by
      intro z; have := congrArg Int32.toInt z; rw [i_toInt hb] at this
      have m1 : (-1 : Int32).toInt = -1 := by decide
      rw [m1] at this; omega), i_toInt ha, i_toInt hb, i_toInt (by omega)]
    rfl
  have q : a / b * b ≤ a := Nat.div_mul_le_self a b
  rw [hd, i_mul, i_sub q]
  congr 1
  have := Nat.div_add_mod a b
  rw [Nat.mul_comm] at this
  omega
theorem i_div {a b : Nat} (ha : a < 2147483648) (hb : b < 2147483648) (h0 : 0 < b) : i32 a / i32 b = i32 (a / b) := by
  have q : a / b ≤ a := Nat.div_le_self a b
  apply Int32.toInt_inj.mp
  rw [Int32.toInt_div_of_ne_right _ _ (by
    intro z; have := congrArg Int32.toInt z; rw [i_toInt hb] at this
    have m1 : (-1 : Int32).toInt = -1 := by decide
    rw [m1] at this; omega), i_toInt ha, i_toInt hb, i_toInt (by omega)]
  rfl
theorem i_pred {n : Nat} {v : Int32} (hn : n < 2147483648) : i32 n - i32 1 < v ↔ i32 n ≤ v := by
  have e : (i32 n - i32 1).toInt = n - 1 := by
    rw [Int32.toInt_sub, i_toInt hn, i_toInt (by omega)]
    rw [Int.bmod_eq_of_le] <;> omega
  rw [Int32.lt_iff_toInt_lt, Int32.le_iff_toInt_le, e, i_toInt hn]; omega
theorem i_addn1 {a : Nat} (h : 1 ≤ a) : i32 a + n1 = i32 (a - 1) := by
  have e : n1 = - i32 1 := i_n1.symm
  rw [e, ← Int32.sub_eq_add_neg, i_sub h]
theorem bd_s {α β : Type} {x : α} {f : α → Option β} : (some x).bind f = f x := by
  have h : ∀ o : Option α, o = some x → o.bind f = f x := fun o ho => by subst ho; rfl
  exact h _ rfl

/-! ===== THE MEMORY AT WORK: kinds, lengths and refs stand still ===== -/
def MstO : Option Mem := ((nO M00 10).bind fun (x0_1, M0_1) => ((fX10_init 2000 x0_1 M0_1).bind fun (u4, M4_2) => ((nO M4_2 11).bind fun (x8_3, M8_3) => ((fX11_init 2000 x8_3 M8_3).bind fun (u12, M12_4) => ((nV M12_4 21 1).bind fun (x17_5, M17_5) => some (fg M17_5))))))
def Mst : Mem := MstO.getD M00
def kTab : List Nat := [11, 10, 20, 21, 9, 21, 20, 20, 20, 21, 20, 21, 20, 20, 20, 9, 21, 20, 20, 20, 21, 20, 21, 20, 20, 20, 1, 20, 20, 20, 20, 20, 20, 20, 1, 20, 20, 20, 20, 20, 20, 20, 6, 23, 1, 20, 20, 20, 20, 20, 20, 20, 1, 20, 20, 20, 20, 20, 20, 20, 1, 20, 20, 20, 20, 20, 20, 20, 1, 20, 20, 20, 20, 20, 20, 20, 1, 20, 20, 20, 20, 20, 20, 20, 1, 20, 20, 20, 20, 20, 20, 20, 1, 20, 20, 20, 20, 20, 20, 20, 1, 20, 20, 20, 20, 20, 20, 20, 2, 20, 20, 20, 20, 20, 8, 20, 20, 20, 20, 8, 20, 20, 20, 20, 4, 20, 20, 5, 7, 20, 20, 20, 3, 20, 25, 23, 24, 22, 9, 21, 20, 20, 20, 21, 20, 21, 20, 20, 20, 1, 20, 20, 20, 20, 20, 20, 20, 8, 20, 20, 20, 20, 9, 21, 20, 20, 20, 21, 20, 21, 20, 20, 20, 1, 20, 20, 20, 20, 20, 20, 20, 8, 20, 20, 20, 20, 12, 20, 20, 20, 20, 20, 20, 21, 21, 21, 22, 20, 20, 20, 20, 20, 20, 20, 20, 20, 21]
def nTab : List Nat := [0, 0, 940, 20, 0, 6, 6, 6, 8, 4, 4, 6, 6, 6, 18, 0, 6, 6, 6, 8, 4, 4, 6, 6, 6, 18, 0, 72, 72, 6, 6, 6, 4, 12, 0, 72, 72, 6, 6, 6, 4, 12, 0, 8, 0, 72, 72, 6, 6, 6, 4, 12, 0, 72, 72, 6, 6, 6, 4, 12, 0, 72, 72, 6, 6, 6, 4, 12, 0, 72, 72, 6, 6, 6, 4, 12, 0, 72, 72, 6, 6, 6, 4, 12, 0, 72, 72, 6, 6, 6, 4, 12, 0, 72, 72, 6, 6, 6, 4, 12, 0, 72, 72, 6, 6, 6, 4, 12, 0, 40, 40, 40, 40, 40, 0, 40, 40, 40, 40, 0, 40, 40, 40, 40, 0, 300, 300, 0, 0, 6, 6, 6, 0, 20, 2, 2, 2, 2, 0, 6, 6, 6, 8, 4, 4, 6, 6, 6, 18, 0, 72, 72, 6, 6, 6, 4, 12, 0, 40, 40, 40, 40, 0, 6, 6, 6, 8, 4, 4, 6, 6, 6, 18, 0, 72, 72, 6, 6, 6, 4, 12, 0, 40, 40, 40, 40, 0, 940, 441, 35, 882, 1312, 164, 16, 16, 32, 2, 9537, 3, 6, 6, 6, 64, 200, 4, 240, 1]
def rTab : List (List Nat) := [[2, 5, 16, 27, 35, 43, 109, 115, 120, 125, 128, 129, 133, 134, 0, 135, 136, 137, 138], [3, 4], [], [], [0, 6, 7, 8, 0, 9, 0, 10, 11, 0, 12, 13, 14, 15], [], [], [], [], [], [], [], [], [], [], [0, 17, 18, 19, 0, 20, 0, 21, 22, 0, 23, 24, 25, 26], [], [], [], [], [], [], [], [], [], [], [5, 28, 29, 30, 31, 32, 33, 34], [], [], [], [], [], [], [], [5, 36, 37, 38, 39, 40, 41, 42], [], [], [], [], [], [], [], [44], [45, 53, 61, 69, 77, 85, 93, 101], [5, 46, 47, 48, 49, 50, 51, 52], [], [], [], [], [], [], [], [5, 54, 55, 56, 57, 58, 59, 60], [], [], [], [], [], [], [], [5, 62, 63, 64, 65, 66, 67, 68], [], [], [], [], [], [], [], [5, 70, 71, 72, 73, 74, 75, 76], [], [], [], [], [], [], [], [5, 78, 79, 80, 81, 82, 83, 84], [], [], [], [], [], [], [], [5, 86, 87, 88, 89, 90, 91, 92], [], [], [], [], [], [], [], [5, 94, 95, 96, 97, 98, 99, 100], [], [], [], [], [], [], [], [5, 102, 103, 104, 105, 106, 107, 108], [], [], [], [], [], [], [], [5, 110, 111, 112, 113, 114], [], [], [], [], [], [5, 116, 117, 118, 119], [], [], [], [], [5, 121, 122, 123, 124], [], [], [], [], [5, 126, 127], [], [], [5], [5, 130, 131, 132], [], [], [], [5], [], [139, 163], [150, 174], [158, 182], [], [0, 140, 141, 142, 0, 143, 0, 144, 145, 0, 146, 147, 148, 149], [], [], [], [], [], [], [], [], [], [], [5, 151, 152, 153, 154, 155, 156, 157], [], [], [], [], [], [], [], [5, 159, 160, 161, 162], [], [], [], [], [0, 164, 165, 166, 0, 167, 0, 168, 169, 0, 170, 171, 172, 173], [], [], [], [], [], [], [], [], [], [], [5, 175, 176, 177, 178, 179, 180, 181], [], [], [], [], [], [], [], [5, 183, 184, 185, 186], [], [], [], [], [0, 188, 0, 0, 0, 0, 0, 0, 0, 0, 0, 0, 0, 0, 189, 190, 191, 192, 193, 194, 195, 196, 197, 0, 0, 198, 199, 0, 200, 201, 202, 0, 0, 203, 0, 0, 204, 205, 0, 0, 206], [], [], [], [], [], [], [], [], [], [], [], [], [], [], [], [], [], [], [], []]
def K0 : Nat → Nat := fun q => if q < 207 then kTab.getD q 0 else mK Mst q
def N0 : Nat → Nat := fun q => if q < 207 then nTab.getD q 0 else mN Mst q
def Rq : Nat → Nat → Nat := fun q k => if q < 207 ∧ k < 45 then (rTab.getD q []).getD k 0 else mR Mst q k
/-- the refs; r: whether the two rows of Keeping have changed places -/
def R0 (r : Bool) : Nat → Nat → Nat := fun q k => if q = 124 then (if k = 1 then (if r then 127 else 126) else if k = 2 then (if r then 126 else 127) else Rq q k) else Rq q k
/-- the memory of the ints I and the longs L -/
def mk (I : Nat → Nat → Int32) (L : Nat → Nat → Int64) (r : Bool) : Mem := (I, L, R0 r, K0, N0, 0)
def up (I : Nat → Nat → Int32) (a k : Nat) (v : Int32) : Nat → Nat → Int32 := fun a' k' => if a' = a ∧ k' = k then v else I a' k'
def upL (I : Nat → Nat → Int64) (a k : Nat) (v : Int64) : Nat → Nat → Int64 := fun a' k' => if a' = a ∧ k' = k then v else I a' k'
theorem sI_mk {I : Nat → Nat → Int32} {L : Nat → Nat → Int64} {r : Bool} {a k : Nat} {v : Int32} : sI (mk I L r) a k v = mk (up I a k v) L r := by
  have e : va_up I a (upd (I a) k v) = up I a k v := by
    funext a' k'
    simp only [va_up, up]
    by_cases h : a' = a
    · subst h; by_cases h2 : k' = k <;> simp [h2, upd]
    · simp [h]
  show (va_up I a (upd (I a) k v), L, R0 r, K0, N0, 0) = mk (up I a k v) L r
  rw [e]; rfl
theorem sL_mk {I : Nat → Nat → Int32} {L : Nat → Nat → Int64} {r : Bool} {a k : Nat} {v : Int64} : sL (mk I L r) a k v = mk I (upL L a k v) r := by
  have e : va_up L a (vp_updL (L a) k v) = upL L a k v := by
    funext a' k'
    simp only [va_up, upL]
    by_cases h : a' = a
    · subst h; by_cases h2 : k' = k <;> simp [h2, vp_updL]
    · simp [h]
  show (I, va_up L a (vp_updL (L a) k v), R0 r, K0, N0, 0) = mk I (upL L a k v) r
  rw [e]; rfl
section
variable {I : Nat → Nat → Int32} {L : Nat → Nat → Int64} {r : Bool} {a k n c : Nat} {v : Int32} {w : Int64}
theorem mk_K : mK (mk I L r) a = K0 a := rfl
theorem mk_I : mI (mk I L r) a k = I a k := rfl
theorem mk_fI (h : K0 a = c + 1) : fI (mk I L r) c a k = some (I a k) := by rw [fI, if_pos (show mK (mk I L r) a = c + 1 from h)]; rfl
theorem mk_fL (h : K0 a = c + 1) : fL (mk I L r) c a k = some (L a k) := by rw [fL, if_pos (show mK (mk I L r) a = c + 1 from h)]; rfl
theorem mk_fR {t : Nat} (h : K0 a = c + 1) (h2 : R0 r a k = t + 1) : fR (mk I L r) c a k = some t := by
  rw [fR, if_pos (show mK (mk I L r) a = c + 1 from h), gR, show mR (mk I L r) a k = t + 1 from h2]
theorem mk_pI (h : K0 a = c + 1) : pI (mk I L r) c a k v = some (mk (up I a k v) L r) := by rw [pI, if_pos (show mK (mk I L r) a = c + 1 from h), sI_mk]
theorem mk_pL (h : K0 a = c + 1) : pL (mk I L r) c a k w = some (mk I (upL L a k w) r) := by rw [pL, if_pos (show mK (mk I L r) a = c + 1 from h), sL_mk]
theorem mk_pZ0 (h : K0 a = c + 1) : pZ (mk I L r) c a k (i32 0) = some (mk (up I a k (i32 0)) L r) := by rw [pZ, if_pos ⟨show mK (mk I L r) a = c + 1 from h, rfl⟩, sI_mk]
theorem mk_pZ1 (h : K0 a = c + 1) : pZ (mk I L r) c a k (i32 1) = some (mk (up I a k (i32 1)) L r) := by rw [pZ, if_pos ⟨show mK (mk I L r) a = c + 1 from h, rfl⟩, sI_mk]
theorem mk_aI (h : K0 a = 20) (hn : N0 a = n) (hk : k < n) (h2 : n < 2147483648) : aI (mk I L r) a (i32 k) = some (I a k) := aI_k (M := mk I L r) h (by rw [show mN (mk I L r) a = n from hn]; exact hk) (by rw [show mN (mk I L r) a = n from hn]; exact h2)
theorem mk_aL (h : K0 a = 21) (hn : N0 a = n) (hk : k < n) (h2 : n < 2147483648) : aL (mk I L r) a (i32 k) = some (L a k) := aL_k (M := mk I L r) h (by rw [show mN (mk I L r) a = n from hn]; exact hk) (by rw [show mN (mk I L r) a = n from hn]; exact h2)
theorem mk_aZ (h : K0 a = 22) (hn : N0 a = n) (hk : k < n) (h2 : n < 2147483648) : aZ (mk I L r) a (i32 k) = some (I a k) := aZ_k (M := mk I L r) h (by rw [show mN (mk I L r) a = n from hn]; exact hk) (by rw [show mN (mk I L r) a = n from hn]; exact h2)
theorem mk_aR {t : Nat} (h : K0 a = c) (hn : N0 a = n) (hk : k < n) (h2 : n < 2147483648) (ht : R0 r a k = t + 1) : aR (mk I L r) c a (i32 k) = some t := by
  rw [aR_k (M := mk I L r) h (by rw [show mN (mk I L r) a = n from hn]; exact hk) (by rw [show mN (mk I L r) a = n from hn]; exact h2), gR, show mR (mk I L r) a k = t + 1 from ht]
theorem mk_tI (h : K0 a = 20) (hn : N0 a = n) (hk : k < n) (h2 : n < 2147483648) : tI (mk I L r) a (i32 k) v = some (mk (up I a k v) L r) := by
  rw [tI_k (M := mk I L r) h (by rw [show mN (mk I L r) a = n from hn]; exact hk) (by rw [show mN (mk I L r) a = n from hn]; exact h2), sI_mk]
theorem mk_tL (h : K0 a = 21) (hn : N0 a = n) (hk : k < n) (h2 : n < 2147483648) : tL (mk I L r) a (i32 k) w = some (mk I (upL L a k w) r) := by
  rw [tL_k (M := mk I L r) h (by rw [show mN (mk I L r) a = n from hn]; exact hk) (by rw [show mN (mk I L r) a = n from hn]; exact h2), sL_mk]
theorem mk_tZ1 (h : K0 a = 22) (hn : N0 a = n) (hk : k < n) (h2 : n < 2147483648) : tZ (mk I L r) a (i32 k) (i32 1) = some (mk (up I a k (i32 1)) L r) := by
  rw [tZ, if_pos ⟨show mK (mk I L r) a = 22 from h, i_ib (by rw [show mN (mk I L r) a = n from hn]; exact hk) (by omega)⟩, i_cl (by omega), show vp_nar .boolean (i32 1) = i32 1 from rfl, sI_mk]
theorem mk_nA (h : 20 ≤ K0 a ∧ K0 a ≤ 25) (hn : N0 a = n) : nA (mk I L r) a = some (i32 n) := by
  rw [nA, if_pos (show 20 ≤ mK (mk I L r) a ∧ mK (mk I L r) a ≤ 25 from h), show mN (mk I L r) a = n from hn]; rfl
theorem up_self : up I a k v a k = v := by rw [up, if_pos ⟨rfl, rfl⟩]
theorem up_at {k' : Nat} : up I a k v a k' = if k' = k then v else I a k' := by
  rw [up]; by_cases h : k' = k <;> simp [h]
theorem up_off {a' k' : Nat} (h : a' ≠ a) : up I a k v a' k' = I a' k' := by rw [up, if_neg (fun z => h z.1)]
theorem up_ofk {a' k' : Nat} (h : k' ≠ k) : up I a k v a' k' = I a' k' := by rw [up, if_neg (fun z => h z.2)]
theorem up_row {a' : Nat} (h : a' ≠ a) : up I a k v a' = I a' := by funext k'; exact up_off h
theorem upL_self : upL L a k w a k = w := by rw [upL, if_pos ⟨rfl, rfl⟩]
theorem upL_at {k' : Nat} : upL L a k w a k' = if k' = k then w else L a k' := by
  rw [upL]; by_cases h : k' = k <;> simp [h]
theorem upL_off {a' k' : Nat} (h : a' ≠ a) : upL L a k w a' k' = L a' k' := by rw [upL, if_neg (fun z => h z.1)]
theorem upL_row {a' : Nat} (h : a' ≠ a) : upL L a k w a' = L a' := by funext k'; exact upL_off h
end
def isBe (a : Nat) : Bool := a == 26 || a == 34 || a == 44 || a == 52 || a == 60 || a == 68 || a == 76 || a == 84 || a == 92 || a == 100 || a == 149 || a == 173
theorem isBe_c {a : Nat} (h : isBe a = true) : a = 26 ∨ a = 34 ∨ a = 44 ∨ a = 52 ∨ a = 60 ∨ a = 68 ∨ a = 76 ∨ a = 84 ∨ a = 92 ∨ a = 100 ∨ a = 149 ∨ a = 173 := by
  simp only [isBe, Bool.or_eq_true, beq_iff_eq] at h; omega
theorem be_K {a : Nat} (h : isBe a = true) : K0 a = 1 := by rcases isBe_c h with rfl | rfl | rfl | rfl | rfl | rfl | rfl | rfl | rfl | rfl | rfl | rfl <;> decide +kernel
theorem be_k {a : Nat} {I : Nat → Nat → Int32} {L : Nat → Nat → Int64} {r : Bool} (h : isBe a = true) : mK (mk I L r) a = 1 := (be_K h)
theorem be_fI {a : Nat} {I : Nat → Nat → Int32} {L : Nat → Nat → Int64} {r : Bool} {k : Nat} (h : isBe a = true) : fI (mk I L r) 0 a k = some (I a k) := mk_fI (be_K h)
theorem be_fL {a : Nat} {I : Nat → Nat → Int32} {L : Nat → Nat → Int64} {r : Bool} {k : Nat} (h : isBe a = true) : fL (mk I L r) 0 a k = some (L a k) := mk_fL (be_K h)
theorem be_pI {a : Nat} {I : Nat → Nat → Int32} {L : Nat → Nat → Int64} {r : Bool} {k : Nat} {v : Int32} (h : isBe a = true) : pI (mk I L r) 0 a k v = some (mk (up I a k v) L r) := mk_pI (be_K h)
theorem be_pL {a : Nat} {I : Nat → Nat → Int32} {L : Nat → Nat → Int64} {r : Bool} {k : Nat} {w : Int64} (h : isBe a = true) : pL (mk I L r) 0 a k w = some (mk I (upL L a k w) r) := mk_pL (be_K h)
theorem be_z0 {a : Nat} {I : Nat → Nat → Int32} {L : Nat → Nat → Int64} {r : Bool} {k : Nat} (h : isBe a = true) : pZ (mk I L r) 0 a k (i32 0) = some (mk (up I a k (i32 0)) L r) := mk_pZ0 (be_K h)
theorem be_z1 {a : Nat} {I : Nat → Nat → Int32} {L : Nat → Nat → Int64} {r : Bool} {k : Nat} (h : isBe a = true) : pZ (mk I L r) 0 a k (i32 1) = some (mk (up I a k (i32 1)) L r) := mk_pZ1 (be_K h)
theorem be_r0 {a : Nat} {r : Bool} (h : isBe a = true) : R0 r a 0 = 4 + 1 := by rcases isBe_c h with rfl | rfl | rfl | rfl | rfl | rfl | rfl | rfl | rfl | rfl | rfl | rfl <;> cases r <;> decide +kernel
theorem be_fR0 {a : Nat} {I : Nat → Nat → Int32} {L : Nat → Nat → Int64} {r : Bool} (h : isBe a = true) : fR (mk I L r) 0 a 0 = some 4 := mk_fR (be_K h) (be_r0 h)
theorem be_r1 {a : Nat} {r : Bool} (h : isBe a = true) : R0 r a 1 = (a + 1) + 1 := by rcases isBe_c h with rfl | rfl | rfl | rfl | rfl | rfl | rfl | rfl | rfl | rfl | rfl | rfl <;> cases r <;> decide +kernel
theorem be_fR1 {a : Nat} {I : Nat → Nat → Int32} {L : Nat → Nat → Int64} {r : Bool} (h : isBe a = true) : fR (mk I L r) 0 a 1 = some (a + 1) := mk_fR (be_K h) (be_r1 h)
theorem be1_K {a : Nat} (h : isBe a = true) : K0 (a + 1) = 20 := by rcases isBe_c h with rfl | rfl | rfl | rfl | rfl | rfl | rfl | rfl | rfl | rfl | rfl | rfl <;> decide +kernel
theorem be1_N {a : Nat} (h : isBe a = true) : N0 (a + 1) = 72 := by rcases isBe_c h with rfl | rfl | rfl | rfl | rfl | rfl | rfl | rfl | rfl | rfl | rfl | rfl <;> decide +kernel
theorem be1_a {a : Nat} {I : Nat → Nat → Int32} {L : Nat → Nat → Int64} {r : Bool} {k : Nat} (h : isBe a = true) (hk : k < 72) : aI (mk I L r) (a + 1) (i32 k) = some (I (a + 1) k) := mk_aI (be1_K h) (be1_N h) hk (by decide)
theorem be1_t {a : Nat} {I : Nat → Nat → Int32} {L : Nat → Nat → Int64} {r : Bool} {k : Nat} {v : Int32} (h : isBe a = true) (hk : k < 72) : tI (mk I L r) (a + 1) (i32 k) v = some (mk (up I (a + 1) k v) L r) := mk_tI (be1_K h) (be1_N h) hk (by decide)
theorem be1_n {a : Nat} {I : Nat → Nat → Int32} {L : Nat → Nat → Int64} {r : Bool} (h : isBe a = true) : nA (mk I L r) (a + 1) = some (i32 72) := mk_nA (by rw [(be1_K h)]; decide) (be1_N h)
theorem be_r2 {a : Nat} {r : Bool} (h : isBe a = true) : R0 r a 2 = (a + 2) + 1 := by rcases isBe_c h with rfl | rfl | rfl | rfl | rfl | rfl | rfl | rfl | rfl | rfl | rfl | rfl <;> cases r <;> decide +kernel
theorem be_fR2 {a : Nat} {I : Nat → Nat → Int32} {L : Nat → Nat → Int64} {r : Bool} (h : isBe a = true) : fR (mk I L r) 0 a 2 = some (a + 2) := mk_fR (be_K h) (be_r2 h)
theorem be2_K {a : Nat} (h : isBe a = true) : K0 (a + 2) = 20 := by rcases isBe_c h with rfl | rfl | rfl | rfl | rfl | rfl | rfl | rfl | rfl | rfl | rfl | rfl <;> decide +kernel
theorem be2_N {a : Nat} (h : isBe a = true) : N0 (a + 2) = 72 := by rcases isBe_c h with rfl | rfl | rfl | rfl | rfl | rfl | rfl | rfl | rfl | rfl | rfl | rfl <;> decide +kernel
theorem be2_a {a : Nat} {I : Nat → Nat → Int32} {L : Nat → Nat → Int64} {r : Bool} {k : Nat} (h : isBe a = true) (hk : k < 72) : aI (mk I L r) (a + 2) (i32 k) = some (I (a + 2) k) := mk_aI (be2_K h) (be2_N h) hk (by decide)
theorem be2_t {a : Nat} {I : Nat → Nat → Int32} {L : Nat → Nat → Int64} {r : Bool} {k : Nat} {v : Int32} (h : isBe a = true) (hk : k < 72) : tI (mk I L r) (a + 2) (i32 k) v = some (mk (up I (a + 2) k v) L r) := mk_tI (be2_K h) (be2_N h) hk (by decide)
theorem be2_n {a : Nat} {I : Nat → Nat → Int32} {L : Nat → Nat → Int64} {r : Bool} (h : isBe a = true) : nA (mk I L r) (a + 2) = some (i32 72) := mk_nA (by rw [(be2_K h)]; decide) (be2_N h)
theorem be_r3 {a : Nat} {r : Bool} (h : isBe a = true) : R0 r a 3 = (a + 3) + 1 := by rcases isBe_c h with rfl | rfl | rfl | rfl | rfl | rfl | rfl | rfl | rfl | rfl | rfl | rfl <;> cases r <;> decide +kernel
theorem be_fR3 {a : Nat} {I : Nat → Nat → Int32} {L : Nat → Nat → Int64} {r : Bool} (h : isBe a = true) : fR (mk I L r) 0 a 3 = some (a + 3) := mk_fR (be_K h) (be_r3 h)
theorem be3_K {a : Nat} (h : isBe a = true) : K0 (a + 3) = 20 := by rcases isBe_c h with rfl | rfl | rfl | rfl | rfl | rfl | rfl | rfl | rfl | rfl | rfl | rfl <;> decide +kernel
theorem be3_N {a : Nat} (h : isBe a = true) : N0 (a + 3) = 6 := by rcases isBe_c h with rfl | rfl | rfl | rfl | rfl | rfl | rfl | rfl | rfl | rfl | rfl | rfl <;> decide +kernel
theorem be3_a {a : Nat} {I : Nat → Nat → Int32} {L : Nat → Nat → Int64} {r : Bool} {k : Nat} (h : isBe a = true) (hk : k < 6) : aI (mk I L r) (a + 3) (i32 k) = some (I (a + 3) k) := mk_aI (be3_K h) (be3_N h) hk (by decide)
theorem be3_t {a : Nat} {I : Nat → Nat → Int32} {L : Nat → Nat → Int64} {r : Bool} {k : Nat} {v : Int32} (h : isBe a = true) (hk : k < 6) : tI (mk I L r) (a + 3) (i32 k) v = some (mk (up I (a + 3) k v) L r) := mk_tI (be3_K h) (be3_N h) hk (by decide)
theorem be3_n {a : Nat} {I : Nat → Nat → Int32} {L : Nat → Nat → Int64} {r : Bool} (h : isBe a = true) : nA (mk I L r) (a + 3) = some (i32 6) := mk_nA (by rw [(be3_K h)]; decide) (be3_N h)
theorem be_r4 {a : Nat} {r : Bool} (h : isBe a = true) : R0 r a 4 = (a + 4) + 1 := by rcases isBe_c h with rfl | rfl | rfl | rfl | rfl | rfl | rfl | rfl | rfl | rfl | rfl | rfl <;> cases r <;> decide +kernel
theorem be_fR4 {a : Nat} {I : Nat → Nat → Int32} {L : Nat → Nat → Int64} {r : Bool} (h : isBe a = true) : fR (mk I L r) 0 a 4 = some (a + 4) := mk_fR (be_K h) (be_r4 h)
theorem be4_K {a : Nat} (h : isBe a = true) : K0 (a + 4) = 20 := by rcases isBe_c h with rfl | rfl | rfl | rfl | rfl | rfl | rfl | rfl | rfl | rfl | rfl | rfl <;> decide +kernel
theorem be4_N {a : Nat} (h : isBe a = true) : N0 (a + 4) = 6 := by rcases isBe_c h with rfl | rfl | rfl | rfl | rfl | rfl | rfl | rfl | rfl | rfl | rfl | rfl <;> decide +kernel
theorem be4_a {a : Nat} {I : Nat → Nat → Int32} {L : Nat → Nat → Int64} {r : Bool} {k : Nat} (h : isBe a = true) (hk : k < 6) : aI (mk I L r) (a + 4) (i32 k) = some (I (a + 4) k) := mk_aI (be4_K h) (be4_N h) hk (by decide)
theorem be4_t {a : Nat} {I : Nat → Nat → Int32} {L : Nat → Nat → Int64} {r : Bool} {k : Nat} {v : Int32} (h : isBe a = true) (hk : k < 6) : tI (mk I L r) (a + 4) (i32 k) v = some (mk (up I (a + 4) k v) L r) := mk_tI (be4_K h) (be4_N h) hk (by decide)
theorem be4_n {a : Nat} {I : Nat → Nat → Int32} {L : Nat → Nat → Int64} {r : Bool} (h : isBe a = true) : nA (mk I L r) (a + 4) = some (i32 6) := mk_nA (by rw [(be4_K h)]; decide) (be4_N h)
theorem be_r5 {a : Nat} {r : Bool} (h : isBe a = true) : R0 r a 5 = (a + 5) + 1 := by rcases isBe_c h with rfl | rfl | rfl | rfl | rfl | rfl | rfl | rfl | rfl | rfl | rfl | rfl <;> cases r <;> decide +kernel
theorem be_fR5 {a : Nat} {I : Nat → Nat → Int32} {L : Nat → Nat → Int64} {r : Bool} (h : isBe a = true) : fR (mk I L r) 0 a 5 = some (a + 5) := mk_fR (be_K h) (be_r5 h)
theorem be5_K {a : Nat} (h : isBe a = true) : K0 (a + 5) = 20 := by rcases isBe_c h with rfl | rfl | rfl | rfl | rfl | rfl | rfl | rfl | rfl | rfl | rfl | rfl <;> decide +kernel
theorem be5_N {a : Nat} (h : isBe a = true) : N0 (a + 5) = 6 := by rcases isBe_c h with rfl | rfl | rfl | rfl | rfl | rfl | rfl | rfl | rfl | rfl | rfl | rfl <;> decide +kernel
theorem be5_a {a : Nat} {I : Nat → Nat → Int32} {L : Nat → Nat → Int64} {r : Bool} {k : Nat} (h : isBe a = true) (hk : k < 6) : aI (mk I L r) (a + 5) (i32 k) = some (I (a + 5) k) := mk_aI (be5_K h) (be5_N h) hk (by decide)
theorem be5_t {a : Nat} {I : Nat → Nat → Int32} {L : Nat → Nat → Int64} {r : Bool} {k : Nat} {v : Int32} (h : isBe a = true) (hk : k < 6) : tI (mk I L r) (a + 5) (i32 k) v = some (mk (up I (a + 5) k v) L r) := mk_tI (be5_K h) (be5_N h) hk (by decide)
theorem be5_n {a : Nat} {I : Nat → Nat → Int32} {L : Nat → Nat → Int64} {r : Bool} (h : isBe a = true) : nA (mk I L r) (a + 5) = some (i32 6) := mk_nA (by rw [(be5_K h)]; decide) (be5_N h)
theorem be_r6 {a : Nat} {r : Bool} (h : isBe a = true) : R0 r a 6 = (a + 6) + 1 := by rcases isBe_c h with rfl | rfl | rfl | rfl | rfl | rfl | rfl | rfl | rfl | rfl | rfl | rfl <;> cases r <;> decide +kernel
theorem be_fR6 {a : Nat} {I : Nat → Nat → Int32} {L : Nat → Nat → Int64} {r : Bool} (h : isBe a = true) : fR (mk I L r) 0 a 6 = some (a + 6) := mk_fR (be_K h) (be_r6 h)
theorem be6_K {a : Nat} (h : isBe a = true) : K0 (a + 6) = 20 := by rcases isBe_c h with rfl | rfl | rfl | rfl | rfl | rfl | rfl | rfl | rfl | rfl | rfl | rfl <;> decide +kernel
theorem be6_N {a : Nat} (h : isBe a = true) : N0 (a + 6) = 4 := by rcases isBe_c h with rfl | rfl | rfl | rfl | rfl | rfl | rfl | rfl | rfl | rfl | rfl | rfl <;> decide +kernel
theorem be6_a {a : Nat} {I : Nat → Nat → Int32} {L : Nat → Nat → Int64} {r : Bool} {k : Nat} (h : isBe a = true) (hk : k < 4) : aI (mk I L r) (a + 6) (i32 k) = some (I (a + 6) k) := mk_aI (be6_K h) (be6_N h) hk (by decide)
theorem be6_t {a : Nat} {I : Nat → Nat → Int32} {L : Nat → Nat → Int64} {r : Bool} {k : Nat} {v : Int32} (h : isBe a = true) (hk : k < 4) : tI (mk I L r) (a + 6) (i32 k) v = some (mk (up I (a + 6) k v) L r) := mk_tI (be6_K h) (be6_N h) hk (by decide)
theorem be6_n {a : Nat} {I : Nat → Nat → Int32} {L : Nat → Nat → Int64} {r : Bool} (h : isBe a = true) : nA (mk I L r) (a + 6) = some (i32 4) := mk_nA (by rw [(be6_K h)]; decide) (be6_N h)
theorem be_r7 {a : Nat} {r : Bool} (h : isBe a = true) : R0 r a 7 = (a + 7) + 1 := by rcases isBe_c h with rfl | rfl | rfl | rfl | rfl | rfl | rfl | rfl | rfl | rfl | rfl | rfl <;> cases r <;> decide +kernel
theorem be_fR7 {a : Nat} {I : Nat → Nat → Int32} {L : Nat → Nat → Int64} {r : Bool} (h : isBe a = true) : fR (mk I L r) 0 a 7 = some (a + 7) := mk_fR (be_K h) (be_r7 h)
theorem be7_K {a : Nat} (h : isBe a = true) : K0 (a + 7) = 20 := by rcases isBe_c h with rfl | rfl | rfl | rfl | rfl | rfl | rfl | rfl | rfl | rfl | rfl | rfl <;> decide +kernel
theorem be7_N {a : Nat} (h : isBe a = true) : N0 (a + 7) = 12 := by rcases isBe_c h with rfl | rfl | rfl | rfl | rfl | rfl | rfl | rfl | rfl | rfl | rfl | rfl <;> decide +kernel
theorem be7_a {a : Nat} {I : Nat → Nat → Int32} {L : Nat → Nat → Int64} {r : Bool} {k : Nat} (h : isBe a = true) (hk : k < 12) : aI (mk I L r) (a + 7) (i32 k) = some (I (a + 7) k) := mk_aI (be7_K h) (be7_N h) hk (by decide)
theorem be7_t {a : Nat} {I : Nat → Nat → Int32} {L : Nat → Nat → Int64} {r : Bool} {k : Nat} {v : Int32} (h : isBe a = true) (hk : k < 12) : tI (mk I L r) (a + 7) (i32 k) v = some (mk (up I (a + 7) k v) L r) := mk_tI (be7_K h) (be7_N h) hk (by decide)
theorem be7_n {a : Nat} {I : Nat → Nat → Int32} {L : Nat → Nat → Int64} {r : Bool} (h : isBe a = true) : nA (mk I L r) (a + 7) = some (i32 12) := mk_nA (by rw [(be7_K h)]; decide) (be7_N h)
def isSh (a : Nat) : Bool := a == 4 || a == 15 || a == 138 || a == 162
theorem isSh_c {a : Nat} (h : isSh a = true) : a = 4 ∨ a = 15 ∨ a = 138 ∨ a = 162 := by
  simp only [isSh, Bool.or_eq_true, beq_iff_eq] at h; omega
theorem sh_K {a : Nat} (h : isSh a = true) : K0 a = 9 := by rcases isSh_c h with rfl | rfl | rfl | rfl <;> decide +kernel
theorem sh_k {a : Nat} {I : Nat → Nat → Int32} {L : Nat → Nat → Int64} {r : Bool} (h : isSh a = true) : mK (mk I L r) a = 9 := (sh_K h)
theorem sh_fI {a : Nat} {I : Nat → Nat → Int32} {L : Nat → Nat → Int64} {r : Bool} {k : Nat} (h : isSh a = true) : fI (mk I L r) 8 a k = some (I a k) := mk_fI (sh_K h)
theorem sh_fL {a : Nat} {I : Nat → Nat → Int32} {L : Nat → Nat → Int64} {r : Bool} {k : Nat} (h : isSh a = true) : fL (mk I L r) 8 a k = some (L a k) := mk_fL (sh_K h)
theorem sh_pI {a : Nat} {I : Nat → Nat → Int32} {L : Nat → Nat → Int64} {r : Bool} {k : Nat} {v : Int32} (h : isSh a = true) : pI (mk I L r) 8 a k v = some (mk (up I a k v) L r) := mk_pI (sh_K h)
theorem sh_pL {a : Nat} {I : Nat → Nat → Int32} {L : Nat → Nat → Int64} {r : Bool} {k : Nat} {w : Int64} (h : isSh a = true) : pL (mk I L r) 8 a k w = some (mk I (upL L a k w) r) := mk_pL (sh_K h)
theorem sh_z0 {a : Nat} {I : Nat → Nat → Int32} {L : Nat → Nat → Int64} {r : Bool} {k : Nat} (h : isSh a = true) : pZ (mk I L r) 8 a k (i32 0) = some (mk (up I a k (i32 0)) L r) := mk_pZ0 (sh_K h)
theorem sh_z1 {a : Nat} {I : Nat → Nat → Int32} {L : Nat → Nat → Int64} {r : Bool} {k : Nat} (h : isSh a = true) : pZ (mk I L r) 8 a k (i32 1) = some (mk (up I a k (i32 1)) L r) := mk_pZ1 (sh_K h)
theorem sh_r1 {a : Nat} {r : Bool} (h : isSh a = true) : R0 r a 1 = (a + 1) + 1 := by rcases isSh_c h with rfl | rfl | rfl | rfl <;> cases r <;> decide +kernel
theorem sh_fR1 {a : Nat} {I : Nat → Nat → Int32} {L : Nat → Nat → Int64} {r : Bool} (h : isSh a = true) : fR (mk I L r) 8 a 1 = some (a + 1) := mk_fR (sh_K h) (sh_r1 h)
theorem sh1_K {a : Nat} (h : isSh a = true) : K0 (a + 1) = 21 := by rcases isSh_c h with rfl | rfl | rfl | rfl <;> decide +kernel
theorem sh1_N {a : Nat} (h : isSh a = true) : N0 (a + 1) = 6 := by rcases isSh_c h with rfl | rfl | rfl | rfl <;> decide +kernel
theorem sh1_a {a : Nat} {I : Nat → Nat → Int32} {L : Nat → Nat → Int64} {r : Bool} {k : Nat} (h : isSh a = true) (hk : k < 6) : aL (mk I L r) (a + 1) (i32 k) = some (L (a + 1) k) := mk_aL (sh1_K h) (sh1_N h) hk (by decide)
theorem sh1_t {a : Nat} {I : Nat → Nat → Int32} {L : Nat → Nat → Int64} {r : Bool} {k : Nat} {w : Int64} (h : isSh a = true) (hk : k < 6) : tL (mk I L r) (a + 1) (i32 k) w = some (mk I (upL L (a + 1) k w) r) := mk_tL (sh1_K h) (sh1_N h) hk (by decide)
theorem sh1_n {a : Nat} {I : Nat → Nat → Int32} {L : Nat → Nat → Int64} {r : Bool} (h : isSh a = true) : nA (mk I L r) (a + 1) = some (i32 6) := mk_nA (by rw [(sh1_K h)]; decide) (sh1_N h)
theorem sh_r2 {a : Nat} {r : Bool} (h : isSh a = true) : R0 r a 2 = (a + 2) + 1 := by rcases isSh_c h with rfl | rfl | rfl | rfl <;> cases r <;> decide +kernel
theorem sh_fR2 {a : Nat} {I : Nat → Nat → Int32} {L : Nat → Nat → Int64} {r : Bool} (h : isSh a = true) : fR (mk I L r) 8 a 2 = some (a + 2) := mk_fR (sh_K h) (sh_r2 h)
theorem sh2_K {a : Nat} (h : isSh a = true) : K0 (a + 2) = 20 := by rcases isSh_c h with rfl | rfl | rfl | rfl <;> decide +kernel
theorem sh2_N {a : Nat} (h : isSh a = true) : N0 (a + 2) = 6 := by rcases isSh_c h with rfl | rfl | rfl | rfl <;> decide +kernel
theorem sh2_a {a : Nat} {I : Nat → Nat → Int32} {L : Nat → Nat → Int64} {r : Bool} {k : Nat} (h : isSh a = true) (hk : k < 6) : aI (mk I L r) (a + 2) (i32 k) = some (I (a + 2) k) := mk_aI (sh2_K h) (sh2_N h) hk (by decide)
theorem sh2_t {a : Nat} {I : Nat → Nat → Int32} {L : Nat → Nat → Int64} {r : Bool} {k : Nat} {v : Int32} (h : isSh a = true) (hk : k < 6) : tI (mk I L r) (a + 2) (i32 k) v = some (mk (up I (a + 2) k v) L r) := mk_tI (sh2_K h) (sh2_N h) hk (by decide)
theorem sh2_n {a : Nat} {I : Nat → Nat → Int32} {L : Nat → Nat → Int64} {r : Bool} (h : isSh a = true) : nA (mk I L r) (a + 2) = some (i32 6) := mk_nA (by rw [(sh2_K h)]; decide) (sh2_N h)
theorem sh_r3 {a : Nat} {r : Bool} (h : isSh a = true) : R0 r a 3 = (a + 3) + 1 := by rcases isSh_c h with rfl | rfl | rfl | rfl <;> cases r <;> decide +kernel
theorem sh_fR3 {a : Nat} {I : Nat → Nat → Int32} {L : Nat → Nat → Int64} {r : Bool} (h : isSh a = true) : fR (mk I L r) 8 a 3 = some (a + 3) := mk_fR (sh_K h) (sh_r3 h)
theorem sh3_K {a : Nat} (h : isSh a = true) : K0 (a + 3) = 20 := by rcases isSh_c h with rfl | rfl | rfl | rfl <;> decide +kernel
theorem sh3_N {a : Nat} (h : isSh a = true) : N0 (a + 3) = 6 := by rcases isSh_c h with rfl | rfl | rfl | rfl <;> decide +kernel
theorem sh3_a {a : Nat} {I : Nat → Nat → Int32} {L : Nat → Nat → Int64} {r : Bool} {k : Nat} (h : isSh a = true) (hk : k < 6) : aI (mk I L r) (a + 3) (i32 k) = some (I (a + 3) k) := mk_aI (sh3_K h) (sh3_N h) hk (by decide)
theorem sh3_t {a : Nat} {I : Nat → Nat → Int32} {L : Nat → Nat → Int64} {r : Bool} {k : Nat} {v : Int32} (h : isSh a = true) (hk : k < 6) : tI (mk I L r) (a + 3) (i32 k) v = some (mk (up I (a + 3) k v) L r) := mk_tI (sh3_K h) (sh3_N h) hk (by decide)
theorem sh3_n {a : Nat} {I : Nat → Nat → Int32} {L : Nat → Nat → Int64} {r : Bool} (h : isSh a = true) : nA (mk I L r) (a + 3) = some (i32 6) := mk_nA (by rw [(sh3_K h)]; decide) (sh3_N h)
theorem sh_r5 {a : Nat} {r : Bool} (h : isSh a = true) : R0 r a 5 = (a + 4) + 1 := by rcases isSh_c h with rfl | rfl | rfl | rfl <;> cases r <;> decide +kernel
theorem sh_fR5 {a : Nat} {I : Nat → Nat → Int32} {L : Nat → Nat → Int64} {r : Bool} (h : isSh a = true) : fR (mk I L r) 8 a 5 = some (a + 4) := mk_fR (sh_K h) (sh_r5 h)
theorem sh5_K {a : Nat} (h : isSh a = true) : K0 (a + 4) = 20 := by rcases isSh_c h with rfl | rfl | rfl | rfl <;> decide +kernel
theorem sh5_N {a : Nat} (h : isSh a = true) : N0 (a + 4) = 8 := by rcases isSh_c h with rfl | rfl | rfl | rfl <;> decide +kernel
theorem sh5_a {a : Nat} {I : Nat → Nat → Int32} {L : Nat → Nat → Int64} {r : Bool} {k : Nat} (h : isSh a = true) (hk : k < 8) : aI (mk I L r) (a + 4) (i32 k) = some (I (a + 4) k) := mk_aI (sh5_K h) (sh5_N h) hk (by decide)
theorem sh5_t {a : Nat} {I : Nat → Nat → Int32} {L : Nat → Nat → Int64} {r : Bool} {k : Nat} {v : Int32} (h : isSh a = true) (hk : k < 8) : tI (mk I L r) (a + 4) (i32 k) v = some (mk (up I (a + 4) k v) L r) := mk_tI (sh5_K h) (sh5_N h) hk (by decide)
theorem sh5_n {a : Nat} {I : Nat → Nat → Int32} {L : Nat → Nat → Int64} {r : Bool} (h : isSh a = true) : nA (mk I L r) (a + 4) = some (i32 8) := mk_nA (by rw [(sh5_K h)]; decide) (sh5_N h)
theorem sh_r7 {a : Nat} {r : Bool} (h : isSh a = true) : R0 r a 7 = (a + 5) + 1 := by rcases isSh_c h with rfl | rfl | rfl | rfl <;> cases r <;> decide +kernel
theorem sh_fR7 {a : Nat} {I : Nat → Nat → Int32} {L : Nat → Nat → Int64} {r : Bool} (h : isSh a = true) : fR (mk I L r) 8 a 7 = some (a + 5) := mk_fR (sh_K h) (sh_r7 h)
theorem sh7_K {a : Nat} (h : isSh a = true) : K0 (a + 5) = 21 := by rcases isSh_c h with rfl | rfl | rfl | rfl <;> decide +kernel
theorem sh7_N {a : Nat} (h : isSh a = true) : N0 (a + 5) = 4 := by rcases isSh_c h with rfl | rfl | rfl | rfl <;> decide +kernel
theorem sh7_a {a : Nat} {I : Nat → Nat → Int32} {L : Nat → Nat → Int64} {r : Bool} {k : Nat} (h : isSh a = true) (hk : k < 4) : aL (mk I L r) (a + 5) (i32 k) = some (L (a + 5) k) := mk_aL (sh7_K h) (sh7_N h) hk (by decide)
theorem sh7_t {a : Nat} {I : Nat → Nat → Int32} {L : Nat → Nat → Int64} {r : Bool} {k : Nat} {w : Int64} (h : isSh a = true) (hk : k < 4) : tL (mk I L r) (a + 5) (i32 k) w = some (mk I (upL L (a + 5) k w) r) := mk_tL (sh7_K h) (sh7_N h) hk (by decide)
theorem sh7_n {a : Nat} {I : Nat → Nat → Int32} {L : Nat → Nat → Int64} {r : Bool} (h : isSh a = true) : nA (mk I L r) (a + 5) = some (i32 4) := mk_nA (by rw [(sh7_K h)]; decide) (sh7_N h)
theorem sh_r8 {a : Nat} {r : Bool} (h : isSh a = true) : R0 r a 8 = (a + 6) + 1 := by rcases isSh_c h with rfl | rfl | rfl | rfl <;> cases r <;> decide +kernel
theorem sh_fR8 {a : Nat} {I : Nat → Nat → Int32} {L : Nat → Nat → Int64} {r : Bool} (h : isSh a = true) : fR (mk I L r) 8 a 8 = some (a + 6) := mk_fR (sh_K h) (sh_r8 h)
theorem sh8_K {a : Nat} (h : isSh a = true) : K0 (a + 6) = 20 := by rcases isSh_c h with rfl | rfl | rfl | rfl <;> decide +kernel
theorem sh8_N {a : Nat} (h : isSh a = true) : N0 (a + 6) = 4 := by rcases isSh_c h with rfl | rfl | rfl | rfl <;> decide +kernel
theorem sh8_a {a : Nat} {I : Nat → Nat → Int32} {L : Nat → Nat → Int64} {r : Bool} {k : Nat} (h : isSh a = true) (hk : k < 4) : aI (mk I L r) (a + 6) (i32 k) = some (I (a + 6) k) := mk_aI (sh8_K h) (sh8_N h) hk (by decide)
theorem sh8_t {a : Nat} {I : Nat → Nat → Int32} {L : Nat → Nat → Int64} {r : Bool} {k : Nat} {v : Int32} (h : isSh a = true) (hk : k < 4) : tI (mk I L r) (a + 6) (i32 k) v = some (mk (up I (a + 6) k v) L r) := mk_tI (sh8_K h) (sh8_N h) hk (by decide)
theorem sh8_n {a : Nat} {I : Nat → Nat → Int32} {L : Nat → Nat → Int64} {r : Bool} (h : isSh a = true) : nA (mk I L r) (a + 6) = some (i32 4) := mk_nA (by rw [(sh8_K h)]; decide) (sh8_N h)
theorem sh_r10 {a : Nat} {r : Bool} (h : isSh a = true) : R0 r a 10 = (a + 7) + 1 := by rcases isSh_c h with rfl | rfl | rfl | rfl <;> cases r <;> decide +kernel
theorem sh_fR10 {a : Nat} {I : Nat → Nat → Int32} {L : Nat → Nat → Int64} {r : Bool} (h : isSh a = true) : fR (mk I L r) 8 a 10 = some (a + 7) := mk_fR (sh_K h) (sh_r10 h)
theorem sh10_K {a : Nat} (h : isSh a = true) : K0 (a + 7) = 21 := by rcases isSh_c h with rfl | rfl | rfl | rfl <;> decide +kernel
theorem sh10_N {a : Nat} (h : isSh a = true) : N0 (a + 7) = 6 := by rcases isSh_c h with rfl | rfl | rfl | rfl <;> decide +kernel
theorem sh10_a {a : Nat} {I : Nat → Nat → Int32} {L : Nat → Nat → Int64} {r : Bool} {k : Nat} (h : isSh a = true) (hk : k < 6) : aL (mk I L r) (a + 7) (i32 k) = some (L (a + 7) k) := mk_aL (sh10_K h) (sh10_N h) hk (by decide)
theorem sh10_t {a : Nat} {I : Nat → Nat → Int32} {L : Nat → Nat → Int64} {r : Bool} {k : Nat} {w : Int64} (h : isSh a = true) (hk : k < 6) : tL (mk I L r) (a + 7) (i32 k) w = some (mk I (upL L (a + 7) k w) r) := mk_tL (sh10_K h) (sh10_N h) hk (by decide)
theorem sh10_n {a : Nat} {I : Nat → Nat → Int32} {L : Nat → Nat → Int64} {r : Bool} (h : isSh a = true) : nA (mk I L r) (a + 7) = some (i32 6) := mk_nA (by rw [(sh10_K h)]; decide) (sh10_N h)
theorem sh_r11 {a : Nat} {r : Bool} (h : isSh a = true) : R0 r a 11 = (a + 8) + 1 := by rcases isSh_c h with rfl | rfl | rfl | rfl <;> cases r <;> decide +kernel
theorem sh_fR11 {a : Nat} {I : Nat → Nat → Int32} {L : Nat → Nat → Int64} {r : Bool} (h : isSh a = true) : fR (mk I L r) 8 a 11 = some (a + 8) := mk_fR (sh_K h) (sh_r11 h)
theorem sh11_K {a : Nat} (h : isSh a = true) : K0 (a + 8) = 20 := by rcases isSh_c h with rfl | rfl | rfl | rfl <;> decide +kernel
theorem sh11_N {a : Nat} (h : isSh a = true) : N0 (a + 8) = 6 := by rcases isSh_c h with rfl | rfl | rfl | rfl <;> decide +kernel
theorem sh11_a {a : Nat} {I : Nat → Nat → Int32} {L : Nat → Nat → Int64} {r : Bool} {k : Nat} (h : isSh a = true) (hk : k < 6) : aI (mk I L r) (a + 8) (i32 k) = some (I (a + 8) k) := mk_aI (sh11_K h) (sh11_N h) hk (by decide)
theorem sh11_t {a : Nat} {I : Nat → Nat → Int32} {L : Nat → Nat → Int64} {r : Bool} {k : Nat} {v : Int32} (h : isSh a = true) (hk : k < 6) : tI (mk I L r) (a + 8) (i32 k) v = some (mk (up I (a + 8) k v) L r) := mk_tI (sh11_K h) (sh11_N h) hk (by decide)
theorem sh11_n {a : Nat} {I : Nat → Nat → Int32} {L : Nat → Nat → Int64} {r : Bool} (h : isSh a = true) : nA (mk I L r) (a + 8) = some (i32 6) := mk_nA (by rw [(sh11_K h)]; decide) (sh11_N h)
theorem sh_r12 {a : Nat} {r : Bool} (h : isSh a = true) : R0 r a 12 = (a + 9) + 1 := by rcases isSh_c h with rfl | rfl | rfl | rfl <;> cases r <;> decide +kernel
theorem sh_fR12 {a : Nat} {I : Nat → Nat → Int32} {L : Nat → Nat → Int64} {r : Bool} (h : isSh a = true) : fR (mk I L r) 8 a 12 = some (a + 9) := mk_fR (sh_K h) (sh_r12 h)
theorem sh12_K {a : Nat} (h : isSh a = true) : K0 (a + 9) = 20 := by rcases isSh_c h with rfl | rfl | rfl | rfl <;> decide +kernel
theorem sh12_N {a : Nat} (h : isSh a = true) : N0 (a + 9) = 6 := by rcases isSh_c h with rfl | rfl | rfl | rfl <;> decide +kernel
theorem sh12_a {a : Nat} {I : Nat → Nat → Int32} {L : Nat → Nat → Int64} {r : Bool} {k : Nat} (h : isSh a = true) (hk : k < 6) : aI (mk I L r) (a + 9) (i32 k) = some (I (a + 9) k) := mk_aI (sh12_K h) (sh12_N h) hk (by decide)
theorem sh12_t {a : Nat} {I : Nat → Nat → Int32} {L : Nat → Nat → Int64} {r : Bool} {k : Nat} {v : Int32} (h : isSh a = true) (hk : k < 6) : tI (mk I L r) (a + 9) (i32 k) v = some (mk (up I (a + 9) k v) L r) := mk_tI (sh12_K h) (sh12_N h) hk (by decide)
theorem sh12_n {a : Nat} {I : Nat → Nat → Int32} {L : Nat → Nat → Int64} {r : Bool} (h : isSh a = true) : nA (mk I L r) (a + 9) = some (i32 6) := mk_nA (by rw [(sh12_K h)]; decide) (sh12_N h)
theorem sh_r13 {a : Nat} {r : Bool} (h : isSh a = true) : R0 r a 13 = (a + 10) + 1 := by rcases isSh_c h with rfl | rfl | rfl | rfl <;> cases r <;> decide +kernel
theorem sh_fR13 {a : Nat} {I : Nat → Nat → Int32} {L : Nat → Nat → Int64} {r : Bool} (h : isSh a = true) : fR (mk I L r) 8 a 13 = some (a + 10) := mk_fR (sh_K h) (sh_r13 h)
theorem sh13_K {a : Nat} (h : isSh a = true) : K0 (a + 10) = 20 := by rcases isSh_c h with rfl | rfl | rfl | rfl <;> decide +kernel
theorem sh13_N {a : Nat} (h : isSh a = true) : N0 (a + 10) = 18 := by rcases isSh_c h with rfl | rfl | rfl | rfl <;> decide +kernel
theorem sh13_a {a : Nat} {I : Nat → Nat → Int32} {L : Nat → Nat → Int64} {r : Bool} {k : Nat} (h : isSh a = true) (hk : k < 18) : aI (mk I L r) (a + 10) (i32 k) = some (I (a + 10) k) := mk_aI (sh13_K h) (sh13_N h) hk (by decide)
theorem sh13_t {a : Nat} {I : Nat → Nat → Int32} {L : Nat → Nat → Int64} {r : Bool} {k : Nat} {v : Int32} (h : isSh a = true) (hk : k < 18) : tI (mk I L r) (a + 10) (i32 k) v = some (mk (up I (a + 10) k v) L r) := mk_tI (sh13_K h) (sh13_N h) hk (by decide)
theorem sh13_n {a : Nat} {I : Nat → Nat → Int32} {L : Nat → Nat → Int64} {r : Bool} (h : isSh a = true) : nA (mk I L r) (a + 10) = some (i32 18) := mk_nA (by rw [(sh13_K h)]; decide) (sh13_N h)
def isSe (a : Nat) : Bool := a == 114 || a == 119 || a == 157 || a == 181
theorem isSe_c {a : Nat} (h : isSe a = true) : a = 114 ∨ a = 119 ∨ a = 157 ∨ a = 181 := by
  simp only [isSe, Bool.or_eq_true, beq_iff_eq] at h; omega
theorem se_K {a : Nat} (h : isSe a = true) : K0 a = 8 := by rcases isSe_c h with rfl | rfl | rfl | rfl <;> decide +kernel
theorem se_k {a : Nat} {I : Nat → Nat → Int32} {L : Nat → Nat → Int64} {r : Bool} (h : isSe a = true) : mK (mk I L r) a = 8 := (se_K h)
theorem se_fI {a : Nat} {I : Nat → Nat → Int32} {L : Nat → Nat → Int64} {r : Bool} {k : Nat} (h : isSe a = true) : fI (mk I L r) 7 a k = some (I a k) := mk_fI (se_K h)
theorem se_fL {a : Nat} {I : Nat → Nat → Int32} {L : Nat → Nat → Int64} {r : Bool} {k : Nat} (h : isSe a = true) : fL (mk I L r) 7 a k = some (L a k) := mk_fL (se_K h)
theorem se_pI {a : Nat} {I : Nat → Nat → Int32} {L : Nat → Nat → Int64} {r : Bool} {k : Nat} {v : Int32} (h : isSe a = true) : pI (mk I L r) 7 a k v = some (mk (up I a k v) L r) := mk_pI (se_K h)
theorem se_pL {a : Nat} {I : Nat → Nat → Int32} {L : Nat → Nat → Int64} {r : Bool} {k : Nat} {w : Int64} (h : isSe a = true) : pL (mk I L r) 7 a k w = some (mk I (upL L a k w) r) := mk_pL (se_K h)
theorem se_z0 {a : Nat} {I : Nat → Nat → Int32} {L : Nat → Nat → Int64} {r : Bool} {k : Nat} (h : isSe a = true) : pZ (mk I L r) 7 a k (i32 0) = some (mk (up I a k (i32 0)) L r) := mk_pZ0 (se_K h)
theorem se_z1 {a : Nat} {I : Nat → Nat → Int32} {L : Nat → Nat → Int64} {r : Bool} {k : Nat} (h : isSe a = true) : pZ (mk I L r) 7 a k (i32 1) = some (mk (up I a k (i32 1)) L r) := mk_pZ1 (se_K h)
theorem se_r0 {a : Nat} {r : Bool} (h : isSe a = true) : R0 r a 0 = 4 + 1 := by rcases isSe_c h with rfl | rfl | rfl | rfl <;> cases r <;> decide +kernel
theorem se_fR0 {a : Nat} {I : Nat → Nat → Int32} {L : Nat → Nat → Int64} {r : Bool} (h : isSe a = true) : fR (mk I L r) 7 a 0 = some 4 := mk_fR (se_K h) (se_r0 h)
theorem se_r1 {a : Nat} {r : Bool} (h : isSe a = true) : R0 r a 1 = (a + 1) + 1 := by rcases isSe_c h with rfl | rfl | rfl | rfl <;> cases r <;> decide +kernel
theorem se_fR1 {a : Nat} {I : Nat → Nat → Int32} {L : Nat → Nat → Int64} {r : Bool} (h : isSe a = true) : fR (mk I L r) 7 a 1 = some (a + 1) := mk_fR (se_K h) (se_r1 h)
theorem se1_K {a : Nat} (h : isSe a = true) : K0 (a + 1) = 20 := by rcases isSe_c h with rfl | rfl | rfl | rfl <;> decide +kernel
theorem se1_N {a : Nat} (h : isSe a = true) : N0 (a + 1) = 40 := by rcases isSe_c h with rfl | rfl | rfl | rfl <;> decide +kernel
theorem se1_a {a : Nat} {I : Nat → Nat → Int32} {L : Nat → Nat → Int64} {r : Bool} {k : Nat} (h : isSe a = true) (hk : k < 40) : aI (mk I L r) (a + 1) (i32 k) = some (I (a + 1) k) := mk_aI (se1_K h) (se1_N h) hk (by decide)
theorem se1_t {a : Nat} {I : Nat → Nat → Int32} {L : Nat → Nat → Int64} {r : Bool} {k : Nat} {v : Int32} (h : isSe a = true) (hk : k < 40) : tI (mk I L r) (a + 1) (i32 k) v = some (mk (up I (a + 1) k v) L r) := mk_tI (se1_K h) (se1_N h) hk (by decide)
theorem se1_n {a : Nat} {I : Nat → Nat → Int32} {L : Nat → Nat → Int64} {r : Bool} (h : isSe a = true) : nA (mk I L r) (a + 1) = some (i32 40) := mk_nA (by rw [(se1_K h)]; decide) (se1_N h)
theorem se_r2 {a : Nat} {r : Bool} (h : isSe a = true) : R0 r a 2 = (a + 2) + 1 := by rcases isSe_c h with rfl | rfl | rfl | rfl <;> cases r <;> decide +kernel
theorem se_fR2 {a : Nat} {I : Nat → Nat → Int32} {L : Nat → Nat → Int64} {r : Bool} (h : isSe a = true) : fR (mk I L r) 7 a 2 = some (a + 2) := mk_fR (se_K h) (se_r2 h)
theorem se2_K {a : Nat} (h : isSe a = true) : K0 (a + 2) = 20 := by rcases isSe_c h with rfl | rfl | rfl | rfl <;> decide +kernel
theorem se2_N {a : Nat} (h : isSe a = true) : N0 (a + 2) = 40 := by rcases isSe_c h with rfl | rfl | rfl | rfl <;> decide +kernel
theorem se2_a {a : Nat} {I : Nat → Nat → Int32} {L : Nat → Nat → Int64} {r : Bool} {k : Nat} (h : isSe a = true) (hk : k < 40) : aI (mk I L r) (a + 2) (i32 k) = some (I (a + 2) k) := mk_aI (se2_K h) (se2_N h) hk (by decide)
theorem se2_t {a : Nat} {I : Nat → Nat → Int32} {L : Nat → Nat → Int64} {r : Bool} {k : Nat} {v : Int32} (h : isSe a = true) (hk : k < 40) : tI (mk I L r) (a + 2) (i32 k) v = some (mk (up I (a + 2) k v) L r) := mk_tI (se2_K h) (se2_N h) hk (by decide)
theorem se2_n {a : Nat} {I : Nat → Nat → Int32} {L : Nat → Nat → Int64} {r : Bool} (h : isSe a = true) : nA (mk I L r) (a + 2) = some (i32 40) := mk_nA (by rw [(se2_K h)]; decide) (se2_N h)
theorem se_r3 {a : Nat} {r : Bool} (h : isSe a = true) : R0 r a 3 = (a + 3) + 1 := by rcases isSe_c h with rfl | rfl | rfl | rfl <;> cases r <;> decide +kernel
theorem se_fR3 {a : Nat} {I : Nat → Nat → Int32} {L : Nat → Nat → Int64} {r : Bool} (h : isSe a = true) : fR (mk I L r) 7 a 3 = some (a + 3) := mk_fR (se_K h) (se_r3 h)
theorem se3_K {a : Nat} (h : isSe a = true) : K0 (a + 3) = 20 := by rcases isSe_c h with rfl | rfl | rfl | rfl <;> decide +kernel
theorem se3_N {a : Nat} (h : isSe a = true) : N0 (a + 3) = 40 := by rcases isSe_c h with rfl | rfl | rfl | rfl <;> decide +kernel
theorem se3_a {a : Nat} {I : Nat → Nat → Int32} {L : Nat → Nat → Int64} {r : Bool} {k : Nat} (h : isSe a = true) (hk : k < 40) : aI (mk I L r) (a + 3) (i32 k) = some (I (a + 3) k) := mk_aI (se3_K h) (se3_N h) hk (by decide)
theorem se3_t {a : Nat} {I : Nat → Nat → Int32} {L : Nat → Nat → Int64} {r : Bool} {k : Nat} {v : Int32} (h : isSe a = true) (hk : k < 40) : tI (mk I L r) (a + 3) (i32 k) v = some (mk (up I (a + 3) k v) L r) := mk_tI (se3_K h) (se3_N h) hk (by decide)
theorem se3_n {a : Nat} {I : Nat → Nat → Int32} {L : Nat → Nat → Int64} {r : Bool} (h : isSe a = true) : nA (mk I L r) (a + 3) = some (i32 40) := mk_nA (by rw [(se3_K h)]; decide) (se3_N h)
theorem se_r4 {a : Nat} {r : Bool} (h : isSe a = true) : R0 r a 4 = (a + 4) + 1 := by rcases isSe_c h with rfl | rfl | rfl | rfl <;> cases r <;> decide +kernel
theorem se_fR4 {a : Nat} {I : Nat → Nat → Int32} {L : Nat → Nat → Int64} {r : Bool} (h : isSe a = true) : fR (mk I L r) 7 a 4 = some (a + 4) := mk_fR (se_K h) (se_r4 h)
theorem se4_K {a : Nat} (h : isSe a = true) : K0 (a + 4) = 20 := by rcases isSe_c h with rfl | rfl | rfl | rfl <;> decide +kernel
theorem se4_N {a : Nat} (h : isSe a = true) : N0 (a + 4) = 40 := by rcases isSe_c h with rfl | rfl | rfl | rfl <;> decide +kernel
theorem se4_a {a : Nat} {I : Nat → Nat → Int32} {L : Nat → Nat → Int64} {r : Bool} {k : Nat} (h : isSe a = true) (hk : k < 40) : aI (mk I L r) (a + 4) (i32 k) = some (I (a + 4) k) := mk_aI (se4_K h) (se4_N h) hk (by decide)
theorem se4_t {a : Nat} {I : Nat → Nat → Int32} {L : Nat → Nat → Int64} {r : Bool} {k : Nat} {v : Int32} (h : isSe a = true) (hk : k < 40) : tI (mk I L r) (a + 4) (i32 k) v = some (mk (up I (a + 4) k v) L r) := mk_tI (se4_K h) (se4_N h) hk (by decide)
theorem se4_n {a : Nat} {I : Nat → Nat → Int32} {L : Nat → Nat → Int64} {r : Bool} (h : isSe a = true) : nA (mk I L r) (a + 4) = some (i32 40) := mk_nA (by rw [(se4_K h)]; decide) (se4_N h)
theorem s4_K : K0 4 = 9 := by decide +kernel
theorem s4_k {I : Nat → Nat → Int32} {L : Nat → Nat → Int64} {r : Bool} : mK (mk I L r) 4 = 9 := s4_K
theorem s4_fI {I : Nat → Nat → Int32} {L : Nat → Nat → Int64} {r : Bool} {k : Nat} : fI (mk I L r) 8 4 k = some (I 4 k) := mk_fI s4_K
theorem s4_fL {I : Nat → Nat → Int32} {L : Nat → Nat → Int64} {r : Bool} {k : Nat} : fL (mk I L r) 8 4 k = some (L 4 k) := mk_fL s4_K
theorem s4_pI {I : Nat → Nat → Int32} {L : Nat → Nat → Int64} {r : Bool} {k : Nat} {v : Int32} : pI (mk I L r) 8 4 k v = some (mk (up I 4 k v) L r) := mk_pI s4_K
theorem s4_pL {I : Nat → Nat → Int32} {L : Nat → Nat → Int64} {r : Bool} {k : Nat} {w : Int64} : pL (mk I L r) 8 4 k w = some (mk I (upL L 4 k w) r) := mk_pL s4_K
theorem s4_z0 {I : Nat → Nat → Int32} {L : Nat → Nat → Int64} {r : Bool} {k : Nat} : pZ (mk I L r) 8 4 k (i32 0) = some (mk (up I 4 k (i32 0)) L r) := mk_pZ0 s4_K
theorem s4_z1 {I : Nat → Nat → Int32} {L : Nat → Nat → Int64} {r : Bool} {k : Nat} : pZ (mk I L r) 8 4 k (i32 1) = some (mk (up I 4 k (i32 1)) L r) := mk_pZ1 s4_K
theorem s4_r1 {r : Bool} : R0 r 4 1 = 5 + 1 := by cases r <;> decide +kernel
theorem s4_fR1 {I : Nat → Nat → Int32} {L : Nat → Nat → Int64} {r : Bool} : fR (mk I L r) 8 4 1 = some 5 := mk_fR s4_K s4_r1
theorem s41_K : K0 5 = 21 := by decide +kernel
theorem s41_N : N0 5 = 6 := by decide +kernel
theorem s41_a {I : Nat → Nat → Int32} {L : Nat → Nat → Int64} {r : Bool} {k : Nat} (hk : k < 6) : aL (mk I L r) 5 (i32 k) = some (L 5 k) := mk_aL s41_K s41_N hk (by decide)
theorem s41_t {I : Nat → Nat → Int32} {L : Nat → Nat → Int64} {r : Bool} {k : Nat} {w : Int64} (hk : k < 6) : tL (mk I L r) 5 (i32 k) w = some (mk I (upL L 5 k w) r) := mk_tL s41_K s41_N hk (by decide)
theorem s41_n {I : Nat → Nat → Int32} {L : Nat → Nat → Int64} {r : Bool} : nA (mk I L r) 5 = some (i32 6) := mk_nA (by rw [s41_K]; decide) s41_N
theorem s4_r2 {r : Bool} : R0 r 4 2 = 6 + 1 := by cases r <;> decide +kernel
theorem s4_fR2 {I : Nat → Nat → Int32} {L : Nat → Nat → Int64} {r : Bool} : fR (mk I L r) 8 4 2 = some 6 := mk_fR s4_K s4_r2
theorem s42_K : K0 6 = 20 := by decide +kernel
theorem s42_N : N0 6 = 6 := by decide +kernel
theorem s42_a {I : Nat → Nat → Int32} {L : Nat → Nat → Int64} {r : Bool} {k : Nat} (hk : k < 6) : aI (mk I L r) 6 (i32 k) = some (I 6 k) := mk_aI s42_K s42_N hk (by decide)
theorem s42_t {I : Nat → Nat → Int32} {L : Nat → Nat → Int64} {r : Bool} {k : Nat} {v : Int32} (hk : k < 6) : tI (mk I L r) 6 (i32 k) v = some (mk (up I 6 k v) L r) := mk_tI s42_K s42_N hk (by decide)
theorem s42_n {I : Nat → Nat → Int32} {L : Nat → Nat → Int64} {r : Bool} : nA (mk I L r) 6 = some (i32 6) := mk_nA (by rw [s42_K]; decide) s42_N
theorem s4_r3 {r : Bool} : R0 r 4 3 = 7 + 1 := by cases r <;> decide +kernel
theorem s4_fR3 {I : Nat → Nat → Int32} {L : Nat → Nat → Int64} {r : Bool} : fR (mk I L r) 8 4 3 = some 7 := mk_fR s4_K s4_r3
theorem s43_K : K0 7 = 20 := by decide +kernel
theorem s43_N : N0 7 = 6 := by decide +kernel
theorem s43_a {I : Nat → Nat → Int32} {L : Nat → Nat → Int64} {r : Bool} {k : Nat} (hk : k < 6) : aI (mk I L r) 7 (i32 k) = some (I 7 k) := mk_aI s43_K s43_N hk (by decide)
theorem s43_t {I : Nat → Nat → Int32} {L : Nat → Nat → Int64} {r : Bool} {k : Nat} {v : Int32} (hk : k < 6) : tI (mk I L r) 7 (i32 k) v = some (mk (up I 7 k v) L r) := mk_tI s43_K s43_N hk (by decide)
theorem s43_n {I : Nat → Nat → Int32} {L : Nat → Nat → Int64} {r : Bool} : nA (mk I L r) 7 = some (i32 6) := mk_nA (by rw [s43_K]; decide) s43_N
theorem s4_r5 {r : Bool} : R0 r 4 5 = 8 + 1 := by cases r <;> decide +kernel
theorem s4_fR5 {I : Nat → Nat → Int32} {L : Nat → Nat → Int64} {r : Bool} : fR (mk I L r) 8 4 5 = some 8 := mk_fR s4_K s4_r5
theorem s45_K : K0 8 = 20 := by decide +kernel
theorem s45_N : N0 8 = 8 := by decide +kernel
theorem s45_a {I : Nat → Nat → Int32} {L : Nat → Nat → Int64} {r : Bool} {k : Nat} (hk : k < 8) : aI (mk I L r) 8 (i32 k) = some (I 8 k) := mk_aI s45_K s45_N hk (by decide)
theorem s45_t {I : Nat → Nat → Int32} {L : Nat → Nat → Int64} {r : Bool} {k : Nat} {v : Int32} (hk : k < 8) : tI (mk I L r) 8 (i32 k) v = some (mk (up I 8 k v) L r) := mk_tI s45_K s45_N hk (by decide)
theorem s45_n {I : Nat → Nat → Int32} {L : Nat → Nat → Int64} {r : Bool} : nA (mk I L r) 8 = some (i32 8) := mk_nA (by rw [s45_K]; decide) s45_N
theorem s4_r7 {r : Bool} : R0 r 4 7 = 9 + 1 := by cases r <;> decide +kernel
theorem s4_fR7 {I : Nat → Nat → Int32} {L : Nat → Nat → Int64} {r : Bool} : fR (mk I L r) 8 4 7 = some 9 := mk_fR s4_K s4_r7
theorem s47_K : K0 9 = 21 := by decide +kernel
theorem s47_N : N0 9 = 4 := by decide +kernel
theorem s47_a {I : Nat → Nat → Int32} {L : Nat → Nat → Int64} {r : Bool} {k : Nat} (hk : k < 4) : aL (mk I L r) 9 (i32 k) = some (L 9 k) := mk_aL s47_K s47_N hk (by decide)
theorem s47_t {I : Nat → Nat → Int32} {L : Nat → Nat → Int64} {r : Bool} {k : Nat} {w : Int64} (hk : k < 4) : tL (mk I L r) 9 (i32 k) w = some (mk I (upL L 9 k w) r) := mk_tL s47_K s47_N hk (by decide)
theorem s47_n {I : Nat → Nat → Int32} {L : Nat → Nat → Int64} {r : Bool} : nA (mk I L r) 9 = some (i32 4) := mk_nA (by rw [s47_K]; decide) s47_N
theorem s4_r8 {r : Bool} : R0 r 4 8 = 10 + 1 := by cases r <;> decide +kernel
theorem s4_fR8 {I : Nat → Nat → Int32} {L : Nat → Nat → Int64} {r : Bool} : fR (mk I L r) 8 4 8 = some 10 := mk_fR s4_K s4_r8
theorem s48_K : K0 10 = 20 := by decide +kernel
theorem s48_N : N0 10 = 4 := by decide +kernel
theorem s48_a {I : Nat → Nat → Int32} {L : Nat → Nat → Int64} {r : Bool} {k : Nat} (hk : k < 4) : aI (mk I L r) 10 (i32 k) = some (I 10 k) := mk_aI s48_K s48_N hk (by decide)
theorem s48_t {I : Nat → Nat → Int32} {L : Nat → Nat → Int64} {r : Bool} {k : Nat} {v : Int32} (hk : k < 4) : tI (mk I L r) 10 (i32 k) v = some (mk (up I 10 k v) L r) := mk_tI s48_K s48_N hk (by decide)
theorem s48_n {I : Nat → Nat → Int32} {L : Nat → Nat → Int64} {r : Bool} : nA (mk I L r) 10 = some (i32 4) := mk_nA (by rw [s48_K]; decide) s48_N
theorem s4_r10 {r : Bool} : R0 r 4 10 = 11 + 1 := by cases r <;> decide +kernel
theorem s4_fR10 {I : Nat → Nat → Int32} {L : Nat → Nat → Int64} {r : Bool} : fR (mk I L r) 8 4 10 = some 11 := mk_fR s4_K s4_r10
theorem s410_K : K0 11 = 21 := by decide +kernel
theorem s410_N : N0 11 = 6 := by decide +kernel
theorem s410_a {I : Nat → Nat → Int32} {L : Nat → Nat → Int64} {r : Bool} {k : Nat} (hk : k < 6) : aL (mk I L r) 11 (i32 k) = some (L 11 k) := mk_aL s410_K s410_N hk (by decide)
theorem s410_t {I : Nat → Nat → Int32} {L : Nat → Nat → Int64} {r : Bool} {k : Nat} {w : Int64} (hk : k < 6) : tL (mk I L r) 11 (i32 k) w = some (mk I (upL L 11 k w) r) := mk_tL s410_K s410_N hk (by decide)
theorem s410_n {I : Nat → Nat → Int32} {L : Nat → Nat → Int64} {r : Bool} : nA (mk I L r) 11 = some (i32 6) := mk_nA (by rw [s410_K]; decide) s410_N
theorem s4_r11 {r : Bool} : R0 r 4 11 = 12 + 1 := by cases r <;> decide +kernel
theorem s4_fR11 {I : Nat → Nat → Int32} {L : Nat → Nat → Int64} {r : Bool} : fR (mk I L r) 8 4 11 = some 12 := mk_fR s4_K s4_r11
theorem s411_K : K0 12 = 20 := by decide +kernel
theorem s411_N : N0 12 = 6 := by decide +kernel
theorem s411_a {I : Nat → Nat → Int32} {L : Nat → Nat → Int64} {r : Bool} {k : Nat} (hk : k < 6) : aI (mk I L r) 12 (i32 k) = some (I 12 k) := mk_aI s411_K s411_N hk (by decide)
theorem s411_t {I : Nat → Nat → Int32} {L : Nat → Nat → Int64} {r : Bool} {k : Nat} {v : Int32} (hk : k < 6) : tI (mk I L r) 12 (i32 k) v = some (mk (up I 12 k v) L r) := mk_tI s411_K s411_N hk (by decide)
theorem s411_n {I : Nat → Nat → Int32} {L : Nat → Nat → Int64} {r : Bool} : nA (mk I L r) 12 = some (i32 6) := mk_nA (by rw [s411_K]; decide) s411_N
theorem s4_r12 {r : Bool} : R0 r 4 12 = 13 + 1 := by cases r <;> decide +kernel
theorem s4_fR12 {I : Nat → Nat → Int32} {L : Nat → Nat → Int64} {r : Bool} : fR (mk I L r) 8 4 12 = some 13 := mk_fR s4_K s4_r12
theorem s412_K : K0 13 = 20 := by decide +kernel
theorem s412_N : N0 13 = 6 := by decide +kernel
theorem s412_a {I : Nat → Nat → Int32} {L : Nat → Nat → Int64} {r : Bool} {k : Nat} (hk : k < 6) : aI (mk I L r) 13 (i32 k) = some (I 13 k) := mk_aI s412_K s412_N hk (by decide)
theorem s412_t {I : Nat → Nat → Int32} {L : Nat → Nat → Int64} {r : Bool} {k : Nat} {v : Int32} (hk : k < 6) : tI (mk I L r) 13 (i32 k) v = some (mk (up I 13 k v) L r) := mk_tI s412_K s412_N hk (by decide)
theorem s412_n {I : Nat → Nat → Int32} {L : Nat → Nat → Int64} {r : Bool} : nA (mk I L r) 13 = some (i32 6) := mk_nA (by rw [s412_K]; decide) s412_N
theorem s4_r13 {r : Bool} : R0 r 4 13 = 14 + 1 := by cases r <;> decide +kernel
theorem s4_fR13 {I : Nat → Nat → Int32} {L : Nat → Nat → Int64} {r : Bool} : fR (mk I L r) 8 4 13 = some 14 := mk_fR s4_K s4_r13
theorem s413_K : K0 14 = 20 := by decide +kernel
theorem s413_N : N0 14 = 18 := by decide +kernel
theorem s413_a {I : Nat → Nat → Int32} {L : Nat → Nat → Int64} {r : Bool} {k : Nat} (hk : k < 18) : aI (mk I L r) 14 (i32 k) = some (I 14 k) := mk_aI s413_K s413_N hk (by decide)
theorem s413_t {I : Nat → Nat → Int32} {L : Nat → Nat → Int64} {r : Bool} {k : Nat} {v : Int32} (hk : k < 18) : tI (mk I L r) 14 (i32 k) v = some (mk (up I 14 k v) L r) := mk_tI s413_K s413_N hk (by decide)
theorem s413_n {I : Nat → Nat → Int32} {L : Nat → Nat → Int64} {r : Bool} : nA (mk I L r) 14 = some (i32 18) := mk_nA (by rw [s413_K]; decide) s413_N
theorem s5_K : K0 15 = 9 := by decide +kernel
theorem s5_k {I : Nat → Nat → Int32} {L : Nat → Nat → Int64} {r : Bool} : mK (mk I L r) 15 = 9 := s5_K
theorem s5_fI {I : Nat → Nat → Int32} {L : Nat → Nat → Int64} {r : Bool} {k : Nat} : fI (mk I L r) 8 15 k = some (I 15 k) := mk_fI s5_K
theorem s5_fL {I : Nat → Nat → Int32} {L : Nat → Nat → Int64} {r : Bool} {k : Nat} : fL (mk I L r) 8 15 k = some (L 15 k) := mk_fL s5_K
theorem s5_pI {I : Nat → Nat → Int32} {L : Nat → Nat → Int64} {r : Bool} {k : Nat} {v : Int32} : pI (mk I L r) 8 15 k v = some (mk (up I 15 k v) L r) := mk_pI s5_K
theorem s5_pL {I : Nat → Nat → Int32} {L : Nat → Nat → Int64} {r : Bool} {k : Nat} {w : Int64} : pL (mk I L r) 8 15 k w = some (mk I (upL L 15 k w) r) := mk_pL s5_K
theorem s5_z0 {I : Nat → Nat → Int32} {L : Nat → Nat → Int64} {r : Bool} {k : Nat} : pZ (mk I L r) 8 15 k (i32 0) = some (mk (up I 15 k (i32 0)) L r) := mk_pZ0 s5_K
theorem s5_z1 {I : Nat → Nat → Int32} {L : Nat → Nat → Int64} {r : Bool} {k : Nat} : pZ (mk I L r) 8 15 k (i32 1) = some (mk (up I 15 k (i32 1)) L r) := mk_pZ1 s5_K
theorem s5_r1 {r : Bool} : R0 r 15 1 = 16 + 1 := by cases r <;> decide +kernel
theorem s5_fR1 {I : Nat → Nat → Int32} {L : Nat → Nat → Int64} {r : Bool} : fR (mk I L r) 8 15 1 = some 16 := mk_fR s5_K s5_r1
theorem s51_K : K0 16 = 21 := by decide +kernel
theorem s51_N : N0 16 = 6 := by decide +kernel
theorem s51_a {I : Nat → Nat → Int32} {L : Nat → Nat → Int64} {r : Bool} {k : Nat} (hk : k < 6) : aL (mk I L r) 16 (i32 k) = some (L 16 k) := mk_aL s51_K s51_N hk (by decide)
theorem s51_t {I : Nat → Nat → Int32} {L : Nat → Nat → Int64} {r : Bool} {k : Nat} {w : Int64} (hk : k < 6) : tL (mk I L r) 16 (i32 k) w = some (mk I (upL L 16 k w) r) := mk_tL s51_K s51_N hk (by decide)
theorem s51_n {I : Nat → Nat → Int32} {L : Nat → Nat → Int64} {r : Bool} : nA (mk I L r) 16 = some (i32 6) := mk_nA (by rw [s51_K]; decide) s51_N
theorem s5_r2 {r : Bool} : R0 r 15 2 = 17 + 1 := by cases r <;> decide +kernel
theorem s5_fR2 {I : Nat → Nat → Int32} {L : Nat → Nat → Int64} {r : Bool} : fR (mk I L r) 8 15 2 = some 17 := mk_fR s5_K s5_r2
theorem s52_K : K0 17 = 20 := by decide +kernel
theorem s52_N : N0 17 = 6 := by decide +kernel
theorem s52_a {I : Nat → Nat → Int32} {L : Nat → Nat → Int64} {r : Bool} {k : Nat} (hk : k < 6) : aI (mk I L r) 17 (i32 k) = some (I 17 k) := mk_aI s52_K s52_N hk (by decide)
theorem s52_t {I : Nat → Nat → Int32} {L : Nat → Nat → Int64} {r : Bool} {k : Nat} {v : Int32} (hk : k < 6) : tI (mk I L r) 17 (i32 k) v = some (mk (up I 17 k v) L r) := mk_tI s52_K s52_N hk (by decide)
theorem s52_n {I : Nat → Nat → Int32} {L : Nat → Nat → Int64} {r : Bool} : nA (mk I L r) 17 = some (i32 6) := mk_nA (by rw [s52_K]; decide) s52_N
theorem s5_r3 {r : Bool} : R0 r 15 3 = 18 + 1 := by cases r <;> decide +kernel
theorem s5_fR3 {I : Nat → Nat → Int32} {L : Nat → Nat → Int64} {r : Bool} : fR (mk I L r) 8 15 3 = some 18 := mk_fR s5_K s5_r3
theorem s53_K : K0 18 = 20 := by decide +kernel
theorem s53_N : N0 18 = 6 := by decide +kernel
theorem s53_a {I : Nat → Nat → Int32} {L : Nat → Nat → Int64} {r : Bool} {k : Nat} (hk : k < 6) : aI (mk I L r) 18 (i32 k) = some (I 18 k) := mk_aI s53_K s53_N hk (by decide)
theorem s53_t {I : Nat → Nat → Int32} {L : Nat → Nat → Int64} {r : Bool} {k : Nat} {v : Int32} (hk : k < 6) : tI (mk I L r) 18 (i32 k) v = some (mk (up I 18 k v) L r) := mk_tI s53_K s53_N hk (by decide)
theorem s53_n {I : Nat → Nat → Int32} {L : Nat → Nat → Int64} {r : Bool} : nA (mk I L r) 18 = some (i32 6) := mk_nA (by rw [s53_K]; decide) s53_N
theorem s5_r5 {r : Bool} : R0 r 15 5 = 19 + 1 := by cases r <;> decide +kernel
theorem s5_fR5 {I : Nat → Nat → Int32} {L : Nat → Nat → Int64} {r : Bool} : fR (mk I L r) 8 15 5 = some 19 := mk_fR s5_K s5_r5
theorem s55_K : K0 19 = 20 := by decide +kernel
theorem s55_N : N0 19 = 8 := by decide +kernel
theorem s55_a {I : Nat → Nat → Int32} {L : Nat → Nat → Int64} {r : Bool} {k : Nat} (hk : k < 8) : aI (mk I L r) 19 (i32 k) = some (I 19 k) := mk_aI s55_K s55_N hk (by decide)
theorem s55_t {I : Nat → Nat → Int32} {L : Nat → Nat → Int64} {r : Bool} {k : Nat} {v : Int32} (hk : k < 8) : tI (mk I L r) 19 (i32 k) v = some (mk (up I 19 k v) L r) := mk_tI s55_K s55_N hk (by decide)
theorem s55_n {I : Nat → Nat → Int32} {L : Nat → Nat → Int64} {r : Bool} : nA (mk I L r) 19 = some (i32 8) := mk_nA (by rw [s55_K]; decide) s55_N
theorem s5_r7 {r : Bool} : R0 r 15 7 = 20 + 1 := by cases r <;> decide +kernel
theorem s5_fR7 {I : Nat → Nat → Int32} {L : Nat → Nat → Int64} {r : Bool} : fR (mk I L r) 8 15 7 = some 20 := mk_fR s5_K s5_r7
theorem s57_K : K0 20 = 21 := by decide +kernel
theorem s57_N : N0 20 = 4 := by decide +kernel
theorem s57_a {I : Nat → Nat → Int32} {L : Nat → Nat → Int64} {r : Bool} {k : Nat} (hk : k < 4) : aL (mk I L r) 20 (i32 k) = some (L 20 k) := mk_aL s57_K s57_N hk (by decide)
theorem s57_t {I : Nat → Nat → Int32} {L : Nat → Nat → Int64} {r : Bool} {k : Nat} {w : Int64} (hk : k < 4) : tL (mk I L r) 20 (i32 k) w = some (mk I (upL L 20 k w) r) := mk_tL s57_K s57_N hk (by decide)
theorem s57_n {I : Nat → Nat → Int32} {L : Nat → Nat → Int64} {r : Bool} : nA (mk I L r) 20 = some (i32 4) := mk_nA (by rw [s57_K]; decide) s57_N
theorem s5_r8 {r : Bool} : R0 r 15 8 = 21 + 1 := by cases r <;> decide +kernel
theorem s5_fR8 {I : Nat → Nat → Int32} {L : Nat → Nat → Int64} {r : Bool} : fR (mk I L r) 8 15 8 = some 21 := mk_fR s5_K s5_r8
theorem s58_K : K0 21 = 20 := by decide +kernel
theorem s58_N : N0 21 = 4 := by decide +kernel
theorem s58_a {I : Nat → Nat → Int32} {L : Nat → Nat → Int64} {r : Bool} {k : Nat} (hk : k < 4) : aI (mk I L r) 21 (i32 k) = some (I 21 k) := mk_aI s58_K s58_N hk (by decide)
theorem s58_t {I : Nat → Nat → Int32} {L : Nat → Nat → Int64} {r : Bool} {k : Nat} {v : Int32} (hk : k < 4) : tI (mk I L r) 21 (i32 k) v = some (mk (up I 21 k v) L r) := mk_tI s58_K s58_N hk (by decide)
theorem s58_n {I : Nat → Nat → Int32} {L : Nat → Nat → Int64} {r : Bool} : nA (mk I L r) 21 = some (i32 4) := mk_nA (by rw [s58_K]; decide) s58_N
theorem s5_r10 {r : Bool} : R0 r 15 10 = 22 + 1 := by cases r <;> decide +kernel
theorem s5_fR10 {I : Nat → Nat → Int32} {L : Nat → Nat → Int64} {r : Bool} : fR (mk I L r) 8 15 10 = some 22 := mk_fR s5_K s5_r10
theorem s510_K : K0 22 = 21 := by decide +kernel
theorem s510_N : N0 22 = 6 := by decide +kernel
theorem s510_a {I : Nat → Nat → Int32} {L : Nat → Nat → Int64} {r : Bool} {k : Nat} (hk : k < 6) : aL (mk I L r) 22 (i32 k) = some (L 22 k) := mk_aL s510_K s510_N hk (by decide)
theorem s510_t {I : Nat → Nat → Int32} {L : Nat → Nat → Int64} {r : Bool} {k : Nat} {w : Int64} (hk : k < 6) : tL (mk I L r) 22 (i32 k) w = some (mk I (upL L 22 k w) r) := mk_tL s510_K s510_N hk (by decide)
theorem s510_n {I : Nat → Nat → Int32} {L : Nat → Nat → Int64} {r : Bool} : nA (mk I L r) 22 = some (i32 6) := mk_nA (by rw [s510_K]; decide) s510_N
theorem s5_r11 {r : Bool} : R0 r 15 11 = 23 + 1 := by cases r <;> decide +kernel
theorem s5_fR11 {I : Nat → Nat → Int32} {L : Nat → Nat → Int64} {r : Bool} : fR (mk I L r) 8 15 11 = some 23 := mk_fR s5_K s5_r11
theorem s511_K : K0 23 = 20 := by decide +kernel
theorem s511_N : N0 23 = 6 := by decide +kernel
theorem s511_a {I : Nat → Nat → Int32} {L : Nat → Nat → Int64} {r : Bool} {k : Nat} (hk : k < 6) : aI (mk I L r) 23 (i32 k) = some (I 23 k) := mk_aI s511_K s511_N hk (by decide)
theorem s511_t {I : Nat → Nat → Int32} {L : Nat → Nat → Int64} {r : Bool} {k : Nat} {v : Int32} (hk : k < 6) : tI (mk I L r) 23 (i32 k) v = some (mk (up I 23 k v) L r) := mk_tI s511_K s511_N hk (by decide)
theorem s511_n {I : Nat → Nat → Int32} {L : Nat → Nat → Int64} {r : Bool} : nA (mk I L r) 23 = some (i32 6) := mk_nA (by rw [s511_K]; decide) s511_N
theorem s5_r12 {r : Bool} : R0 r 15 12 = 24 + 1 := by cases r <;> decide +kernel
theorem s5_fR12 {I : Nat → Nat → Int32} {L : Nat → Nat → Int64} {r : Bool} : fR (mk I L r) 8 15 12 = some 24 := mk_fR s5_K s5_r12
theorem s512_K : K0 24 = 20 := by decide +kernel
theorem s512_N : N0 24 = 6 := by decide +kernel
theorem s512_a {I : Nat → Nat → Int32} {L : Nat → Nat → Int64} {r : Bool} {k : Nat} (hk : k < 6) : aI (mk I L r) 24 (i32 k) = some (I 24 k) := mk_aI s512_K s512_N hk (by decide)
theorem s512_t {I : Nat → Nat → Int32} {L : Nat → Nat → Int64} {r : Bool} {k : Nat} {v : Int32} (hk : k < 6) : tI (mk I L r) 24 (i32 k) v = some (mk (up I 24 k v) L r) := mk_tI s512_K s512_N hk (by decide)
theorem s512_n {I : Nat → Nat → Int32} {L : Nat → Nat → Int64} {r : Bool} : nA (mk I L r) 24 = some (i32 6) := mk_nA (by rw [s512_K]; decide) s512_N
theorem s5_r13 {r : Bool} : R0 r 15 13 = 25 + 1 := by cases r <;> decide +kernel
theorem s5_fR13 {I : Nat → Nat → Int32} {L : Nat → Nat → Int64} {r : Bool} : fR (mk I L r) 8 15 13 = some 25 := mk_fR s5_K s5_r13
theorem s513_K : K0 25 = 20 := by decide +kernel
theorem s513_N : N0 25 = 18 := by decide +kernel
theorem s513_a {I : Nat → Nat → Int32} {L : Nat → Nat → Int64} {r : Bool} {k : Nat} (hk : k < 18) : aI (mk I L r) 25 (i32 k) = some (I 25 k) := mk_aI s513_K s513_N hk (by decide)
theorem s513_t {I : Nat → Nat → Int32} {L : Nat → Nat → Int64} {r : Bool} {k : Nat} {v : Int32} (hk : k < 18) : tI (mk I L r) 25 (i32 k) v = some (mk (up I 25 k v) L r) := mk_tI s513_K s513_N hk (by decide)
theorem s513_n {I : Nat → Nat → Int32} {L : Nat → Nat → Int64} {r : Bool} : nA (mk I L r) 25 = some (i32 18) := mk_nA (by rw [s513_K]; decide) s513_N
theorem tp_K : K0 1 = 10 := by decide +kernel
theorem tp_k {I : Nat → Nat → Int32} {L : Nat → Nat → Int64} {r : Bool} : mK (mk I L r) 1 = 10 := tp_K
theorem tp_fI {I : Nat → Nat → Int32} {L : Nat → Nat → Int64} {r : Bool} {k : Nat} : fI (mk I L r) 9 1 k = some (I 1 k) := mk_fI tp_K
theorem tp_fL {I : Nat → Nat → Int32} {L : Nat → Nat → Int64} {r : Bool} {k : Nat} : fL (mk I L r) 9 1 k = some (L 1 k) := mk_fL tp_K
theorem tp_pI {I : Nat → Nat → Int32} {L : Nat → Nat → Int64} {r : Bool} {k : Nat} {v : Int32} : pI (mk I L r) 9 1 k v = some (mk (up I 1 k v) L r) := mk_pI tp_K
theorem tp_pL {I : Nat → Nat → Int32} {L : Nat → Nat → Int64} {r : Bool} {k : Nat} {w : Int64} : pL (mk I L r) 9 1 k w = some (mk I (upL L 1 k w) r) := mk_pL tp_K
theorem tp_z0 {I : Nat → Nat → Int32} {L : Nat → Nat → Int64} {r : Bool} {k : Nat} : pZ (mk I L r) 9 1 k (i32 0) = some (mk (up I 1 k (i32 0)) L r) := mk_pZ0 tp_K
theorem tp_z1 {I : Nat → Nat → Int32} {L : Nat → Nat → Int64} {r : Bool} {k : Nat} : pZ (mk I L r) 9 1 k (i32 1) = some (mk (up I 1 k (i32 1)) L r) := mk_pZ1 tp_K
theorem tp_r0 {r : Bool} : R0 r 1 0 = 2 + 1 := by cases r <;> decide +kernel
theorem tp_fR0 {I : Nat → Nat → Int32} {L : Nat → Nat → Int64} {r : Bool} : fR (mk I L r) 9 1 0 = some 2 := mk_fR tp_K tp_r0
theorem tp0_K : K0 2 = 20 := by decide +kernel
theorem tp0_N : N0 2 = 940 := by decide +kernel
theorem tp0_a {I : Nat → Nat → Int32} {L : Nat → Nat → Int64} {r : Bool} {k : Nat} (hk : k < 940) : aI (mk I L r) 2 (i32 k) = some (I 2 k) := mk_aI tp0_K tp0_N hk (by decide)
theorem tp0_t {I : Nat → Nat → Int32} {L : Nat → Nat → Int64} {r : Bool} {k : Nat} {v : Int32} (hk : k < 940) : tI (mk I L r) 2 (i32 k) v = some (mk (up I 2 k v) L r) := mk_tI tp0_K tp0_N hk (by decide)
theorem tp0_n {I : Nat → Nat → Int32} {L : Nat → Nat → Int64} {r : Bool} : nA (mk I L r) 2 = some (i32 940) := mk_nA (by rw [tp0_K]; decide) tp0_N
theorem tp_r1 {r : Bool} : R0 r 1 1 = 3 + 1 := by cases r <;> decide +kernel
theorem tp_fR1 {I : Nat → Nat → Int32} {L : Nat → Nat → Int64} {r : Bool} : fR (mk I L r) 9 1 1 = some 3 := mk_fR tp_K tp_r1
theorem tp1_K : K0 3 = 21 := by decide +kernel
theorem tp1_N : N0 3 = 20 := by decide +kernel
theorem tp1_a {I : Nat → Nat → Int32} {L : Nat → Nat → Int64} {r : Bool} {k : Nat} (hk : k < 20) : aL (mk I L r) 3 (i32 k) = some (L 3 k) := mk_aL tp1_K tp1_N hk (by decide)
theorem tp1_t {I : Nat → Nat → Int32} {L : Nat → Nat → Int64} {r : Bool} {k : Nat} {w : Int64} (hk : k < 20) : tL (mk I L r) 3 (i32 k) w = some (mk I (upL L 3 k w) r) := mk_tL tp1_K tp1_N hk (by decide)
theorem tp1_n {I : Nat → Nat → Int32} {L : Nat → Nat → Int64} {r : Bool} : nA (mk I L r) 3 = some (i32 20) := mk_nA (by rw [tp1_K]; decide) tp1_N
theorem pa_K : K0 42 = 6 := by decide +kernel
theorem pa_k {I : Nat → Nat → Int32} {L : Nat → Nat → Int64} {r : Bool} : mK (mk I L r) 42 = 6 := pa_K
theorem pa_fI {I : Nat → Nat → Int32} {L : Nat → Nat → Int64} {r : Bool} {k : Nat} : fI (mk I L r) 5 42 k = some (I 42 k) := mk_fI pa_K
theorem pa_fL {I : Nat → Nat → Int32} {L : Nat → Nat → Int64} {r : Bool} {k : Nat} : fL (mk I L r) 5 42 k = some (L 42 k) := mk_fL pa_K
theorem pa_pI {I : Nat → Nat → Int32} {L : Nat → Nat → Int64} {r : Bool} {k : Nat} {v : Int32} : pI (mk I L r) 5 42 k v = some (mk (up I 42 k v) L r) := mk_pI pa_K
theorem pa_pL {I : Nat → Nat → Int32} {L : Nat → Nat → Int64} {r : Bool} {k : Nat} {w : Int64} : pL (mk I L r) 5 42 k w = some (mk I (upL L 42 k w) r) := mk_pL pa_K
theorem pa_z0 {I : Nat → Nat → Int32} {L : Nat → Nat → Int64} {r : Bool} {k : Nat} : pZ (mk I L r) 5 42 k (i32 0) = some (mk (up I 42 k (i32 0)) L r) := mk_pZ0 pa_K
theorem pa_z1 {I : Nat → Nat → Int32} {L : Nat → Nat → Int64} {r : Bool} {k : Nat} : pZ (mk I L r) 5 42 k (i32 1) = some (mk (up I 42 k (i32 1)) L r) := mk_pZ1 pa_K
theorem pa_r0 {r : Bool} : R0 r 42 0 = 43 + 1 := by cases r <;> decide +kernel
theorem pa_fR0 {I : Nat → Nat → Int32} {L : Nat → Nat → Int64} {r : Bool} : fR (mk I L r) 5 42 0 = some 43 := mk_fR pa_K pa_r0
theorem bk_K : K0 108 = 2 := by decide +kernel
theorem bk_k {I : Nat → Nat → Int32} {L : Nat → Nat → Int64} {r : Bool} : mK (mk I L r) 108 = 2 := bk_K
theorem bk_fI {I : Nat → Nat → Int32} {L : Nat → Nat → Int64} {r : Bool} {k : Nat} : fI (mk I L r) 1 108 k = some (I 108 k) := mk_fI bk_K
theorem bk_fL {I : Nat → Nat → Int32} {L : Nat → Nat → Int64} {r : Bool} {k : Nat} : fL (mk I L r) 1 108 k = some (L 108 k) := mk_fL bk_K
theorem bk_pI {I : Nat → Nat → Int32} {L : Nat → Nat → Int64} {r : Bool} {k : Nat} {v : Int32} : pI (mk I L r) 1 108 k v = some (mk (up I 108 k v) L r) := mk_pI bk_K
theorem bk_pL {I : Nat → Nat → Int32} {L : Nat → Nat → Int64} {r : Bool} {k : Nat} {w : Int64} : pL (mk I L r) 1 108 k w = some (mk I (upL L 108 k w) r) := mk_pL bk_K
theorem bk_z0 {I : Nat → Nat → Int32} {L : Nat → Nat → Int64} {r : Bool} {k : Nat} : pZ (mk I L r) 1 108 k (i32 0) = some (mk (up I 108 k (i32 0)) L r) := mk_pZ0 bk_K
theorem bk_z1 {I : Nat → Nat → Int32} {L : Nat → Nat → Int64} {r : Bool} {k : Nat} : pZ (mk I L r) 1 108 k (i32 1) = some (mk (up I 108 k (i32 1)) L r) := mk_pZ1 bk_K
theorem bk_r0 {r : Bool} : R0 r 108 0 = 4 + 1 := by cases r <;> decide +kernel
theorem bk_fR0 {I : Nat → Nat → Int32} {L : Nat → Nat → Int64} {r : Bool} : fR (mk I L r) 1 108 0 = some 4 := mk_fR bk_K bk_r0
theorem bk_r1 {r : Bool} : R0 r 108 1 = 109 + 1 := by cases r <;> decide +kernel
theorem bk_fR1 {I : Nat → Nat → Int32} {L : Nat → Nat → Int64} {r : Bool} : fR (mk I L r) 1 108 1 = some 109 := mk_fR bk_K bk_r1
theorem bk1_K : K0 109 = 20 := by decide +kernel
theorem bk1_N : N0 109 = 40 := by decide +kernel
theorem bk1_a {I : Nat → Nat → Int32} {L : Nat → Nat → Int64} {r : Bool} {k : Nat} (hk : k < 40) : aI (mk I L r) 109 (i32 k) = some (I 109 k) := mk_aI bk1_K bk1_N hk (by decide)
theorem bk1_t {I : Nat → Nat → Int32} {L : Nat → Nat → Int64} {r : Bool} {k : Nat} {v : Int32} (hk : k < 40) : tI (mk I L r) 109 (i32 k) v = some (mk (up I 109 k v) L r) := mk_tI bk1_K bk1_N hk (by decide)
theorem bk1_n {I : Nat → Nat → Int32} {L : Nat → Nat → Int64} {r : Bool} : nA (mk I L r) 109 = some (i32 40) := mk_nA (by rw [bk1_K]; decide) bk1_N
theorem bk_r2 {r : Bool} : R0 r 108 2 = 110 + 1 := by cases r <;> decide +kernel
theorem bk_fR2 {I : Nat → Nat → Int32} {L : Nat → Nat → Int64} {r : Bool} : fR (mk I L r) 1 108 2 = some 110 := mk_fR bk_K bk_r2
theorem bk2_K : K0 110 = 20 := by decide +kernel
theorem bk2_N : N0 110 = 40 := by decide +kernel
theorem bk2_a {I : Nat → Nat → Int32} {L : Nat → Nat → Int64} {r : Bool} {k : Nat} (hk : k < 40) : aI (mk I L r) 110 (i32 k) = some (I 110 k) := mk_aI bk2_K bk2_N hk (by decide)
theorem bk2_t {I : Nat → Nat → Int32} {L : Nat → Nat → Int64} {r : Bool} {k : Nat} {v : Int32} (hk : k < 40) : tI (mk I L r) 110 (i32 k) v = some (mk (up I 110 k v) L r) := mk_tI bk2_K bk2_N hk (by decide)
theorem bk2_n {I : Nat → Nat → Int32} {L : Nat → Nat → Int64} {r : Bool} : nA (mk I L r) 110 = some (i32 40) := mk_nA (by rw [bk2_K]; decide) bk2_N
theorem bk_r3 {r : Bool} : R0 r 108 3 = 111 + 1 := by cases r <;> decide +kernel
theorem bk_fR3 {I : Nat → Nat → Int32} {L : Nat → Nat → Int64} {r : Bool} : fR (mk I L r) 1 108 3 = some 111 := mk_fR bk_K bk_r3
theorem bk3_K : K0 111 = 20 := by decide +kernel
theorem bk3_N : N0 111 = 40 := by decide +kernel
theorem bk3_a {I : Nat → Nat → Int32} {L : Nat → Nat → Int64} {r : Bool} {k : Nat} (hk : k < 40) : aI (mk I L r) 111 (i32 k) = some (I 111 k) := mk_aI bk3_K bk3_N hk (by decide)
theorem bk3_t {I : Nat → Nat → Int32} {L : Nat → Nat → Int64} {r : Bool} {k : Nat} {v : Int32} (hk : k < 40) : tI (mk I L r) 111 (i32 k) v = some (mk (up I 111 k v) L r) := mk_tI bk3_K bk3_N hk (by decide)
theorem bk3_n {I : Nat → Nat → Int32} {L : Nat → Nat → Int64} {r : Bool} : nA (mk I L r) 111 = some (i32 40) := mk_nA (by rw [bk3_K]; decide) bk3_N
theorem bk_r4 {r : Bool} : R0 r 108 4 = 112 + 1 := by cases r <;> decide +kernel
theorem bk_fR4 {I : Nat → Nat → Int32} {L : Nat → Nat → Int64} {r : Bool} : fR (mk I L r) 1 108 4 = some 112 := mk_fR bk_K bk_r4
theorem bk4_K : K0 112 = 20 := by decide +kernel
theorem bk4_N : N0 112 = 40 := by decide +kernel
theorem bk4_a {I : Nat → Nat → Int32} {L : Nat → Nat → Int64} {r : Bool} {k : Nat} (hk : k < 40) : aI (mk I L r) 112 (i32 k) = some (I 112 k) := mk_aI bk4_K bk4_N hk (by decide)
theorem bk4_t {I : Nat → Nat → Int32} {L : Nat → Nat → Int64} {r : Bool} {k : Nat} {v : Int32} (hk : k < 40) : tI (mk I L r) 112 (i32 k) v = some (mk (up I 112 k v) L r) := mk_tI bk4_K bk4_N hk (by decide)
theorem bk4_n {I : Nat → Nat → Int32} {L : Nat → Nat → Int64} {r : Bool} : nA (mk I L r) 112 = some (i32 40) := mk_nA (by rw [bk4_K]; decide) bk4_N
theorem bk_r5 {r : Bool} : R0 r 108 5 = 113 + 1 := by cases r <;> decide +kernel
theorem bk_fR5 {I : Nat → Nat → Int32} {L : Nat → Nat → Int64} {r : Bool} : fR (mk I L r) 1 108 5 = some 113 := mk_fR bk_K bk_r5
theorem bk5_K : K0 113 = 20 := by decide +kernel
theorem bk5_N : N0 113 = 40 := by decide +kernel
theorem bk5_a {I : Nat → Nat → Int32} {L : Nat → Nat → Int64} {r : Bool} {k : Nat} (hk : k < 40) : aI (mk I L r) 113 (i32 k) = some (I 113 k) := mk_aI bk5_K bk5_N hk (by decide)
theorem bk5_t {I : Nat → Nat → Int32} {L : Nat → Nat → Int64} {r : Bool} {k : Nat} {v : Int32} (hk : k < 40) : tI (mk I L r) 113 (i32 k) v = some (mk (up I 113 k v) L r) := mk_tI bk5_K bk5_N hk (by decide)
theorem bk5_n {I : Nat → Nat → Int32} {L : Nat → Nat → Int64} {r : Bool} : nA (mk I L r) 113 = some (i32 40) := mk_nA (by rw [bk5_K]; decide) bk5_N
theorem kp_K : K0 124 = 4 := by decide +kernel
theorem kp_k {I : Nat → Nat → Int32} {L : Nat → Nat → Int64} {r : Bool} : mK (mk I L r) 124 = 4 := kp_K
theorem kp_fI {I : Nat → Nat → Int32} {L : Nat → Nat → Int64} {r : Bool} {k : Nat} : fI (mk I L r) 3 124 k = some (I 124 k) := mk_fI kp_K
theorem kp_fL {I : Nat → Nat → Int32} {L : Nat → Nat → Int64} {r : Bool} {k : Nat} : fL (mk I L r) 3 124 k = some (L 124 k) := mk_fL kp_K
theorem kp_pI {I : Nat → Nat → Int32} {L : Nat → Nat → Int64} {r : Bool} {k : Nat} {v : Int32} : pI (mk I L r) 3 124 k v = some (mk (up I 124 k v) L r) := mk_pI kp_K
theorem kp_pL {I : Nat → Nat → Int32} {L : Nat → Nat → Int64} {r : Bool} {k : Nat} {w : Int64} : pL (mk I L r) 3 124 k w = some (mk I (upL L 124 k w) r) := mk_pL kp_K
theorem kp_z0 {I : Nat → Nat → Int32} {L : Nat → Nat → Int64} {r : Bool} {k : Nat} : pZ (mk I L r) 3 124 k (i32 0) = some (mk (up I 124 k (i32 0)) L r) := mk_pZ0 kp_K
theorem kp_z1 {I : Nat → Nat → Int32} {L : Nat → Nat → Int64} {r : Bool} {k : Nat} : pZ (mk I L r) 3 124 k (i32 1) = some (mk (up I 124 k (i32 1)) L r) := mk_pZ1 kp_K
theorem kp_r0 {r : Bool} : R0 r 124 0 = 4 + 1 := by cases r <;> decide +kernel
theorem kp_fR0 {I : Nat → Nat → Int32} {L : Nat → Nat → Int64} {r : Bool} : fR (mk I L r) 3 124 0 = some 4 := mk_fR kp_K kp_r0
theorem me_K : K0 127 = 5 := by decide +kernel
theorem me_k {I : Nat → Nat → Int32} {L : Nat → Nat → Int64} {r : Bool} : mK (mk I L r) 127 = 5 := me_K
theorem me_fI {I : Nat → Nat → Int32} {L : Nat → Nat → Int64} {r : Bool} {k : Nat} : fI (mk I L r) 4 127 k = some (I 127 k) := mk_fI me_K
theorem me_fL {I : Nat → Nat → Int32} {L : Nat → Nat → Int64} {r : Bool} {k : Nat} : fL (mk I L r) 4 127 k = some (L 127 k) := mk_fL me_K
theorem me_pI {I : Nat → Nat → Int32} {L : Nat → Nat → Int64} {r : Bool} {k : Nat} {v : Int32} : pI (mk I L r) 4 127 k v = some (mk (up I 127 k v) L r) := mk_pI me_K
theorem me_pL {I : Nat → Nat → Int32} {L : Nat → Nat → Int64} {r : Bool} {k : Nat} {w : Int64} : pL (mk I L r) 4 127 k w = some (mk I (upL L 127 k w) r) := mk_pL me_K
theorem me_z0 {I : Nat → Nat → Int32} {L : Nat → Nat → Int64} {r : Bool} {k : Nat} : pZ (mk I L r) 4 127 k (i32 0) = some (mk (up I 127 k (i32 0)) L r) := mk_pZ0 me_K
theorem me_z1 {I : Nat → Nat → Int32} {L : Nat → Nat → Int64} {r : Bool} {k : Nat} : pZ (mk I L r) 4 127 k (i32 1) = some (mk (up I 127 k (i32 1)) L r) := mk_pZ1 me_K
theorem me_r0 {r : Bool} : R0 r 127 0 = 4 + 1 := by cases r <;> decide +kernel
theorem me_fR0 {I : Nat → Nat → Int32} {L : Nat → Nat → Int64} {r : Bool} : fR (mk I L r) 4 127 0 = some 4 := mk_fR me_K me_r0
theorem rm_K : K0 128 = 7 := by decide +kernel
theorem rm_k {I : Nat → Nat → Int32} {L : Nat → Nat → Int64} {r : Bool} : mK (mk I L r) 128 = 7 := rm_K
theorem rm_fI {I : Nat → Nat → Int32} {L : Nat → Nat → Int64} {r : Bool} {k : Nat} : fI (mk I L r) 6 128 k = some (I 128 k) := mk_fI rm_K
theorem rm_fL {I : Nat → Nat → Int32} {L : Nat → Nat → Int64} {r : Bool} {k : Nat} : fL (mk I L r) 6 128 k = some (L 128 k) := mk_fL rm_K
theorem rm_pI {I : Nat → Nat → Int32} {L : Nat → Nat → Int64} {r : Bool} {k : Nat} {v : Int32} : pI (mk I L r) 6 128 k v = some (mk (up I 128 k v) L r) := mk_pI rm_K
theorem rm_pL {I : Nat → Nat → Int32} {L : Nat → Nat → Int64} {r : Bool} {k : Nat} {w : Int64} : pL (mk I L r) 6 128 k w = some (mk I (upL L 128 k w) r) := mk_pL rm_K
theorem rm_z0 {I : Nat → Nat → Int32} {L : Nat → Nat → Int64} {r : Bool} {k : Nat} : pZ (mk I L r) 6 128 k (i32 0) = some (mk (up I 128 k (i32 0)) L r) := mk_pZ0 rm_K
theorem rm_z1 {I : Nat → Nat → Int32} {L : Nat → Nat → Int64} {r : Bool} {k : Nat} : pZ (mk I L r) 6 128 k (i32 1) = some (mk (up I 128 k (i32 1)) L r) := mk_pZ1 rm_K
theorem rm_r0 {r : Bool} : R0 r 128 0 = 4 + 1 := by cases r <;> decide +kernel
theorem rm_fR0 {I : Nat → Nat → Int32} {L : Nat → Nat → Int64} {r : Bool} : fR (mk I L r) 6 128 0 = some 4 := mk_fR rm_K rm_r0
theorem rm_r1 {r : Bool} : R0 r 128 1 = 129 + 1 := by cases r <;> decide +kernel
theorem rm_fR1 {I : Nat → Nat → Int32} {L : Nat → Nat → Int64} {r : Bool} : fR (mk I L r) 6 128 1 = some 129 := mk_fR rm_K rm_r1
theorem rm1_K : K0 129 = 20 := by decide +kernel
theorem rm1_N : N0 129 = 6 := by decide +kernel
theorem rm1_a {I : Nat → Nat → Int32} {L : Nat → Nat → Int64} {r : Bool} {k : Nat} (hk : k < 6) : aI (mk I L r) 129 (i32 k) = some (I 129 k) := mk_aI rm1_K rm1_N hk (by decide)
theorem rm1_t {I : Nat → Nat → Int32} {L : Nat → Nat → Int64} {r : Bool} {k : Nat} {v : Int32} (hk : k < 6) : tI (mk I L r) 129 (i32 k) v = some (mk (up I 129 k v) L r) := mk_tI rm1_K rm1_N hk (by decide)
theorem rm1_n {I : Nat → Nat → Int32} {L : Nat → Nat → Int64} {r : Bool} : nA (mk I L r) 129 = some (i32 6) := mk_nA (by rw [rm1_K]; decide) rm1_N
theorem rm_r2 {r : Bool} : R0 r 128 2 = 130 + 1 := by cases r <;> decide +kernel
theorem rm_fR2 {I : Nat → Nat → Int32} {L : Nat → Nat → Int64} {r : Bool} : fR (mk I L r) 6 128 2 = some 130 := mk_fR rm_K rm_r2
theorem rm2_K : K0 130 = 20 := by decide +kernel
theorem rm2_N : N0 130 = 6 := by decide +kernel
theorem rm2_a {I : Nat → Nat → Int32} {L : Nat → Nat → Int64} {r : Bool} {k : Nat} (hk : k < 6) : aI (mk I L r) 130 (i32 k) = some (I 130 k) := mk_aI rm2_K rm2_N hk (by decide)
theorem rm2_t {I : Nat → Nat → Int32} {L : Nat → Nat → Int64} {r : Bool} {k : Nat} {v : Int32} (hk : k < 6) : tI (mk I L r) 130 (i32 k) v = some (mk (up I 130 k v) L r) := mk_tI rm2_K rm2_N hk (by decide)
theorem rm2_n {I : Nat → Nat → Int32} {L : Nat → Nat → Int64} {r : Bool} : nA (mk I L r) 130 = some (i32 6) := mk_nA (by rw [rm2_K]; decide) rm2_N
theorem rm_r3 {r : Bool} : R0 r 128 3 = 131 + 1 := by cases r <;> decide +kernel
theorem rm_fR3 {I : Nat → Nat → Int32} {L : Nat → Nat → Int64} {r : Bool} : fR (mk I L r) 6 128 3 = some 131 := mk_fR rm_K rm_r3
theorem rm3_K : K0 131 = 20 := by decide +kernel
theorem rm3_N : N0 131 = 6 := by decide +kernel
theorem rm3_a {I : Nat → Nat → Int32} {L : Nat → Nat → Int64} {r : Bool} {k : Nat} (hk : k < 6) : aI (mk I L r) 131 (i32 k) = some (I 131 k) := mk_aI rm3_K rm3_N hk (by decide)
theorem rm3_t {I : Nat → Nat → Int32} {L : Nat → Nat → Int64} {r : Bool} {k : Nat} {v : Int32} (hk : k < 6) : tI (mk I L r) 131 (i32 k) v = some (mk (up I 131 k v) L r) := mk_tI rm3_K rm3_N hk (by decide)
theorem rm3_n {I : Nat → Nat → Int32} {L : Nat → Nat → Int64} {r : Bool} : nA (mk I L r) 131 = some (i32 6) := mk_nA (by rw [rm3_K]; decide) rm3_N
theorem dr_K : K0 132 = 3 := by decide +kernel
theorem dr_k {I : Nat → Nat → Int32} {L : Nat → Nat → Int64} {r : Bool} : mK (mk I L r) 132 = 3 := dr_K
theorem dr_fI {I : Nat → Nat → Int32} {L : Nat → Nat → Int64} {r : Bool} {k : Nat} : fI (mk I L r) 2 132 k = some (I 132 k) := mk_fI dr_K
theorem dr_fL {I : Nat → Nat → Int32} {L : Nat → Nat → Int64} {r : Bool} {k : Nat} : fL (mk I L r) 2 132 k = some (L 132 k) := mk_fL dr_K
theorem dr_pI {I : Nat → Nat → Int32} {L : Nat → Nat → Int64} {r : Bool} {k : Nat} {v : Int32} : pI (mk I L r) 2 132 k v = some (mk (up I 132 k v) L r) := mk_pI dr_K
theorem dr_pL {I : Nat → Nat → Int32} {L : Nat → Nat → Int64} {r : Bool} {k : Nat} {w : Int64} : pL (mk I L r) 2 132 k w = some (mk I (upL L 132 k w) r) := mk_pL dr_K
theorem dr_z0 {I : Nat → Nat → Int32} {L : Nat → Nat → Int64} {r : Bool} {k : Nat} : pZ (mk I L r) 2 132 k (i32 0) = some (mk (up I 132 k (i32 0)) L r) := mk_pZ0 dr_K
theorem dr_z1 {I : Nat → Nat → Int32} {L : Nat → Nat → Int64} {r : Bool} {k : Nat} : pZ (mk I L r) 2 132 k (i32 1) = some (mk (up I 132 k (i32 1)) L r) := mk_pZ1 dr_K
theorem dr_r0 {r : Bool} : R0 r 132 0 = 4 + 1 := by cases r <;> decide +kernel
theorem dr_fR0 {I : Nat → Nat → Int32} {L : Nat → Nat → Int64} {r : Bool} : fR (mk I L r) 2 132 0 = some 4 := mk_fR dr_K dr_r0
theorem x0_K : K0 0 = 11 := by decide +kernel
theorem x0_k {I : Nat → Nat → Int32} {L : Nat → Nat → Int64} {r : Bool} : mK (mk I L r) 0 = 11 := x0_K
theorem x0_fI {I : Nat → Nat → Int32} {L : Nat → Nat → Int64} {r : Bool} {k : Nat} : fI (mk I L r) 10 0 k = some (I 0 k) := mk_fI x0_K
theorem x0_fL {I : Nat → Nat → Int32} {L : Nat → Nat → Int64} {r : Bool} {k : Nat} : fL (mk I L r) 10 0 k = some (L 0 k) := mk_fL x0_K
theorem x0_pI {I : Nat → Nat → Int32} {L : Nat → Nat → Int64} {r : Bool} {k : Nat} {v : Int32} : pI (mk I L r) 10 0 k v = some (mk (up I 0 k v) L r) := mk_pI x0_K
theorem x0_pL {I : Nat → Nat → Int32} {L : Nat → Nat → Int64} {r : Bool} {k : Nat} {w : Int64} : pL (mk I L r) 10 0 k w = some (mk I (upL L 0 k w) r) := mk_pL x0_K
theorem x0_z0 {I : Nat → Nat → Int32} {L : Nat → Nat → Int64} {r : Bool} {k : Nat} : pZ (mk I L r) 10 0 k (i32 0) = some (mk (up I 0 k (i32 0)) L r) := mk_pZ0 x0_K
theorem x0_z1 {I : Nat → Nat → Int32} {L : Nat → Nat → Int64} {r : Bool} {k : Nat} : pZ (mk I L r) 10 0 k (i32 1) = some (mk (up I 0 k (i32 1)) L r) := mk_pZ1 x0_K
theorem x0_r0 {r : Bool} : R0 r 0 0 = 1 + 1 := by cases r <;> decide +kernel
theorem x0_fR0 {I : Nat → Nat → Int32} {L : Nat → Nat → Int64} {r : Bool} : fR (mk I L r) 10 0 0 = some 1 := mk_fR x0_K x0_r0
theorem x0_r1 {r : Bool} : R0 r 0 1 = 4 + 1 := by cases r <;> decide +kernel
theorem x0_fR1 {I : Nat → Nat → Int32} {L : Nat → Nat → Int64} {r : Bool} : fR (mk I L r) 10 0 1 = some 4 := mk_fR x0_K x0_r1
theorem x0_r2 {r : Bool} : R0 r 0 2 = 15 + 1 := by cases r <;> decide +kernel
theorem x0_fR2 {I : Nat → Nat → Int32} {L : Nat → Nat → Int64} {r : Bool} : fR (mk I L r) 10 0 2 = some 15 := mk_fR x0_K x0_r2
theorem x0_r3 {r : Bool} : R0 r 0 3 = 26 + 1 := by cases r <;> decide +kernel
theorem x0_fR3 {I : Nat → Nat → Int32} {L : Nat → Nat → Int64} {r : Bool} : fR (mk I L r) 10 0 3 = some 26 := mk_fR x0_K x0_r3
theorem x0_r4 {r : Bool} : R0 r 0 4 = 34 + 1 := by cases r <;> decide +kernel
theorem x0_fR4 {I : Nat → Nat → Int32} {L : Nat → Nat → Int64} {r : Bool} : fR (mk I L r) 10 0 4 = some 34 := mk_fR x0_K x0_r4
theorem x0_r5 {r : Bool} : R0 r 0 5 = 42 + 1 := by cases r <;> decide +kernel
theorem x0_fR5 {I : Nat → Nat → Int32} {L : Nat → Nat → Int64} {r : Bool} : fR (mk I L r) 10 0 5 = some 42 := mk_fR x0_K x0_r5
theorem x0_r6 {r : Bool} : R0 r 0 6 = 108 + 1 := by cases r <;> decide +kernel
theorem x0_fR6 {I : Nat → Nat → Int32} {L : Nat → Nat → Int64} {r : Bool} : fR (mk I L r) 10 0 6 = some 108 := mk_fR x0_K x0_r6
theorem x0_r7 {r : Bool} : R0 r 0 7 = 114 + 1 := by cases r <;> decide +kernel
theorem x0_fR7 {I : Nat → Nat → Int32} {L : Nat → Nat → Int64} {r : Bool} : fR (mk I L r) 10 0 7 = some 114 := mk_fR x0_K x0_r7
theorem x0_r8 {r : Bool} : R0 r 0 8 = 119 + 1 := by cases r <;> decide +kernel
theorem x0_fR8 {I : Nat → Nat → Int32} {L : Nat → Nat → Int64} {r : Bool} : fR (mk I L r) 10 0 8 = some 119 := mk_fR x0_K x0_r8
theorem x0_r9 {r : Bool} : R0 r 0 9 = 124 + 1 := by cases r <;> decide +kernel
theorem x0_fR9 {I : Nat → Nat → Int32} {L : Nat → Nat → Int64} {r : Bool} : fR (mk I L r) 10 0 9 = some 124 := mk_fR x0_K x0_r9
theorem x0_r10 {r : Bool} : R0 r 0 10 = 127 + 1 := by cases r <;> decide +kernel
theorem x0_fR10 {I : Nat → Nat → Int32} {L : Nat → Nat → Int64} {r : Bool} : fR (mk I L r) 10 0 10 = some 127 := mk_fR x0_K x0_r10
theorem x0_r11 {r : Bool} : R0 r 0 11 = 128 + 1 := by cases r <;> decide +kernel
theorem x0_fR11 {I : Nat → Nat → Int32} {L : Nat → Nat → Int64} {r : Bool} : fR (mk I L r) 10 0 11 = some 128 := mk_fR x0_K x0_r11
theorem x0_r12 {r : Bool} : R0 r 0 12 = 132 + 1 := by cases r <;> decide +kernel
theorem x0_fR12 {I : Nat → Nat → Int32} {L : Nat → Nat → Int64} {r : Bool} : fR (mk I L r) 10 0 12 = some 132 := mk_fR x0_K x0_r12
theorem x0_r13 {r : Bool} : R0 r 0 13 = 133 + 1 := by cases r <;> decide +kernel
theorem x0_fR13 {I : Nat → Nat → Int32} {L : Nat → Nat → Int64} {r : Bool} : fR (mk I L r) 10 0 13 = some 133 := mk_fR x0_K x0_r13
theorem x013_K : K0 133 = 20 := by decide +kernel
theorem x013_N : N0 133 = 20 := by decide +kernel
theorem x013_a {I : Nat → Nat → Int32} {L : Nat → Nat → Int64} {r : Bool} {k : Nat} (hk : k < 20) : aI (mk I L r) 133 (i32 k) = some (I 133 k) := mk_aI x013_K x013_N hk (by decide)
theorem x013_t {I : Nat → Nat → Int32} {L : Nat → Nat → Int64} {r : Bool} {k : Nat} {v : Int32} (hk : k < 20) : tI (mk I L r) 133 (i32 k) v = some (mk (up I 133 k v) L r) := mk_tI x013_K x013_N hk (by decide)
theorem x013_n {I : Nat → Nat → Int32} {L : Nat → Nat → Int64} {r : Bool} : nA (mk I L r) 133 = some (i32 20) := mk_nA (by rw [x013_K]; decide) x013_N
theorem x0_r15 {r : Bool} : R0 r 0 15 = 134 + 1 := by cases r <;> decide +kernel
theorem x0_fR15 {I : Nat → Nat → Int32} {L : Nat → Nat → Int64} {r : Bool} : fR (mk I L r) 10 0 15 = some 134 := mk_fR x0_K x0_r15
theorem x0_r16 {r : Bool} : R0 r 0 16 = 135 + 1 := by cases r <;> decide +kernel
theorem x0_fR16 {I : Nat → Nat → Int32} {L : Nat → Nat → Int64} {r : Bool} : fR (mk I L r) 10 0 16 = some 135 := mk_fR x0_K x0_r16
theorem x0_r17 {r : Bool} : R0 r 0 17 = 136 + 1 := by cases r <;> decide +kernel
theorem x0_fR17 {I : Nat → Nat → Int32} {L : Nat → Nat → Int64} {r : Bool} : fR (mk I L r) 10 0 17 = some 136 := mk_fR x0_K x0_r17
theorem x0_r18 {r : Bool} : R0 r 0 18 = 137 + 1 := by cases r <;> decide +kernel
theorem x0_fR18 {I : Nat → Nat → Int32} {L : Nat → Nat → Int64} {r : Bool} : fR (mk I L r) 10 0 18 = some 137 := mk_fR x0_K x0_r18
theorem x018_K : K0 137 = 22 := by decide +kernel
theorem x018_N : N0 137 = 2 := by decide +kernel
theorem x018_a {I : Nat → Nat → Int32} {L : Nat → Nat → Int64} {r : Bool} {k : Nat} (hk : k < 2) : aZ (mk I L r) 137 (i32 k) = some (I 137 k) := mk_aZ x018_K x018_N hk (by decide)
theorem x018_t {I : Nat → Nat → Int32} {L : Nat → Nat → Int64} {r : Bool} {k : Nat} (hk : k < 2) : tZ (mk I L r) 137 (i32 k) (i32 1) = some (mk (up I 137 k (i32 1)) L r) := mk_tZ1 x018_K x018_N hk (by decide)
theorem x018_n {I : Nat → Nat → Int32} {L : Nat → Nat → Int64} {r : Bool} : nA (mk I L r) 137 = some (i32 2) := mk_nA (by rw [x018_K]; decide) x018_N
theorem mo_K : K0 186 = 12 := by decide +kernel
theorem mo_k {I : Nat → Nat → Int32} {L : Nat → Nat → Int64} {r : Bool} : mK (mk I L r) 186 = 12 := mo_K
theorem mo_fI {I : Nat → Nat → Int32} {L : Nat → Nat → Int64} {r : Bool} {k : Nat} : fI (mk I L r) 11 186 k = some (I 186 k) := mk_fI mo_K
theorem mo_fL {I : Nat → Nat → Int32} {L : Nat → Nat → Int64} {r : Bool} {k : Nat} : fL (mk I L r) 11 186 k = some (L 186 k) := mk_fL mo_K
theorem mo_pI {I : Nat → Nat → Int32} {L : Nat → Nat → Int64} {r : Bool} {k : Nat} {v : Int32} : pI (mk I L r) 11 186 k v = some (mk (up I 186 k v) L r) := mk_pI mo_K
theorem mo_pL {I : Nat → Nat → Int32} {L : Nat → Nat → Int64} {r : Bool} {k : Nat} {w : Int64} : pL (mk I L r) 11 186 k w = some (mk I (upL L 186 k w) r) := mk_pL mo_K
theorem mo_z0 {I : Nat → Nat → Int32} {L : Nat → Nat → Int64} {r : Bool} {k : Nat} : pZ (mk I L r) 11 186 k (i32 0) = some (mk (up I 186 k (i32 0)) L r) := mk_pZ0 mo_K
theorem mo_z1 {I : Nat → Nat → Int32} {L : Nat → Nat → Int64} {r : Bool} {k : Nat} : pZ (mk I L r) 11 186 k (i32 1) = some (mk (up I 186 k (i32 1)) L r) := mk_pZ1 mo_K
theorem mo_r1 {r : Bool} : R0 r 186 1 = 187 + 1 := by cases r <;> decide +kernel
theorem mo_fR1 {I : Nat → Nat → Int32} {L : Nat → Nat → Int64} {r : Bool} : fR (mk I L r) 11 186 1 = some 187 := mk_fR mo_K mo_r1
theorem mo1_K : K0 187 = 20 := by decide +kernel
theorem mo1_N : N0 187 = 940 := by decide +kernel
theorem mo1_a {I : Nat → Nat → Int32} {L : Nat → Nat → Int64} {r : Bool} {k : Nat} (hk : k < 940) : aI (mk I L r) 187 (i32 k) = some (I 187 k) := mk_aI mo1_K mo1_N hk (by decide)
theorem mo1_t {I : Nat → Nat → Int32} {L : Nat → Nat → Int64} {r : Bool} {k : Nat} {v : Int32} (hk : k < 940) : tI (mk I L r) 187 (i32 k) v = some (mk (up I 187 k v) L r) := mk_tI mo1_K mo1_N hk (by decide)
theorem mo1_n {I : Nat → Nat → Int32} {L : Nat → Nat → Int64} {r : Bool} : nA (mk I L r) 187 = some (i32 940) := mk_nA (by rw [mo1_K]; decide) mo1_N
theorem mo_r14 {r : Bool} : R0 r 186 14 = 188 + 1 := by cases r <;> decide +kernel
theorem mo_fR14 {I : Nat → Nat → Int32} {L : Nat → Nat → Int64} {r : Bool} : fR (mk I L r) 11 186 14 = some 188 := mk_fR mo_K mo_r14
theorem mo14_K : K0 188 = 20 := by decide +kernel
theorem mo14_N : N0 188 = 441 := by decide +kernel
theorem mo14_a {I : Nat → Nat → Int32} {L : Nat → Nat → Int64} {r : Bool} {k : Nat} (hk : k < 441) : aI (mk I L r) 188 (i32 k) = some (I 188 k) := mk_aI mo14_K mo14_N hk (by decide)
theorem mo14_t {I : Nat → Nat → Int32} {L : Nat → Nat → Int64} {r : Bool} {k : Nat} {v : Int32} (hk : k < 441) : tI (mk I L r) 188 (i32 k) v = some (mk (up I 188 k v) L r) := mk_tI mo14_K mo14_N hk (by decide)
theorem mo14_n {I : Nat → Nat → Int32} {L : Nat → Nat → Int64} {r : Bool} : nA (mk I L r) 188 = some (i32 441) := mk_nA (by rw [mo14_K]; decide) mo14_N
theorem mo_r15 {r : Bool} : R0 r 186 15 = 189 + 1 := by cases r <;> decide +kernel
theorem mo_fR15 {I : Nat → Nat → Int32} {L : Nat → Nat → Int64} {r : Bool} : fR (mk I L r) 11 186 15 = some 189 := mk_fR mo_K mo_r15
theorem mo15_K : K0 189 = 20 := by decide +kernel
theorem mo15_N : N0 189 = 35 := by decide +kernel
theorem mo15_a {I : Nat → Nat → Int32} {L : Nat → Nat → Int64} {r : Bool} {k : Nat} (hk : k < 35) : aI (mk I L r) 189 (i32 k) = some (I 189 k) := mk_aI mo15_K mo15_N hk (by decide)
theorem mo15_t {I : Nat → Nat → Int32} {L : Nat → Nat → Int64} {r : Bool} {k : Nat} {v : Int32} (hk : k < 35) : tI (mk I L r) 189 (i32 k) v = some (mk (up I 189 k v) L r) := mk_tI mo15_K mo15_N hk (by decide)
theorem mo15_n {I : Nat → Nat → Int32} {L : Nat → Nat → Int64} {r : Bool} : nA (mk I L r) 189 = some (i32 35) := mk_nA (by rw [mo15_K]; decide) mo15_N
theorem mo_r16 {r : Bool} : R0 r 186 16 = 190 + 1 := by cases r <;> decide +kernel
theorem mo_fR16 {I : Nat → Nat → Int32} {L : Nat → Nat → Int64} {r : Bool} : fR (mk I L r) 11 186 16 = some 190 := mk_fR mo_K mo_r16
theorem mo16_K : K0 190 = 20 := by decide +kernel
theorem mo16_N : N0 190 = 882 := by decide +kernel
theorem mo16_a {I : Nat → Nat → Int32} {L : Nat → Nat → Int64} {r : Bool} {k : Nat} (hk : k < 882) : aI (mk I L r) 190 (i32 k) = some (I 190 k) := mk_aI mo16_K mo16_N hk (by decide)
theorem mo16_t {I : Nat → Nat → Int32} {L : Nat → Nat → Int64} {r : Bool} {k : Nat} {v : Int32} (hk : k < 882) : tI (mk I L r) 190 (i32 k) v = some (mk (up I 190 k v) L r) := mk_tI mo16_K mo16_N hk (by decide)
theorem mo16_n {I : Nat → Nat → Int32} {L : Nat → Nat → Int64} {r : Bool} : nA (mk I L r) 190 = some (i32 882) := mk_nA (by rw [mo16_K]; decide) mo16_N
theorem mo_r17 {r : Bool} : R0 r 186 17 = 191 + 1 := by cases r <;> decide +kernel
theorem mo_fR17 {I : Nat → Nat → Int32} {L : Nat → Nat → Int64} {r : Bool} : fR (mk I L r) 11 186 17 = some 191 := mk_fR mo_K mo_r17
theorem mo17_K : K0 191 = 20 := by decide +kernel
theorem mo17_N : N0 191 = 1312 := by decide +kernel
theorem mo17_a {I : Nat → Nat → Int32} {L : Nat → Nat → Int64} {r : Bool} {k : Nat} (hk : k < 1312) : aI (mk I L r) 191 (i32 k) = some (I 191 k) := mk_aI mo17_K mo17_N hk (by decide)
theorem mo17_t {I : Nat → Nat → Int32} {L : Nat → Nat → Int64} {r : Bool} {k : Nat} {v : Int32} (hk : k < 1312) : tI (mk I L r) 191 (i32 k) v = some (mk (up I 191 k v) L r) := mk_tI mo17_K mo17_N hk (by decide)
theorem mo17_n {I : Nat → Nat → Int32} {L : Nat → Nat → Int64} {r : Bool} : nA (mk I L r) 191 = some (i32 1312) := mk_nA (by rw [mo17_K]; decide) mo17_N
theorem mo_r18 {r : Bool} : R0 r 186 18 = 192 + 1 := by cases r <;> decide +kernel
theorem mo_fR18 {I : Nat → Nat → Int32} {L : Nat → Nat → Int64} {r : Bool} : fR (mk I L r) 11 186 18 = some 192 := mk_fR mo_K mo_r18
theorem mo18_K : K0 192 = 20 := by decide +kernel
theorem mo18_N : N0 192 = 164 := by decide +kernel
theorem mo18_a {I : Nat → Nat → Int32} {L : Nat → Nat → Int64} {r : Bool} {k : Nat} (hk : k < 164) : aI (mk I L r) 192 (i32 k) = some (I 192 k) := mk_aI mo18_K mo18_N hk (by decide)
theorem mo18_t {I : Nat → Nat → Int32} {L : Nat → Nat → Int64} {r : Bool} {k : Nat} {v : Int32} (hk : k < 164) : tI (mk I L r) 192 (i32 k) v = some (mk (up I 192 k v) L r) := mk_tI mo18_K mo18_N hk (by decide)
theorem mo18_n {I : Nat → Nat → Int32} {L : Nat → Nat → Int64} {r : Bool} : nA (mk I L r) 192 = some (i32 164) := mk_nA (by rw [mo18_K]; decide) mo18_N
theorem mo_r19 {r : Bool} : R0 r 186 19 = 193 + 1 := by cases r <;> decide +kernel
theorem mo_fR19 {I : Nat → Nat → Int32} {L : Nat → Nat → Int64} {r : Bool} : fR (mk I L r) 11 186 19 = some 193 := mk_fR mo_K mo_r19
theorem mo19_K : K0 193 = 21 := by decide +kernel
theorem mo19_N : N0 193 = 16 := by decide +kernel
theorem mo19_a {I : Nat → Nat → Int32} {L : Nat → Nat → Int64} {r : Bool} {k : Nat} (hk : k < 16) : aL (mk I L r) 193 (i32 k) = some (L 193 k) := mk_aL mo19_K mo19_N hk (by decide)
theorem mo19_t {I : Nat → Nat → Int32} {L : Nat → Nat → Int64} {r : Bool} {k : Nat} {w : Int64} (hk : k < 16) : tL (mk I L r) 193 (i32 k) w = some (mk I (upL L 193 k w) r) := mk_tL mo19_K mo19_N hk (by decide)
theorem mo19_n {I : Nat → Nat → Int32} {L : Nat → Nat → Int64} {r : Bool} : nA (mk I L r) 193 = some (i32 16) := mk_nA (by rw [mo19_K]; decide) mo19_N
theorem mo_r20 {r : Bool} : R0 r 186 20 = 194 + 1 := by cases r <;> decide +kernel
theorem mo_fR20 {I : Nat → Nat → Int32} {L : Nat → Nat → Int64} {r : Bool} : fR (mk I L r) 11 186 20 = some 194 := mk_fR mo_K mo_r20
theorem mo20_K : K0 194 = 21 := by decide +kernel
theorem mo20_N : N0 194 = 16 := by decide +kernel
theorem mo20_a {I : Nat → Nat → Int32} {L : Nat → Nat → Int64} {r : Bool} {k : Nat} (hk : k < 16) : aL (mk I L r) 194 (i32 k) = some (L 194 k) := mk_aL mo20_K mo20_N hk (by decide)
theorem mo20_t {I : Nat → Nat → Int32} {L : Nat → Nat → Int64} {r : Bool} {k : Nat} {w : Int64} (hk : k < 16) : tL (mk I L r) 194 (i32 k) w = some (mk I (upL L 194 k w) r) := mk_tL mo20_K mo20_N hk (by decide)
theorem mo20_n {I : Nat → Nat → Int32} {L : Nat → Nat → Int64} {r : Bool} : nA (mk I L r) 194 = some (i32 16) := mk_nA (by rw [mo20_K]; decide) mo20_N
theorem mo_r21 {r : Bool} : R0 r 186 21 = 195 + 1 := by cases r <;> decide +kernel
theorem mo_fR21 {I : Nat → Nat → Int32} {L : Nat → Nat → Int64} {r : Bool} : fR (mk I L r) 11 186 21 = some 195 := mk_fR mo_K mo_r21
theorem mo21_K : K0 195 = 21 := by decide +kernel
theorem mo21_N : N0 195 = 32 := by decide +kernel
theorem mo21_a {I : Nat → Nat → Int32} {L : Nat → Nat → Int64} {r : Bool} {k : Nat} (hk : k < 32) : aL (mk I L r) 195 (i32 k) = some (L 195 k) := mk_aL mo21_K mo21_N hk (by decide)
theorem mo21_t {I : Nat → Nat → Int32} {L : Nat → Nat → Int64} {r : Bool} {k : Nat} {w : Int64} (hk : k < 32) : tL (mk I L r) 195 (i32 k) w = some (mk I (upL L 195 k w) r) := mk_tL mo21_K mo21_N hk (by decide)
theorem mo21_n {I : Nat → Nat → Int32} {L : Nat → Nat → Int64} {r : Bool} : nA (mk I L r) 195 = some (i32 32) := mk_nA (by rw [mo21_K]; decide) mo21_N
theorem mo_r22 {r : Bool} : R0 r 186 22 = 196 + 1 := by cases r <;> decide +kernel
theorem mo_fR22 {I : Nat → Nat → Int32} {L : Nat → Nat → Int64} {r : Bool} : fR (mk I L r) 11 186 22 = some 196 := mk_fR mo_K mo_r22
theorem mo22_K : K0 196 = 22 := by decide +kernel
theorem mo22_N : N0 196 = 2 := by decide +kernel
theorem mo22_a {I : Nat → Nat → Int32} {L : Nat → Nat → Int64} {r : Bool} {k : Nat} (hk : k < 2) : aZ (mk I L r) 196 (i32 k) = some (I 196 k) := mk_aZ mo22_K mo22_N hk (by decide)
theorem mo22_t {I : Nat → Nat → Int32} {L : Nat → Nat → Int64} {r : Bool} {k : Nat} (hk : k < 2) : tZ (mk I L r) 196 (i32 k) (i32 1) = some (mk (up I 196 k (i32 1)) L r) := mk_tZ1 mo22_K mo22_N hk (by decide)
theorem mo22_n {I : Nat → Nat → Int32} {L : Nat → Nat → Int64} {r : Bool} : nA (mk I L r) 196 = some (i32 2) := mk_nA (by rw [mo22_K]; decide) mo22_N
theorem mo_r25 {r : Bool} : R0 r 186 25 = 197 + 1 := by cases r <;> decide +kernel
theorem mo_fR25 {I : Nat → Nat → Int32} {L : Nat → Nat → Int64} {r : Bool} : fR (mk I L r) 11 186 25 = some 197 := mk_fR mo_K mo_r25
theorem mo25_K : K0 197 = 20 := by decide +kernel
theorem mo25_N : N0 197 = 9537 := by decide +kernel
theorem mo25_a {I : Nat → Nat → Int32} {L : Nat → Nat → Int64} {r : Bool} {k : Nat} (hk : k < 9537) : aI (mk I L r) 197 (i32 k) = some (I 197 k) := mk_aI mo25_K mo25_N hk (by decide)
theorem mo25_t {I : Nat → Nat → Int32} {L : Nat → Nat → Int64} {r : Bool} {k : Nat} {v : Int32} (hk : k < 9537) : tI (mk I L r) 197 (i32 k) v = some (mk (up I 197 k v) L r) := mk_tI mo25_K mo25_N hk (by decide)
theorem mo25_n {I : Nat → Nat → Int32} {L : Nat → Nat → Int64} {r : Bool} : nA (mk I L r) 197 = some (i32 9537) := mk_nA (by rw [mo25_K]; decide) mo25_N
theorem mo_r26 {r : Bool} : R0 r 186 26 = 198 + 1 := by cases r <;> decide +kernel
theorem mo_fR26 {I : Nat → Nat → Int32} {L : Nat → Nat → Int64} {r : Bool} : fR (mk I L r) 11 186 26 = some 198 := mk_fR mo_K mo_r26
theorem mo26_K : K0 198 = 20 := by decide +kernel
theorem mo26_N : N0 198 = 3 := by decide +kernel
theorem mo26_a {I : Nat → Nat → Int32} {L : Nat → Nat → Int64} {r : Bool} {k : Nat} (hk : k < 3) : aI (mk I L r) 198 (i32 k) = some (I 198 k) := mk_aI mo26_K mo26_N hk (by decide)
theorem mo26_t {I : Nat → Nat → Int32} {L : Nat → Nat → Int64} {r : Bool} {k : Nat} {v : Int32} (hk : k < 3) : tI (mk I L r) 198 (i32 k) v = some (mk (up I 198 k v) L r) := mk_tI mo26_K mo26_N hk (by decide)
theorem mo26_n {I : Nat → Nat → Int32} {L : Nat → Nat → Int64} {r : Bool} : nA (mk I L r) 198 = some (i32 3) := mk_nA (by rw [mo26_K]; decide) mo26_N
theorem mo_r28 {r : Bool} : R0 r 186 28 = 199 + 1 := by cases r <;> decide +kernel
theorem mo_fR28 {I : Nat → Nat → Int32} {L : Nat → Nat → Int64} {r : Bool} : fR (mk I L r) 11 186 28 = some 199 := mk_fR mo_K mo_r28
theorem mo28_K : K0 199 = 20 := by decide +kernel
theorem mo28_N : N0 199 = 6 := by decide +kernel
theorem mo28_a {I : Nat → Nat → Int32} {L : Nat → Nat → Int64} {r : Bool} {k : Nat} (hk : k < 6) : aI (mk I L r) 199 (i32 k) = some (I 199 k) := mk_aI mo28_K mo28_N hk (by decide)
theorem mo28_t {I : Nat → Nat → Int32} {L : Nat → Nat → Int64} {r : Bool} {k : Nat} {v : Int32} (hk : k < 6) : tI (mk I L r) 199 (i32 k) v = some (mk (up I 199 k v) L r) := mk_tI mo28_K mo28_N hk (by decide)
theorem mo28_n {I : Nat → Nat → Int32} {L : Nat → Nat → Int64} {r : Bool} : nA (mk I L r) 199 = some (i32 6) := mk_nA (by rw [mo28_K]; decide) mo28_N
theorem mo_r29 {r : Bool} : R0 r 186 29 = 200 + 1 := by cases r <;> decide +kernel
theorem mo_fR29 {I : Nat → Nat → Int32} {L : Nat → Nat → Int64} {r : Bool} : fR (mk I L r) 11 186 29 = some 200 := mk_fR mo_K mo_r29
theorem mo29_K : K0 200 = 20 := by decide +kernel
theorem mo29_N : N0 200 = 6 := by decide +kernel
theorem mo29_a {I : Nat → Nat → Int32} {L : Nat → Nat → Int64} {r : Bool} {k : Nat} (hk : k < 6) : aI (mk I L r) 200 (i32 k) = some (I 200 k) := mk_aI mo29_K mo29_N hk (by decide)
theorem mo29_t {I : Nat → Nat → Int32} {L : Nat → Nat → Int64} {r : Bool} {k : Nat} {v : Int32} (hk : k < 6) : tI (mk I L r) 200 (i32 k) v = some (mk (up I 200 k v) L r) := mk_tI mo29_K mo29_N hk (by decide)
theorem mo29_n {I : Nat → Nat → Int32} {L : Nat → Nat → Int64} {r : Bool} : nA (mk I L r) 200 = some (i32 6) := mk_nA (by rw [mo29_K]; decide) mo29_N
theorem mo_r30 {r : Bool} : R0 r 186 30 = 201 + 1 := by cases r <;> decide +kernel
theorem mo_fR30 {I : Nat → Nat → Int32} {L : Nat → Nat → Int64} {r : Bool} : fR (mk I L r) 11 186 30 = some 201 := mk_fR mo_K mo_r30
theorem mo30_K : K0 201 = 20 := by decide +kernel
theorem mo30_N : N0 201 = 6 := by decide +kernel
theorem mo30_a {I : Nat → Nat → Int32} {L : Nat → Nat → Int64} {r : Bool} {k : Nat} (hk : k < 6) : aI (mk I L r) 201 (i32 k) = some (I 201 k) := mk_aI mo30_K mo30_N hk (by decide)
theorem mo30_t {I : Nat → Nat → Int32} {L : Nat → Nat → Int64} {r : Bool} {k : Nat} {v : Int32} (hk : k < 6) : tI (mk I L r) 201 (i32 k) v = some (mk (up I 201 k v) L r) := mk_tI mo30_K mo30_N hk (by decide)
theorem mo30_n {I : Nat → Nat → Int32} {L : Nat → Nat → Int64} {r : Bool} : nA (mk I L r) 201 = some (i32 6) := mk_nA (by rw [mo30_K]; decide) mo30_N
theorem mo_r33 {r : Bool} : R0 r 186 33 = 202 + 1 := by cases r <;> decide +kernel
theorem mo_fR33 {I : Nat → Nat → Int32} {L : Nat → Nat → Int64} {r : Bool} : fR (mk I L r) 11 186 33 = some 202 := mk_fR mo_K mo_r33
theorem mo33_K : K0 202 = 20 := by decide +kernel
theorem mo33_N : N0 202 = 64 := by decide +kernel
theorem mo33_a {I : Nat → Nat → Int32} {L : Nat → Nat → Int64} {r : Bool} {k : Nat} (hk : k < 64) : aI (mk I L r) 202 (i32 k) = some (I 202 k) := mk_aI mo33_K mo33_N hk (by decide)
theorem mo33_t {I : Nat → Nat → Int32} {L : Nat → Nat → Int64} {r : Bool} {k : Nat} {v : Int32} (hk : k < 64) : tI (mk I L r) 202 (i32 k) v = some (mk (up I 202 k v) L r) := mk_tI mo33_K mo33_N hk (by decide)
theorem mo33_n {I : Nat → Nat → Int32} {L : Nat → Nat → Int64} {r : Bool} : nA (mk I L r) 202 = some (i32 64) := mk_nA (by rw [mo33_K]; decide) mo33_N
theorem mo_r36 {r : Bool} : R0 r 186 36 = 203 + 1 := by cases r <;> decide +kernel
theorem mo_fR36 {I : Nat → Nat → Int32} {L : Nat → Nat → Int64} {r : Bool} : fR (mk I L r) 11 186 36 = some 203 := mk_fR mo_K mo_r36
theorem mo36_K : K0 203 = 20 := by decide +kernel
theorem mo36_N : N0 203 = 200 := by decide +kernel
theorem mo36_a {I : Nat → Nat → Int32} {L : Nat → Nat → Int64} {r : Bool} {k : Nat} (hk : k < 200) : aI (mk I L r) 203 (i32 k) = some (I 203 k) := mk_aI mo36_K mo36_N hk (by decide)
theorem mo36_t {I : Nat → Nat → Int32} {L : Nat → Nat → Int64} {r : Bool} {k : Nat} {v : Int32} (hk : k < 200) : tI (mk I L r) 203 (i32 k) v = some (mk (up I 203 k v) L r) := mk_tI mo36_K mo36_N hk (by decide)
theorem mo36_n {I : Nat → Nat → Int32} {L : Nat → Nat → Int64} {r : Bool} : nA (mk I L r) 203 = some (i32 200) := mk_nA (by rw [mo36_K]; decide) mo36_N
theorem mo_r37 {r : Bool} : R0 r 186 37 = 204 + 1 := by cases r <;> decide +kernel
theorem mo_fR37 {I : Nat → Nat → Int32} {L : Nat → Nat → Int64} {r : Bool} : fR (mk I L r) 11 186 37 = some 204 := mk_fR mo_K mo_r37
theorem mo37_K : K0 204 = 20 := by decide +kernel
theorem mo37_N : N0 204 = 4 := by decide +kernel
theorem mo37_a {I : Nat → Nat → Int32} {L : Nat → Nat → Int64} {r : Bool} {k : Nat} (hk : k < 4) : aI (mk I L r) 204 (i32 k) = some (I 204 k) := mk_aI mo37_K mo37_N hk (by decide)
theorem mo37_t {I : Nat → Nat → Int32} {L : Nat → Nat → Int64} {r : Bool} {k : Nat} {v : Int32} (hk : k < 4) : tI (mk I L r) 204 (i32 k) v = some (mk (up I 204 k v) L r) := mk_tI mo37_K mo37_N hk (by decide)
theorem mo37_n {I : Nat → Nat → Int32} {L : Nat → Nat → Int64} {r : Bool} : nA (mk I L r) 204 = some (i32 4) := mk_nA (by rw [mo37_K]; decide) mo37_N
theorem mo_r40 {r : Bool} : R0 r 186 40 = 205 + 1 := by cases r <;> decide +kernel
theorem mo_fR40 {I : Nat → Nat → Int32} {L : Nat → Nat → Int64} {r : Bool} : fR (mk I L r) 11 186 40 = some 205 := mk_fR mo_K mo_r40
theorem mo40_K : K0 205 = 20 := by decide +kernel
theorem mo40_N : N0 205 = 240 := by decide +kernel
theorem mo40_a {I : Nat → Nat → Int32} {L : Nat → Nat → Int64} {r : Bool} {k : Nat} (hk : k < 240) : aI (mk I L r) 205 (i32 k) = some (I 205 k) := mk_aI mo40_K mo40_N hk (by decide)
theorem mo40_t {I : Nat → Nat → Int32} {L : Nat → Nat → Int64} {r : Bool} {k : Nat} {v : Int32} (hk : k < 240) : tI (mk I L r) 205 (i32 k) v = some (mk (up I 205 k v) L r) := mk_tI mo40_K mo40_N hk (by decide)
theorem mo40_n {I : Nat → Nat → Int32} {L : Nat → Nat → Int64} {r : Bool} : nA (mk I L r) 205 = some (i32 240) := mk_nA (by rw [mo40_K]; decide) mo40_N
/-! ===== LOOPS ===== -/
/-- the first k < m with P k -/
def fd (P : Nat → Bool) : Nat → Option Nat
  | 0 => none
  | m + 1 => match fd P m with
    | some k => some k
    | none => if P m then some m else none
def exb (P : Nat → Bool) : Nat → Bool
  | 0 => false
  | m + 1 => exb P m || P m
def allb (P : Nat → Bool) : Nat → Bool
  | 0 => true
  | m + 1 => allb P m && P m
def fo {α : Type} (st : Nat → α → α) (s : α) : Nat → α
  | 0 => s
  | m + 1 => st m (fo st s m)
def bi (b : Bool) : Int32 := if b then i32 1 else i32 0
theorem fd_none {P : Nat → Bool} : ∀ {m : Nat}, fd P m = none ↔ ∀ k, k < m → P k = false := by
  intro m
  induction m with
  | zero => exact ⟨fun _ k h => absurd h (Nat.not_lt_zero k), fun _ => rfl⟩
  | succ m ih =>
    rw [fd]
    cases e : fd P m with
    | some k =>
      refine ⟨fun h => (by cases h), fun h => ?_⟩
      have := ih.mpr (fun k hk => h k (by omega))
      rw [e] at this; cases this
    | none =>
      have h0 := ih.mp e
      cases e2 : P m with
      | true =>
        refine ⟨fun h => (by simp at h), fun h => ?_⟩
        have := h m (by omega); rw [e2] at this; cases this
      | false =>
        refine ⟨fun _ k hk => ?_, fun _ => by simp⟩
        by_cases hkm : k = m
        · rw [hkm]; exact e2
        · exact h0 k (by omega)
theorem fd_some {P : Nat → Bool} {k : Nat} : ∀ {m : Nat}, fd P m = some k ↔ k < m ∧ P k = true ∧ ∀ j, j < k → P j = false := by
  intro m
  induction m with
  | zero => exact ⟨fun h => (by cases h), fun h => absurd h.1 (Nat.not_lt_zero k)⟩
  | succ m ih =>
    rw [fd]
    cases e : fd P m with
    | some q =>
      have hq : q < m ∧ P q = true ∧ ∀ j, j < q → P j = false := by
        refine ⟨?_, ?_, ?_⟩
        · by_cases hh : ∀ j, j < m → P j = false
          · rw [fd_none.mpr hh] at e; cases e
          · exact Classical.byContradiction fun z => by
              revert e; clear ih
              induction m with
              | zero => intro e; cases e
              | succ m ih2 =>
                intro e
                rw [fd] at e
                cases e3 : fd P m with
                | some q3 =>
                  rw [e3] at e
                  have : q3 = q := Option.some.inj e
                  subst this
                  by_cases hh2 : ∀ j, j < m → P j = false
                  · rw [fd_none.mpr hh2] at e3; cases e3
                  · exact ih2 hh2 (by omega) e3
                | none =>
                  rw [e3] at e
                  cases e4 : P m with
                  | true => rw [e4] at e; simp at e; omega
                  | false => rw [e4] at e; simp at e
        · revert e; clear ih
          induction m with
          | zero => intro e; cases e
          | succ m ih2 =>
            intro e
            rw [fd] at e
            cases e3 : fd P m with
            | some q3 => rw [e3] at e; exact ih2 (e3.trans e)
            | none =>
              rw [e3] at e
              cases e4 : P m with
              | true => rw [e4] at e; simp at e; rw [← e]; exact e4
              | false => rw [e4] at e; simp at e
        · revert e; clear ih
          induction m with
          | zero => intro e; cases e
          | succ m ih2 =>
            intro e
            rw [fd] at e
            cases e3 : fd P m with
            | some q3 => rw [e3] at e; exact ih2 (e3.trans e)
            | none =>
              rw [e3] at e
              have h0 := fd_none.mp e3
              cases e4 : P m with
              | true => rw [e4] at e; simp at e; rw [← e]; exact h0
              | false => rw [e4] at e; simp at e
      constructor
      · intro h
        have : q = k := Option.some.inj h
        subst this
        exact ⟨by omega, hq.2⟩
      · intro h
        show some q = some k
        congr 1
        by_cases h1 : q < k
        · have := h.2.2 q h1; rw [hq.2.1] at this; cases this
        · by_cases h2 : k < q
          · have := hq.2.2 k h2; rw [h.2.1] at this; cases this
          · omega
    | none =>
      have h0 := fd_none.mp e
      cases e2 : P m with
      | true =>
        constructor
        · intro h
          have : m = k := Option.some.inj h
          subst this
          exact ⟨by omega, e2, h0⟩
        · intro h
          show some m = some k
          congr 1
          by_cases hkm : k = m
          · exact hkm.symm
          · have := h0 k (by omega); rw [h.2.1] at this; cases this
      | false =>
        constructor
        · intro h; simp at h
        · intro h
          exfalso
          by_cases hkm : k = m
          · subst hkm; rw [h.2.1] at e2; cases e2
          · have := h0 k (by omega); rw [h.2.1] at this; cases this
theorem exb_iff {P : Nat → Bool} : ∀ {m : Nat}, exb P m = true ↔ ∃ k, k < m ∧ P k = true := by
  intro m
  induction m with
  | zero => exact ⟨fun h => (by cases h), fun ⟨k, h, _⟩ => absurd h (Nat.not_lt_zero k)⟩
  | succ m ih =>
    rw [exb, Bool.or_eq_true, ih]
    constructor
    · rintro (⟨k, h, h2⟩ | h)
      · exact ⟨k, by omega, h2⟩
      · exact ⟨m, by omega, h⟩
    · rintro ⟨k, h, h2⟩
      by_cases hk : k = m
      · right; rw [← hk]; exact h2
      · left; exact ⟨k, by omega, h2⟩
theorem exb_false {P : Nat → Bool} {m : Nat} : exb P m = false ↔ ∀ k, k < m → P k = false := by
  constructor
  · intro h k hk
    cases e : P k with
    | false => rfl
    | true => rw [exb_iff.mpr ⟨k, hk, e⟩] at h; cases h
  · intro h
    cases e : exb P m with
    | false => rfl
    | true => obtain ⟨k, hk, e2⟩ := exb_iff.mp e; rw [h k hk] at e2; cases e2
theorem allb_iff {P : Nat → Bool} : ∀ {m : Nat}, allb P m = true ↔ ∀ k, k < m → P k = true := by
  intro m
  induction m with
  | zero => exact ⟨fun _ k h => absurd h (Nat.not_lt_zero k), fun _ => rfl⟩
  | succ m ih =>
    rw [allb, Bool.and_eq_true, ih]
    constructor
    · rintro ⟨h, h2⟩ k hk
      by_cases hkm : k = m
      · rw [hkm]; exact h2
      · exact h k (by omega)
    · intro h; exact ⟨fun k hk => h k (by omega), h m (by omega)⟩
theorem allb_not {P : Nat → Bool} {m : Nat} : allb P m = !(exb (fun k => !(P k)) m) := by
  induction m with
  | zero => rfl
  | succ m ih => rw [allb, exb, ih]; simp
theorem exb_congr {P Q : Nat → Bool} {m : Nat} (h : ∀ k, k < m → P k = Q k) : exb P m = exb Q m := by
  induction m with
  | zero => rfl
  | succ m ih => rw [exb, exb, ih (fun k hk => h k (by omega)), h m (by omega)]
theorem allb_congr {P Q : Nat → Bool} {m : Nat} (h : ∀ k, k < m → P k = Q k) : allb P m = allb Q m := by
  induction m with
  | zero => rfl
  | succ m ih => rw [allb, allb, ih (fun k hk => h k (by omega)), h m (by omega)]
theorem fd_congr {P Q : Nat → Bool} {m : Nat} (h : ∀ k, k < m → P k = Q k) : fd P m = fd Q m := by
  induction m with
  | zero => rfl
  | succ m ih => rw [fd, fd, ih (fun k hk => h k (by omega)), h m (by omega)]
theorem fo_congr {α : Type} {f g : Nat → α → α} {s : α} {m : Nat} (h : ∀ k, k < m → ∀ x, f k x = g k x) : fo f s m = fo g s m := by
  induction m with
  | zero => rfl
  | succ m ih => rw [fo, fo, ih (fun k hk => h k (by omega)), h m (by omega)]
/-- a loop that goes on till the first k with P k -/
theorem lp_fd {ρ : Type} {F : Nat → Int32 → Option ρ} {m : Nat} (P : Nat → Prop) [DecidablePred P] (g : Nat → ρ) (b : ρ)
    (h1 : ∀ n k, k < m → P k → F (n + 1) (i32 k) = some (g k)) (h2 : ∀ n k, k < m → ¬ P k → F (n + 1) (i32 k) = F n (i32 (k + 1)))
    (h3 : ∀ n, F (n + 1) (i32 m) = some b) {n : Nat} (hn : m < n) : F n (i32 0) = some (match fd (fun k => decide (P k)) m with | some k => g k | none => b) := by
  have go : ∀ j, j ≤ m → (∀ i, i < j → ¬ P i) → F n (i32 0) = F (n - j) (i32 j) := by
    intro j
    induction j with
    | zero => intro _ _; rfl
    | succ j ih =>
      intro hj hf
      rw [ih (by omega) (fun i hi => hf i (by omega))]
      have := h2 (n - (j + 1)) j (by omega) (hf j (by omega))
      rw [← this, show n - (j + 1) + 1 = n - j by omega]
  cases e : fd (fun k => decide (P k)) m with
  | none =>
    have h := fd_none.mp e
    rw [go m (Nat.le_refl _) (fun i hi => of_decide_eq_false (h i hi))]
    have := h3 (n - m - 1)
    rw [show n - m - 1 + 1 = n - m by omega] at this
    exact this
  | some k =>
    obtain ⟨ha, hb, hc⟩ := fd_some.mp e
    rw [go k (by omega) (fun i hi => of_decide_eq_false (hc i hi))]
    have := h1 (n - k - 1) k ha (of_decide_eq_true hb)
    rw [show n - k - 1 + 1 = n - k by omega] at this
    exact this
theorem lp_ex {ρ : Type} {F : Nat → Int32 → Option ρ} {m : Nat} (P : Nat → Prop) [DecidablePred P] (a b : ρ)
    (h1 : ∀ n k, k < m → P k → F (n + 1) (i32 k) = some a) (h2 : ∀ n k, k < m → ¬ P k → F (n + 1) (i32 k) = F n (i32 (k + 1)))
    (h3 : ∀ n, F (n + 1) (i32 m) = some b) {n : Nat} (hn : m < n) : F n (i32 0) = some (if exb (fun k => decide (P k)) m then a else b) := by
  rw [lp_fd P (fun _ => a) b h1 h2 h3 hn]
  cases e : fd (fun k => decide (P k)) m with
  | none => rw [exb_false.mpr (fd_none.mp e)]; rfl
  | some k =>
    obtain ⟨ha, hb, hc⟩ := fd_some.mp e
    rw [exb_iff.mpr ⟨k, ha, hb⟩]; rfl
/-- a loop that goes on as long as P k -/
theorem lp_al {ρ : Type} {F : Nat → Int32 → Option ρ} {m : Nat} (P : Nat → Prop) [DecidablePred P] (a b : ρ)
    (h1 : ∀ n k, k < m → ¬ P k → F (n + 1) (i32 k) = some a) (h2 : ∀ n k, k < m → P k → F (n + 1) (i32 k) = F n (i32 (k + 1)))
    (h3 : ∀ n, F (n + 1) (i32 m) = some b) {n : Nat} (hn : m < n) : F n (i32 0) = some (if allb (fun k => decide (P k)) m then b else a) := by
  rw [lp_ex (fun k => ¬ P k) a b h1 (fun n k hk hp => h2 n k hk (Decidable.not_not.mp hp)) h3 hn, allb_not]
  have e : exb (fun k => decide (¬ P k)) m = exb (fun k => !(decide (P k))) m := exb_congr (fun k _ => decide_not)
  rw [e]
  cases exb (fun k => !(decide (P k))) m <;> rfl
theorem bi_if {b : Bool} {M : Mem} : (if b then (i32 1, M) else (i32 0, M)) = (bi b, M) := by cases b <;> rfl
theorem bi_if' {b : Bool} {M : Mem} : (if b = true then (i32 1, M) else (i32 0, M)) = (bi b, M) := by cases b <;> rfl
theorem bi_z {b : Bool} : (bi b = i32 0) ↔ b = false := by cases b <;> decide
theorem bi_o {b : Bool} : (bi b = i32 1) ↔ b = true := by cases b <;> decide
/-- a loop of m steps -/
theorem lp_fo {α ρ : Type} {F : Nat → Int32 → α → Option ρ} {m : Nat} (st : Nat → α → α) (g : α → ρ)
    (h2 : ∀ n k s, k < m → F (n + 1) (i32 k) s = F n (i32 (k + 1)) (st k s)) (h3 : ∀ n s, F (n + 1) (i32 m) s = some (g s)) {n : Nat} (hn : m < n) (s : α) : F n (i32 0) s = some (g (fo st s m)) := by
  have go : ∀ j, j ≤ m → F n (i32 0) s = F (n - j) (i32 j) (fo st s j) := by
    intro j
    induction j with
    | zero => intro _; rfl
    | succ j ih =>
      intro hj
      rw [ih (by omega)]
      have := h2 (n - (j + 1)) j (fo st s j) (by omega)
      rw [fo, ← this, show n - (j + 1) + 1 = n - j by omega]
  rw [go m (Nat.le_refl _)]
  have := h3 (n - m - 1) (fo st s m)
  rw [show n - m - 1 + 1 = n - m by omega] at this
  exact this
/-- a loop with an invariant: at most m steps -/
theorem lp_in {S ρ : Type} {F : Nat → S → Option ρ} {m : Nat} (J : Nat → S → Prop) (Q : ρ → Prop)
    (hs : ∀ n k s, k ≤ m → J k s → (∃ r, F (n + 1) s = some r ∧ Q r) ∨ (k < m ∧ ∃ s', F (n + 1) s = F n s' ∧ J (k + 1) s')) {n : Nat} (hn : m < n) {s : S} (h0 : J 0 s) : ∃ r, F n s = some r ∧ Q r := by
  have go : ∀ d n k s, m - k ≤ d → k ≤ m → m < n + k → J k s → ∃ r, F n s = some r ∧ Q r := by
    intro d
    induction d with
    | zero =>
      intro n k s hd hk hn hJ
      obtain ⟨n', rfl⟩ : ∃ n', n = n' + 1 := ⟨n - 1, by omega⟩
      rcases hs n' k s hk hJ with h | ⟨h, _⟩
      · exact h
      · omega
    | succ d ih =>
      intro n k s hd hk hn hJ
      obtain ⟨n', rfl⟩ : ∃ n', n = n' + 1 := ⟨n - 1, by omega⟩
      rcases hs n' k s hk hJ with h | ⟨h, s', e, hJ'⟩
      · exact h
      · rw [e]; exact ih n' (k + 1) s' (by omega) (by omega) (by omega) hJ'
  exact go m n 0 s (by omega) (by omega) (by omega) h0
/-- a loop of m steps, with an invariant -/
theorem lp_foJ {α ρ : Type} {F : Nat → Int32 → α → Option ρ} {m : Nat} (J : Nat → α → Prop) (st : Nat → α → α) (g : α → ρ)
    (h2 : ∀ n k s, k < m → J k s → F (n + 1) (i32 k) s = F n (i32 (k + 1)) (st k s)) (hJ : ∀ k s, k < m → J k s → J (k + 1) (st k s)) (h3 : ∀ n s, J m s → F (n + 1) (i32 m) s = some (g s)) {n : Nat} (hn : m < n) (s : α) (h0 : J 0 s) : F n (i32 0) s = some (g (fo st s m)) := by
  have go : ∀ j, j ≤ m → F n (i32 0) s = F (n - j) (i32 j) (fo st s j) ∧ J j (fo st s j) := by
    intro j
    induction j with
    | zero => intro _; exact ⟨rfl, h0⟩
    | succ j ih =>
      intro hj
      obtain ⟨e, hj2⟩ := ih (by omega)
      refine ⟨?_, hJ j _ (by omega) hj2⟩
      rw [e]
      have := h2 (n - (j + 1)) j (fo st s j) (by omega) hj2
      rw [fo, ← this, show n - (j + 1) + 1 = n - j by omega]
  obtain ⟨e, hj⟩ := go m (Nat.le_refl _)
  rw [e]
  have := h3 (n - m - 1) (fo st s m) hj
  rw [show n - m - 1 + 1 = n - m by omega] at this
  exact this
/-- a loop of m steps, with an invariant, left at the first k with P k -/
theorem lp_fx {α ρ : Type} {F : Nat → Int32 → α → Option ρ} {m : Nat} (J : Nat → α → Prop) (P : Nat → Prop) [DecidablePred P] (st : Nat → α → α) (e : ρ) (g : α → ρ)
    (h1 : ∀ n k s, k < m → J k s → P k → F (n + 1) (i32 k) s = some e) (h2 : ∀ n k s, k < m → J k s → ¬ P k → F (n + 1) (i32 k) s = F n (i32 (k + 1)) (st k s)) (hJ : ∀ k s, k < m → J k s → ¬ P k → J (k + 1) (st k s)) (h3 : ∀ n s, J m s → F (n + 1) (i32 m) s = some (g s)) {n : Nat} (hn : m < n) (s : α) (h0 : J 0 s) : F n (i32 0) s = some (if exb (fun k => decide (P k)) m then e else g (fo st s m)) := by
  have go : ∀ j, j ≤ m → (∀ i, i < j → ¬ P i) → F n (i32 0) s = F (n - j) (i32 j) (fo st s j) ∧ J j (fo st s j) := by
    intro j
    induction j with
    | zero => intro _ _; exact ⟨rfl, h0⟩
    | succ j ih =>
      intro hj hp
      obtain ⟨e, hj2⟩ := ih (by omega) (fun i hi => hp i (by omega))
      refine ⟨?_, hJ j _ (by omega) hj2 (hp j (by omega))⟩
      rw [e]
      have := h2 (n - (j + 1)) j (fo st s j) (by omega) hj2 (hp j (by omega))
      rw [fo, ← this, show n - (j + 1) + 1 = n - j by omega]
  cases ee : fd (fun k => decide (P k)) m with
  | none =>
    have hh := fd_none.mp ee
    rw [exb_false.mpr hh]
    obtain ⟨e2, hj⟩ := go m (Nat.le_refl _) (fun i hi => of_decide_eq_false (hh i hi))
    rw [e2]
    have := h3 (n - m - 1) (fo st s m) hj
    rw [show n - m - 1 + 1 = n - m by omega] at this
    exact this
  | some k =>
    obtain ⟨ha, hb, hc⟩ := fd_some.mp ee
    rw [exb_iff.mpr ⟨k, ha, hb⟩]
    obtain ⟨e2, hj⟩ := go k (by omega) (fun i hi => of_decide_eq_false (hc i hi))
    rw [e2]
    have := h1 (n - k - 1) k (fo st s k) ha hj (of_decide_eq_true hb)
    rw [show n - k - 1 + 1 = n - k by omega] at this
    exact this
theorem lp_exF {ρ : Type} {F : Nat → Int32 → Option ρ} {m i : Nat} (P : Nat → Prop) [DecidablePred P] (a b : ρ)
    (h1 : ∀ n k, k < m → P k → F (n + 1) (i32 (i + k)) = some a) (h2 : ∀ n k, k < m → ¬ P k → F (n + 1) (i32 (i + k)) = F n (i32 (i + k + 1)))
    (h3 : ∀ n, F (n + 1) (i32 (i + m)) = some b) {n : Nat} (hn : m < n) : F n (i32 i) = some (if exb (fun k => decide (P k)) m then a else b) := by
  have := lp_ex (F := fun n v => F n (i32 i + v)) (m := m) P a b (fun n k hk hP => by rw [i_add]; exact h1 n k hk hP) (fun n k hk hP => by rw [i_add, i_add]; exact h2 n k hk hP) (fun n => by rw [i_add]; exact h3 n) hn
  simp only [i_add] at this
  exact this
theorem lp_fdF {ρ : Type} {F : Nat → Int32 → Option ρ} {m i : Nat} (P : Nat → Prop) [DecidablePred P] (g : Nat → ρ) (b : ρ)
    (h1 : ∀ n k, k < m → P k → F (n + 1) (i32 (i + k)) = some (g k)) (h2 : ∀ n k, k < m → ¬ P k → F (n + 1) (i32 (i + k)) = F n (i32 (i + k + 1)))
    (h3 : ∀ n, F (n + 1) (i32 (i + m)) = some b) {n : Nat} (hn : m < n) : F n (i32 i) = some (match fd (fun k => decide (P k)) m with | some k => g k | none => b) := by
  have := lp_fd (F := fun n v => F n (i32 i + v)) (m := m) P g b (fun n k hk hP => by rw [i_add]; exact h1 n k hk hP) (fun n k hk hP => by rw [i_add, i_add]; exact h2 n k hk hP) (fun n => by rw [i_add]; exact h3 n) hn
  simp only [i_add] at this
  exact this
theorem nar_bi {b : Bool} : vp_nar .boolean (bi b) = bi b := by cases b <;> rfl
theorem nar_0 : vp_nar .boolean (i32 0) = i32 0 := rfl
theorem nar_1 : vp_nar .boolean (i32 1) = i32 1 := rfl
/-- a loop of m steps over a state, by a relation -/
theorem lp_st {α ρ : Type} {F : Nat → Int32 → α → Option ρ} {m : Nat} (R : Nat → α → Prop) (g : α → ρ)
    (h2 : ∀ n k s, k < m → R k s → ∃ s', F (n + 1) (i32 k) s = F n (i32 (k + 1)) s' ∧ R (k + 1) s') (h3 : ∀ n s, R m s → F (n + 1) (i32 m) s = some (g s)) {n : Nat} (hn : m < n) {s : α} (h0 : R 0 s) : ∃ s', F n (i32 0) s = some (g s') ∧ R m s' := by
  have go : ∀ j, j ≤ m → ∃ s', F n (i32 0) s = F (n - j) (i32 j) s' ∧ R j s' := by
    intro j
    induction j with
    | zero => intro _; exact ⟨s, rfl, h0⟩
    | succ j ih =>
      intro hj
      obtain ⟨s1, e, hr⟩ := ih (by omega)
      obtain ⟨s2, e2, hr2⟩ := h2 (n - (j + 1)) j s1 (by omega) hr
      refine ⟨s2, ?_, hr2⟩
      rw [e, ← e2, show n - (j + 1) + 1 = n - j by omega]
  obtain ⟨s1, e, hr⟩ := go m (Nat.le_refl _)
  refine ⟨s1, ?_, hr⟩
  rw [e]
  have := h3 (n - m - 1) s1 hr
  rw [show n - m - 1 + 1 = n - m by omega] at this
  exact this

