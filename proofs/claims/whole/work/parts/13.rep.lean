/-! ===== WHAT IS SO, told apart from both memories ===== -/
/-- H: the head as the reference numbers it (0 bands, 1 writers, 2 laws, 3 tides, 4 lapse, 5.. heights, 11.. widths, 17.. tides, 25.. paces, 29.. laws) -/
def lg (H : Nat → Nat) (l : Nat) : Nat := if 100 ≤ H (29 + l) then 3 else 2
def sg (H : Nat → Nat) (l k : Nat) : Nat := H (29 + l) / 10 ^ (lg H l - 1 - k) % 10
def hOk (H : Nat → Nat) : Prop := H 0 ≤ 6 ∧ H 1 ≤ 4 ∧ H 2 ≤ 6 ∧ H 3 ≤ 8 ∧ 1 ≤ H 4 ∧ H 4 ≤ 30 ∧ (∀ b, b < H 0 → 1 ≤ H (5 + b) ∧ H (5 + b) ≤ 9 ∧ 2 ≤ H (11 + b) ∧ H (11 + b) ≤ 12) ∧ (∀ t, t < H 3 → H (17 + t) ≤ 9) ∧ (∀ w, w < H 1 → 1 ≤ H (25 + w) ∧ H (25 + w) ≤ 9) ∧ (∀ l, l < H 2 → 10 ≤ H (29 + l) ∧ H (29 + l) ≤ 999)
theorem lg_2 {H : Nat → Nat} {l : Nat} : 2 ≤ lg H l := by rw [lg]; split <;> omega
theorem lg_3 {H : Nat → Nat} {l : Nat} : lg H l ≤ 3 := by rw [lg]; split <;> omega
theorem sg_9 {H : Nat → Nat} {l k : Nat} : sg H l k ≤ 9 := by rw [sg]; omega
/-- the count of signs in a band -/
def cn (B : Nat → Int32) (b : Nat) : Nat := fo (fun p s => if B (20 + (12 * b + p)) = n1 then s else s + 1) 0 12
/-- a shore of the class, in the object s -/
def RS (s : Nat) (H : Nat → Nat) (I : Nat → Nat → Int32) : Prop := (I s 0 = i32 (H 0) ∧ I s 6 = i32 (H 1) ∧ I s 9 = i32 (H 2) ∧ I s 4 = i32 (H 3) ∧ I s 14 = i32 (H 4)) ∧ (∀ b, b < H 0 → I (s + 2) b = i32 (H (5 + b))) ∧ (∀ b, b < H 0 → I (s + 3) b = i32 (H (11 + b))) ∧ (∀ t, t < H 3 → I (s + 4) t = i32 (H (17 + t))) ∧ (∀ w, w < H 1 → I (s + 6) w = i32 (H (25 + w))) ∧ (∀ l, l < H 2 → I (s + 8) l = i32 (H (29 + l))) ∧ (∀ l, l < H 2 → I (s + 9) l = i32 (lg H l)) ∧ (∀ l, l < H 2 → ∀ k, k < lg H l → I (s + 10) (l * 3 + k) = i32 (sg H l k))
/-- a beach of the class, in the object a; B: what changes, as the reference numbers it (0 hour, 1 written, 2 strokes, 3 lapsed, 4.. ages, 10.. wrote, 14.. washed, 20.. signs, 92.. hands) -/
def BR (a : Nat) (B : Nat → Int32) (I : Nat → Nat → Int32) : Prop := (I a 9 = B 0 ∧ I a 10 = B 1 ∧ I a 11 = B 2 ∧ I a 8 = B 3) ∧ (∀ l, l < 6 → I (a + 5) l = B (4 + l)) ∧ (∀ w, w < 4 → I (a + 6) w = B (10 + w)) ∧ (∀ b, b < 6 → I (a + 4) b = B (14 + b)) ∧ (∀ i, i < 72 → I (a + 1) i = B (20 + i)) ∧ (∀ i, i < 72 → I (a + 2) i = B (92 + i)) ∧ (∀ b, b < 6 → I (a + 3) b = i32 (cn B b))
/-- the reference's row g, from o on -/
def MB (g : Nat → Int32) (o : Nat) (B : Nat → Int32) : Prop := ∀ k, k < 164 → g (o + k) = B k
def MH (g : Nat → Int32) (o : Nat) (H : Nat → Nat) : Prop := (∀ k, k < 5 → g (o + k) = i32 (H k)) ∧ (∀ b, b < H 0 → g (o + 5 + b) = i32 (H (5 + b))) ∧ (∀ b, b < H 0 → g (o + 11 + b) = i32 (H (11 + b))) ∧ (∀ t, t < H 3 → g (o + 17 + t) = i32 (H (17 + t))) ∧ (∀ w, w < H 1 → g (o + 25 + w) = i32 (H (25 + w))) ∧ (∀ l, l < H 2 → g (o + 29 + l) = i32 (H (29 + l)))
section
variable {H : Nat → Nat} {B : Nat → Int32} {I : Nat → Nat → Int32}
theorem s4_nb (h : RS 4 H I) : I 4 0 = i32 (H 0) := h.1.1
theorem s4_nw (h : RS 4 H I) : I 4 6 = i32 (H 1) := h.1.2.1
theorem s4_nl (h : RS 4 H I) : I 4 9 = i32 (H 2) := h.1.2.2.1
theorem s4_nt (h : RS 4 H I) : I 4 4 = i32 (H 3) := h.1.2.2.2.1
theorem s4_la (h : RS 4 H I) : I 4 14 = i32 (H 4) := h.1.2.2.2.2
theorem s4_ht (h : RS 4 H I) {b : Nat} (hb : b < H 0) : I 6 b = i32 (H (5 + b)) := h.2.1 b hb
theorem s4_wd (h : RS 4 H I) {b : Nat} (hb : b < H 0) : I 7 b = i32 (H (11 + b)) := h.2.2.1 b hb
theorem s4_td (h : RS 4 H I) {t : Nat} (hb : t < H 3) : I 8 t = i32 (H (17 + t)) := h.2.2.2.1 t hb
theorem s4_pc (h : RS 4 H I) {w : Nat} (hb : w < H 1) : I 10 w = i32 (H (25 + w)) := h.2.2.2.2.1 w hb
theorem s4_ln (h : RS 4 H I) {l : Nat} (hb : l < H 2) : I 12 l = i32 (H (29 + l)) := h.2.2.2.2.2.1 l hb
theorem s4_lg (h : RS 4 H I) {l : Nat} (hb : l < H 2) : I 13 l = i32 (lg H l) := h.2.2.2.2.2.2.1 l hb
theorem s4_sg (h : RS 4 H I) {l k : Nat} (hb : l < H 2) (hk : k < lg H l) : I 14 (l * 3 + k) = i32 (sg H l k) := h.2.2.2.2.2.2.2 l hb k hk
theorem be_hr {a : Nat} (h : BR a B I) : I a 9 = B 0 := h.1.1
theorem be_wn {a : Nat} (h : BR a B I) : I a 10 = B 1 := h.1.2.1
theorem be_sk {a : Nat} (h : BR a B I) : I a 11 = B 2 := h.1.2.2.1
theorem be_lp {a : Nat} (h : BR a B I) : I a 8 = B 3 := h.1.2.2.2
theorem be_ag {a : Nat} (h : BR a B I) {l : Nat} (hl : l < 6) : I (a + 5) l = B (4 + l) := h.2.1 l hl
theorem be_wr {a : Nat} (h : BR a B I) {w : Nat} (hl : w < 4) : I (a + 6) w = B (10 + w) := h.2.2.1 w hl
theorem be_wa {a : Nat} (h : BR a B I) {b : Nat} (hl : b < 6) : I (a + 4) b = B (14 + b) := h.2.2.2.1 b hl
theorem be_mk {a : Nat} (h : BR a B I) {i : Nat} (hl : i < 72) : I (a + 1) i = B (20 + i) := h.2.2.2.2.1 i hl
theorem be_hd {a : Nat} (h : BR a B I) {i : Nat} (hl : i < 72) : I (a + 2) i = B (92 + i) := h.2.2.2.2.2.1 i hl
theorem be_cn {a : Nat} (h : BR a B I) {b : Nat} (hl : b < 6) : I (a + 3) b = i32 (cn B b) := h.2.2.2.2.2.2 b hl
end
/-- law l stands from the place with the number i on -/
def stA (H : Nat → Nat) (B : Nat → Int32) (l i : Nat) : Bool := allb (fun k => decide (B (20 + (i + k)) = i32 (sg H l k))) (lg H l)
/-- in how many places of the band b law l can begin -/
def np (H : Nat → Nat) (l b : Nat) : Nat := H (11 + b) + 1 - lg H l
def rdI (H : Nat → Nat) (B : Nat → Int32) (l b : Nat) : Bool := exb (fun p => stA H B l (12 * b + p)) (np H l b)
theorem np_d {H : Nat → Nat} {l b : Nat} : np H l b = H (11 + b) + 1 - lg H l := rfl
/-- an index, or none -/
def oi (o : Option Nat) : Int32 := match o with
  | some k => i32 k
  | none => n1
/-- a set of numbers below m, by bits -/
def bset (P : Nat → Bool) (m : Nat) : Int32 := fo (fun l s => if P l then s ||| (i32 1 <<< (i32 l &&& i32 31)) else s) (i32 0) m
theorem bset_congr {P Q : Nat → Bool} {m : Nat} (h : ∀ k, k < m → P k = Q k) : bset P m = bset Q m := fo_congr (fun k hk x => by rw [h k hk])
/-- the law l has lapsed -/
def lpd (B : Nat → Int32) (l : Nat) : Bool := decide (¬ (B 3 >>> (i32 l &&& i32 31)) &&& i32 1 = i32 0)
/-- the tide in the hour h -/
def tdA (H : Nat → Nat) (h : Nat) : Int32 := if H 3 = 0 then n1 else i32 (H (17 + h % H 3))
def fbO (H : Nat → Nat) (B : Nat → Int32) (l : Nat) : Option Nat := fd (fun b => rdI H B l b) (H 0)
/-- nothing in the row g from i on is against law l -/
def nag (H : Nat → Nat) (g : Nat → Int32) (l i : Nat) : Bool := allb (fun k => decide (g (i + k) = n1 ∨ g (i + k) = i32 (sg H l k))) (lg H l)
def chh (H : Nat → Nat) (g : Nat → Int32) (l i m : Nat) : Bool := exb (fun p => nag H g l (i + p)) (m + 1 - lg H l)
def fitS (H : Nat → Nat) (g : Nat → Int32) (i m : Nat) : Int32 := bset (fun l => chh H g l i m) (H 2)
def cnt (P : Nat → Bool) (m : Nat) : Nat := fo (fun k s => if P k then s + 1 else s) 0 m
theorem cnt_s {P : Nat → Bool} {m : Nat} : cnt P (m + 1) = if P m then cnt P m + 1 else cnt P m := rfl
theorem cnt_le {P : Nat → Bool} {m : Nat} : cnt P m ≤ m := by
  induction m with
  | zero => exact Nat.le_refl _
  | succ m ih => rw [cnt_s]; split <;> omega
theorem cnt_mono {P : Nat → Bool} {m : Nat} : ∀ d, cnt P m ≤ cnt P (m + d) := by
  intro d
  induction d with
  | zero => exact Nat.le_refl _
  | succ d ih => rw [← Nat.add_assoc, cnt_s]; split <;> omega
theorem cnt_run {P : Nat → Bool} {p : Nat} : ∀ m, (∀ k, k < m → P (p + k) = true) → cnt P (p + m) = cnt P p + m := by
  intro m
  induction m with
  | zero => intro _; rfl
  | succ m ih =>
    intro h
    rw [← Nat.add_assoc, cnt_s, if_pos (h m (by omega)), ih (fun k hk => h k (by omega))]; omega
theorem cn_cnt {B : Nat → Int32} {b : Nat} : cn B b = cnt (fun p => !decide (B (20 + (12 * b + p)) = n1)) 12 := by
  rw [cn, cnt]
  refine fo_congr (fun k _ s => ?_)
  by_cases h : B (20 + (12 * b + k)) = n1 <;> simp [h]
theorem cn_12 {B : Nat → Int32} {b : Nat} : cn B b ≤ 12 := by rw [cn_cnt]; exact cnt_le
/-- where a law stands there are signs enough -/
theorem stA_cn {H : Nat → Nat} {B : Nat → Int32} {l b p : Nat} (hp : p + lg H l ≤ 12) (h : stA H B l (12 * b + p) = true) : lg H l ≤ cn B b := by
  rw [cn_cnt]
  have h1 := allb_iff.mp h
  have h2 : ∀ k, k < lg H l → (fun p => !decide (B (20 + (12 * b + p)) = n1)) (p + k) = true := by
    intro k hk
    have h3 := of_decide_eq_true (h1 k hk)
    have h4 : ¬ B (20 + (12 * b + (p + k))) = n1 := by
      rw [← Nat.add_assoc (12 * b), h3, i_ne1 (by have := sg_9 (H := H) (l := l) (k := k); omega)]
      exact id
    simp [h4]
  have h5 := cnt_run (P := fun p => !decide (B (20 + (12 * b + p)) = n1)) (p := p) (lg H l) h2
  have h6 := cnt_mono (P := fun p => !decide (B (20 + (12 * b + p)) = n1)) (m := p + lg H l) (12 - (p + lg H l))
  rw [show p + lg H l + (12 - (p + lg H l)) = 12 by omega] at h6
  omega
