/-! ===== DRAWS ===== -/
def dr (x : Int32) : Int32 := x * i32 1103515245 + i32 12345
def dn (x : Int32) : Nat := (Int32.toUInt32 x >>> (Int32.toUInt32 (i32 8) &&& Int32.toUInt32 (i32 31))).toNat
theorem i_u (y : UInt32) : UInt32.toInt32 y = i32 y.toNat := by
  apply Int32.toBitVec_inj.mp
  show y.toBitVec = BitVec.ofNat 32 y.toNat
  exact BitVec.eq_of_toNat_eq (by simp)
theorem dn_lt {x : Int32} : dn x < 16777216 := by
  rw [dn, UInt32.toNat_shiftRight]
  have h := (Int32.toUInt32 x).toNat_lt
  have e : (Int32.toUInt32 (i32 8) &&& Int32.toUInt32 (i32 31)).toNat % 32 = 8 := by decide
  rw [e, Nat.shiftRight_eq_div_pow]
  omega
theorem i_shr8 {x : Int32} : UInt32.toInt32 (Int32.toUInt32 x >>> (Int32.toUInt32 (i32 8) &&& Int32.toUInt32 (i32 31))) = i32 (dn x) := i_u _
def wr1 (H : Nat → Nat) (w b q s : Nat) (B : Nat → Int32) : Nat → Int32 := if q < H (11 + b) ∧ B (10 + w) < i32 (H (25 + w)) ∧ B (20 + (12 * b + q)) = n1 then pw B w (12 * b + q) s else B
def lwB (H : Nat → Nat) (w l b p : Nat) (B : Nat → Int32) (m : Nat) : Nat → Int32 := fo (fun k B => wr1 H w b (p + k) (sg H l k) B) B m
def td1 (H : Nat → Nat) (b p : Nat) (B : Nat → Int32) : Nat → Int32 := if p < H (11 + b) ∧ ¬ B (20 + (12 * b + p)) = n1 then tr B (12 * b + p) else B
def lwS (H : Nat → Nat) (w : Nat) (q : Int32 × (Nat → Int32)) : Int32 × (Nat → Int32) := (dr (dr (dr q.1)), lwB H w (dn (dr q.1) % H 2) (dn (dr (dr q.1)) % H 0) (dn (dr (dr (dr q.1))) % 12) q.2 (lg H (dn (dr q.1) % H 2)))
def ltS (H : Nat → Nat) (q : Int32 × (Nat → Int32)) : Int32 × (Nat → Int32) := (dr (dr q.1), td1 H (dn (dr q.1) % H 0) (dn (dr (dr q.1)) % 12) q.2)
def lwsS (H : Nat → Nat) (q : Int32 × (Nat → Int32)) (m : Nat) : Int32 × (Nat → Int32) := fo (fun w q => lwS H w q) q m
def dhS (H : Nat → Nat) (h : Nat) (q : Int32 × (Nat → Int32)) : Int32 × (Nat → Int32) :=
  if H 0 = 0 then (q.1, hr1 H q.2 h) else if H 2 = 0 then ((ltS H q).1, hr1 H (ltS H q).2 h) else ((ltS H (lwsS H q (H 1))).1, hr1 H (ltS H (lwsS H q (H 1))).2 h)
def dhs (H : Nat → Nat) (h : Nat) (q : Int32 × (Nat → Int32)) : Nat → Int32 × (Nat → Int32)
  | 0 => q
  | m + 1 => dhS H (h + m) (dhs H h q m)
section
variable {H : Nat → Nat} {B : Nat → Int32} {I : Nat → Nat → Int32} {L : Nat → Nat → Int64} {r : Bool} {N a : Nat}
theorem wr1_0 {w b q s : Nat} : wr1 H w b q s B 0 = B 0 := by
  rw [wr1]; split
  · rw [pw, if_neg (by omega), if_neg (by omega), if_neg (by omega), if_neg (by omega), if_neg (by omega)]
  · rfl
theorem lwB_0 {w l b p : Nat} : ∀ m, lwB H w l b p B m 0 = B 0 := by
  intro m
  induction m with
  | zero => rfl
  | succ m ih => exact wr1_0.trans ih
theorem td1_0 {b p : Nat} : td1 H b p B 0 = B 0 := by
  rw [td1]; split
  · rw [tr, if_neg (by omega)]
  · rfl
theorem lws_0 {q : Int32 × (Nat → Int32)} : ∀ m, (lwsS H q m).2 0 = q.2 0 := by
  intro m
  induction m with
  | zero => rfl
  | succ m ih => exact (lwB_0 _).trans ih
theorem dhS_0 {q : Int32 × (Nat → Int32)} {h : Nat} : (dhS H h q).2 0 = i32 (h + 1) := by
  rw [dhS]; split
  · simp only [hr1]; rw [if_neg (by omega), if_pos trivial]
  · split
    · simp only [hr1]; rw [if_neg (by omega), if_pos trivial]
    · simp only [hr1]; rw [if_neg (by omega), if_pos trivial]
theorem dhs_0 {q : Int32 × (Nat → Int32)} {h : Nat} (h0 : q.2 0 = i32 h) : ∀ m, (dhs H h q m).2 0 = i32 (h + m) := by
  intro m
  cases m with
  | zero => exact h0
  | succ m => exact dhS_0
/-- the frame of a beach and the draws -/
def FrD (a : Nat) (I J : Nat → Nat → Int32) : Prop := ∀ q, (q < a ∨ a + 8 ≤ q) → q ≠ 132 → J q = I q
theorem FrD.rf : FrD a I I := fun _ _ _ => rfl
theorem FrD.tr {I J K : Nat → Nat → Int32} (h : FrD a I J) (g : FrD a J K) : FrD a I K := fun q hq h2 => (g q hq h2).trans (h q hq h2)
theorem Fr.d {I J : Nat → Nat → Int32} (h : Fr a I J) : FrD a I J := fun q hq _ => h q hq
theorem FrD_up {k : Nat} {v : Int32} : FrD a I (up I 132 k v) := fun _ _ h => up_row h
theorem RS_fd {J : Nat → Nat → Int32} (hs : RS 4 H I) (ha : isBe a = true) (h : FrD a I J) : RS 4 H J := by
  have hr := isBe_r ha
  have e : ∀ q, q < 15 → J q = I q := fun q hq => h q (Or.inl (by omega)) (by omega)
  unfold RS at *
  simp only [e 4 (by omega), e (4 + 2) (by omega), e (4 + 3) (by omega), e (4 + 4) (by omega), e (4 + 6) (by omega), e (4 + 8) (by omega), e (4 + 9) (by omega), e (4 + 10) (by omega)]
  exact hs
theorem isBe_132 (ha : isBe a = true) : 132 < a ∨ a + 8 ≤ 132 := by have := isBe_c ha; omega
theorem c_drawOf {n : Nat} (hn : 0 < n) (hn2 : n < 100) : fX2_drawOf N 132 (i32 n) (mk I L r) = some (i32 (dn (dr (I 132 1)) % n), mk (up I 132 1 (dr (I 132 1))) L r) := by
  have hd := dn_lt (x := dr (I 132 1))
  have e : I 132 1 * i32 1103515245 + i32 12345 = dr (I 132 1) := rfl
  unfold fX2_drawOf
  simp (disch := first | assumption | omega | rfl) only [i_rem, i_pred, i_addn1, i_lit, i_n1, i_add, i_mul, i_sub, i_le, i_lt, i_eq, i_ne1, n1_ne, n1_lt, n1_le, i_lt1, i_le1, bd_s, nar_bi, nar_0, nar_1, if_pos, if_neg, ↓reduceIte, reduceCtorEq, eq_self, if_true, if_false, not_true_eq_false, not_false_eq_true, dr_k, dr_fI, dr_fL, dr_pI, dr_pL, dr_z0, dr_z1, dr_fR0, e, up_at, i_shr8]
theorem c_letTread (hO : hOk H) (hs : RS 4 H I) (ha : isBe a = true) (hb : BR a B I) (h0 : 0 < H 0) : ∃ J, fX2_letTread N 132 a (mk I L r) = some ((), mk J L r) ∧ BR a (ltS H (I 132 1, B)).2 J ∧ FrD a I J ∧ J 132 1 = (ltS H (I 132 1, B)).1 := by
  have o0 := hO.1; have o1 := hO.2.1; have o2 := hO.2.2.1; have o3 := hO.2.2.2.1; have o4 := hO.2.2.2.2.1; have o5 := hO.2.2.2.2.2.1
  have ha' := isBe_132 ha
  generalize hx : I 132 1 = x
  generalize hy : dr x = y
  generalize hz : dr y = z
  have hbn := Nat.mod_lt (dn y) h0
  have hpn := Nat.mod_lt (dn z) (show 12 > 0 by omega)
  generalize hbb : dn y % H 0 = b at hbn
  generalize hpp : dn z % 12 = p at hpn
  have wd_b := hO.2.2.2.2.2.2.1 b (by assumption)
  have hs2 : ∀ u v, RS 4 H (up (up I 132 1 u) 132 1 v) := fun u v => RS_fd hs ha (FrD_up.tr FrD_up)
  have hb2 : ∀ u v, BR a B (up (up I 132 1 u) 132 1 v) := fun u v => BR_up (BR_up hb ha') ha'
  have hlt : ltS H (x, B) = (z, td1 H b p B) := by simp only [ltS, hy, hz, hbb, hpp]
  rw [hlt]
  unfold fX2_letTread
  simp (disch := first | assumption | omega | rfl) only [i_rem, i_pred, i_addn1, i_lit, i_n1, i_add, i_mul, i_sub, i_le, i_lt, i_eq, i_ne1, n1_ne, n1_lt, n1_le, i_lt1, i_le1, bd_s, nar_bi, nar_0, nar_1, if_pos, if_neg, ↓reduceIte, reduceCtorEq, eq_self, if_true, if_false, not_true_eq_false, not_false_eq_true, dr_k, dr_fI, dr_fL, dr_pI, dr_pL, dr_z0, dr_z1, dr_fR0, s4_k, s4_fI, s4_fL, s4_pI, s4_pL, s4_z0, s4_z1, s4_fR1, s41_a, s41_t, s41_n, s4_fR2, s42_a, s42_t, s42_n, s4_fR3, s43_a, s43_t, s43_n, s4_fR5, s45_a, s45_t, s45_n, s4_fR7, s47_a, s47_t, s47_n, s4_fR8, s48_a, s48_t, s48_n, s4_fR10, s410_a, s410_t, s410_n, s4_fR11, s411_a, s411_t, s411_n, s4_fR12, s412_a, s412_t, s412_n, s4_fR13, s413_a, s413_t, s413_n, s4_nb hs, c_drawOf, hx, hy, up_at, hz, hbb, hpp, c_hasPlace hO (hs2 _ _), bi_z]
  by_cases hp : p < H (11 + b)
  · simp (disch := first | assumption | omega | rfl) only [i_rem, i_pred, i_addn1, i_lit, i_n1, i_add, i_mul, i_sub, i_le, i_lt, i_eq, i_ne1, n1_ne, n1_lt, n1_le, i_lt1, i_le1, bd_s, nar_bi, nar_0, nar_1, if_pos, if_neg, ↓reduceIte, reduceCtorEq, eq_self, if_true, if_false, not_true_eq_false, not_false_eq_true, be_k, be_fI, be_fL, be_pI, be_pL, be_z0, be_z1, be_fR0, be_fR1, be1_a, be1_t, be1_n, be_fR2, be2_a, be2_t, be2_n, be_fR3, be3_a, be3_t, be3_n, be_fR4, be4_a, be4_t, be4_n, be_fR5, be5_a, be5_t, be5_n, be_fR6, be6_a, be6_t, be6_n, be_fR7, be7_a, be7_t, be7_n, hp, decide_true, c_whyNotTread hO ha (hb2 _ _)]
    by_cases h1 : B (20 + (12 * b + p)) = n1
    · refine ⟨up (up I 132 1 y) 132 1 z, ?_, ?_, FrD_up.tr FrD_up, by simp (disch := omega) only [up_at, up_off, upL_at, upL_off, if_pos, if_neg, if_true, true_or, or_true, true_and, and_true]⟩
      · simp (disch := first | assumption | omega | rfl) only [i_rem, i_pred, i_addn1, i_lit, i_n1, i_add, i_mul, i_sub, i_le, i_lt, i_eq, i_ne1, n1_ne, n1_lt, n1_le, i_lt1, i_le1, bd_s, nar_bi, nar_0, nar_1, if_pos, if_neg, ↓reduceIte, reduceCtorEq, eq_self, if_true, if_false, not_true_eq_false, not_false_eq_true, be_k, be_fI, be_fL, be_pI, be_pL, be_z0, be_z1, be_fR0, be_fR1, be1_a, be1_t, be1_n, be_fR2, be2_a, be2_t, be2_n, be_fR3, be3_a, be3_t, be3_n, be_fR4, be4_a, be4_t, be4_n, be_fR5, be5_a, be5_t, be5_n, be_fR6, be6_a, be6_t, be6_n, be_fR7, be7_a, be7_t, be7_n, h1]
      · show BR a (td1 H b p B) _
        rw [td1, if_neg (fun z => z.2 h1)]; exact hb2 _ _
    · obtain ⟨J, e, g1, g2⟩ := c_removeSign (N := N) (L := L) (r := r) hO ha (hb2 y z) hbn hp h1
      refine ⟨J, ?_, ?_, (FrD_up.tr FrD_up).tr g2.d, ?_⟩
      · simp (disch := first | assumption | omega | rfl) only [i_rem, i_pred, i_addn1, i_lit, i_n1, i_add, i_mul, i_sub, i_le, i_lt, i_eq, i_ne1, n1_ne, n1_lt, n1_le, i_lt1, i_le1, bd_s, nar_bi, nar_0, nar_1, if_pos, if_neg, ↓reduceIte, reduceCtorEq, eq_self, if_true, if_false, not_true_eq_false, not_false_eq_true, be_k, be_fI, be_fL, be_pI, be_pL, be_z0, be_z1, be_fR0, be_fR1, be1_a, be1_t, be1_n, be_fR2, be2_a, be2_t, be2_n, be_fR3, be3_a, be3_t, be3_n, be_fR4, be4_a, be4_t, be4_n, be_fR5, be5_a, be5_t, be5_n, be_fR6, be6_a, be6_t, be6_n, be_fR7, be7_a, be7_t, be7_n, h1, e]
      · show BR a (td1 H b p B) _
        rw [td1, if_pos ⟨hp, h1⟩]; exact g1
      · rw [g2 132 (by omega)]; simp (disch := omega) only [up_at, up_off, upL_at, upL_off, if_pos, if_neg, if_true, true_or, or_true, true_and, and_true]
  · refine ⟨up (up I 132 1 y) 132 1 z, ?_, ?_, FrD_up.tr FrD_up, by simp (disch := omega) only [up_at, up_off, upL_at, upL_off, if_pos, if_neg, if_true, true_or, or_true, true_and, and_true]⟩
    · simp (disch := first | assumption | omega | rfl) only [i_rem, i_pred, i_addn1, i_lit, i_n1, i_add, i_mul, i_sub, i_le, i_lt, i_eq, i_ne1, n1_ne, n1_lt, n1_le, i_lt1, i_le1, bd_s, nar_bi, nar_0, nar_1, if_pos, if_neg, ↓reduceIte, reduceCtorEq, eq_self, if_true, if_false, not_true_eq_false, not_false_eq_true, be_k, be_fI, be_fL, be_pI, be_pL, be_z0, be_z1, be_fR0, be_fR1, be1_a, be1_t, be1_n, be_fR2, be2_a, be2_t, be2_n, be_fR3, be3_a, be3_t, be3_n, be_fR4, be4_a, be4_t, be4_n, be_fR5, be5_a, be5_t, be5_n, be_fR6, be6_a, be6_t, be6_n, be_fR7, be7_a, be7_t, be7_n, hp, decide_false]
    · show BR a (td1 H b p B) _
      rw [td1, if_neg (fun z => hp z.1)]; exact hb2 _ _
theorem why_0 {c d : Prop} [Decidable c] [Decidable d] : ((if c then (if d then i32 0 else i32 2) else i32 1) = i32 0) ↔ (c ∧ d) := by
  by_cases h : c
  · by_cases g : d
    · simp [h, g]
    · simp only [h, g, ↓reduceIte]; decide
  · simp only [h, ↓reduceIte]; simp; decide
theorem c_letWriteL (hN : 1200 < N) (hO : hOk H) (hs : RS 4 H I) (ha : isBe a = true) (hb : BR a B I) {w l b p : Nat} (hw : w < H 1) (hl : l < H 2) (hbb : b < H 0) (hp : p < 12) : ∃ J, fX2_letWrite_L36 N 132 a (i32 w) (i32 l) (i32 b) (i32 p) N (i32 0) (mk I L r) = some (mk J L r) ∧ BR a (lwB H w l b p B (lg H l)) J ∧ Fr a I J := by
  have o0 := hO.1; have o1 := hO.2.1; have o2 := hO.2.2.1; have o3 := hO.2.2.2.1; have o4 := hO.2.2.2.2.1; have o5 := hO.2.2.2.2.2.1; have lg2_l := lg_2 (H := H) (l := l); have lg3_l := lg_3 (H := H) (l := l); have wd_b := hO.2.2.2.2.2.2.1 b (by assumption)
  obtain ⟨M, e, J, rfl, h1, h2⟩ := lp_st (F := fun m u M => fX2_letWrite_L36 N 132 a (i32 w) (i32 l) (i32 b) (i32 p) m u M) (m := lg H l) (fun k M => ∃ J, M = mk J L r ∧ BR a (lwB H w l b p B k) J ∧ Fr a I J) (fun M => M) (fun m k M hk hM => by
    obtain ⟨J, rfl, h1, h2⟩ := hM
    have hs' := RS_fr hs ha h2
    have hst : lwB H w l b p B (k + 1) = wr1 H w b (p + k) (sg H l k) (lwB H w l b p B k) := rfl
    generalize lwB H w l b p B k = C at h1 hst
    by_cases hq : p + k < H (11 + b)
    · by_cases hc : C (10 + w) < i32 (H (25 + w)) ∧ C (20 + (12 * b + (p + k))) = n1
      · obtain ⟨K, e, h3, h4⟩ := c_putSign (N := N) (L := L) (r := r) (s := sg H l k) hO ha h1 hw hbb hq sg_9 hc.2
        refine ⟨mk K L r, ?_, K, rfl, ?_, h2.tr h4⟩
        · simp (disch := first | assumption | omega | rfl) only [i_rem, i_pred, i_addn1, i_lit, i_n1, i_add, i_mul, i_sub, i_le, i_lt, i_eq, i_ne1, n1_ne, n1_lt, n1_le, i_lt1, i_le1, bd_s, nar_bi, nar_0, nar_1, if_pos, if_neg, ↓reduceIte, reduceCtorEq, eq_self, if_true, if_false, not_true_eq_false, not_false_eq_true, be_k, be_fI, be_fL, be_pI, be_pL, be_z0, be_z1, be_fR0, be_fR1, be1_a, be1_t, be1_n, be_fR2, be2_a, be2_t, be2_n, be_fR3, be3_a, be3_t, be3_n, be_fR4, be4_a, be4_t, be4_n, be_fR5, be5_a, be5_t, be5_n, be_fR6, be6_a, be6_t, be6_n, be_fR7, be7_a, be7_t, be7_n, s4_k, s4_fI, s4_fL, s4_pI, s4_pL, s4_z0, s4_z1, s4_fR1, s41_a, s41_t, s41_n, s4_fR2, s42_a, s42_t, s42_n, s4_fR3, s43_a, s43_t, s43_n, s4_fR5, s45_a, s45_t, s45_n, s4_fR7, s47_a, s47_t, s47_n, s4_fR8, s48_a, s48_t, s48_n, s4_fR10, s410_a, s410_t, s410_n, s4_fR11, s411_a, s411_t, s411_n, s4_fR12, s412_a, s412_t, s412_n, s4_fR13, s413_a, s413_t, s413_n, dr_k, dr_fI, dr_fL, dr_pI, dr_pL, dr_z0, dr_z1, dr_fR0, fX2_letWrite_L36, s4_lg hs', c_hasPlace hO hs', hq, decide_true, bi_z, c_whyNotWrite hO hs' ha h1, why_0, hc, c_lawSign hO hs', e]
        · rw [hst, wr1, if_pos ⟨hq, hc⟩]; exact h3
      · refine ⟨mk J L r, ?_, J, rfl, ?_, h2⟩
        · simp (disch := first | assumption | omega | rfl) only [i_rem, i_pred, i_addn1, i_lit, i_n1, i_add, i_mul, i_sub, i_le, i_lt, i_eq, i_ne1, n1_ne, n1_lt, n1_le, i_lt1, i_le1, bd_s, nar_bi, nar_0, nar_1, if_pos, if_neg, ↓reduceIte, reduceCtorEq, eq_self, if_true, if_false, not_true_eq_false, not_false_eq_true, be_k, be_fI, be_fL, be_pI, be_pL, be_z0, be_z1, be_fR0, be_fR1, be1_a, be1_t, be1_n, be_fR2, be2_a, be2_t, be2_n, be_fR3, be3_a, be3_t, be3_n, be_fR4, be4_a, be4_t, be4_n, be_fR5, be5_a, be5_t, be5_n, be_fR6, be6_a, be6_t, be6_n, be_fR7, be7_a, be7_t, be7_n, s4_k, s4_fI, s4_fL, s4_pI, s4_pL, s4_z0, s4_z1, s4_fR1, s41_a, s41_t, s41_n, s4_fR2, s42_a, s42_t, s42_n, s4_fR3, s43_a, s43_t, s43_n, s4_fR5, s45_a, s45_t, s45_n, s4_fR7, s47_a, s47_t, s47_n, s4_fR8, s48_a, s48_t, s48_n, s4_fR10, s410_a, s410_t, s410_n, s4_fR11, s411_a, s411_t, s411_n, s4_fR12, s412_a, s412_t, s412_n, s4_fR13, s413_a, s413_t, s413_n, dr_k, dr_fI, dr_fL, dr_pI, dr_pL, dr_z0, dr_z1, dr_fR0, fX2_letWrite_L36, s4_lg hs', c_hasPlace hO hs', hq, decide_true, bi_z, c_whyNotWrite hO hs' ha h1, why_0, hc]
        · rw [hst, wr1, if_neg (fun z => hc z.2)]; exact h1
    · refine ⟨mk J L r, ?_, J, rfl, ?_, h2⟩
      · simp (disch := first | assumption | omega | rfl) only [i_rem, i_pred, i_addn1, i_lit, i_n1, i_add, i_mul, i_sub, i_le, i_lt, i_eq, i_ne1, n1_ne, n1_lt, n1_le, i_lt1, i_le1, bd_s, nar_bi, nar_0, nar_1, if_pos, if_neg, ↓reduceIte, reduceCtorEq, eq_self, if_true, if_false, not_true_eq_false, not_false_eq_true, be_k, be_fI, be_fL, be_pI, be_pL, be_z0, be_z1, be_fR0, be_fR1, be1_a, be1_t, be1_n, be_fR2, be2_a, be2_t, be2_n, be_fR3, be3_a, be3_t, be3_n, be_fR4, be4_a, be4_t, be4_n, be_fR5, be5_a, be5_t, be5_n, be_fR6, be6_a, be6_t, be6_n, be_fR7, be7_a, be7_t, be7_n, s4_k, s4_fI, s4_fL, s4_pI, s4_pL, s4_z0, s4_z1, s4_fR1, s41_a, s41_t, s41_n, s4_fR2, s42_a, s42_t, s42_n, s4_fR3, s43_a, s43_t, s43_n, s4_fR5, s45_a, s45_t, s45_n, s4_fR7, s47_a, s47_t, s47_n, s4_fR8, s48_a, s48_t, s48_n, s4_fR10, s410_a, s410_t, s410_n, s4_fR11, s411_a, s411_t, s411_n, s4_fR12, s412_a, s412_t, s412_n, s4_fR13, s413_a, s413_t, s413_n, dr_k, dr_fI, dr_fL, dr_pI, dr_pL, dr_z0, dr_z1, dr_fR0, fX2_letWrite_L36, s4_lg hs', c_hasPlace hO hs', hq, decide_false, bi_z]
      · rw [hst, wr1, if_neg (fun z => hq z.1)]; exact h1) (fun m M hM => by
    obtain ⟨J, rfl, h1, h2⟩ := hM
    have hs' := RS_fr hs ha h2
    simp (disch := first | assumption | omega | rfl) only [i_rem, i_pred, i_addn1, i_lit, i_n1, i_add, i_mul, i_sub, i_le, i_lt, i_eq, i_ne1, n1_ne, n1_lt, n1_le, i_lt1, i_le1, bd_s, nar_bi, nar_0, nar_1, if_pos, if_neg, ↓reduceIte, reduceCtorEq, eq_self, if_true, if_false, not_true_eq_false, not_false_eq_true, be_k, be_fI, be_fL, be_pI, be_pL, be_z0, be_z1, be_fR0, be_fR1, be1_a, be1_t, be1_n, be_fR2, be2_a, be2_t, be2_n, be_fR3, be3_a, be3_t, be3_n, be_fR4, be4_a, be4_t, be4_n, be_fR5, be5_a, be5_t, be5_n, be_fR6, be6_a, be6_t, be6_n, be_fR7, be7_a, be7_t, be7_n, s4_k, s4_fI, s4_fL, s4_pI, s4_pL, s4_z0, s4_z1, s4_fR1, s41_a, s41_t, s41_n, s4_fR2, s42_a, s42_t, s42_n, s4_fR3, s43_a, s43_t, s43_n, s4_fR5, s45_a, s45_t, s45_n, s4_fR7, s47_a, s47_t, s47_n, s4_fR8, s48_a, s48_t, s48_n, s4_fR10, s410_a, s410_t, s410_n, s4_fR11, s411_a, s411_t, s411_n, s4_fR12, s412_a, s412_t, s412_n, s4_fR13, s413_a, s413_t, s413_n, dr_k, dr_fI, dr_fL, dr_pI, dr_pL, dr_z0, dr_z1, dr_fR0, fX2_letWrite_L36, s4_lg hs']) (n := N) (by omega) (s := mk I L r) ⟨I, rfl, hb, Fr.rf⟩
  exact ⟨J, e, h1, h2⟩
theorem c_letWrite (hN : 1200 < N) (hO : hOk H) (hs : RS 4 H I) (ha : isBe a = true) (hb : BR a B I) {w : Nat} (hw : w < H 1) (h0 : 0 < H 0) (h2 : 0 < H 2) : ∃ J, fX2_letWrite N 132 a (i32 w) (mk I L r) = some ((), mk J L r) ∧ BR a (lwS H w (I 132 1, B)).2 J ∧ FrD a I J ∧ J 132 1 = (lwS H w (I 132 1, B)).1 := by
  have o0 := hO.1; have o1 := hO.2.1; have o2 := hO.2.2.1; have o3 := hO.2.2.2.1; have o4 := hO.2.2.2.2.1; have o5 := hO.2.2.2.2.2.1
  have ha' := isBe_132 ha
  generalize hx : I 132 1 = x
  generalize hx1 : dr x = x1
  generalize hx2 : dr x1 = x2
  generalize hx3 : dr x2 = x3
  have hln := Nat.mod_lt (dn x1) h2
  have hbn := Nat.mod_lt (dn x2) h0
  have hpn := Nat.mod_lt (dn x3) (show 12 > 0 by omega)
  generalize hll : dn x1 % H 2 = l at hln
  generalize hbb : dn x2 % H 0 = b at hbn
  generalize hpp : dn x3 % 12 = p at hpn
  have hs1 : ∀ u, RS 4 H (up I 132 1 u) := fun u => RS_fd hs ha FrD_up
  have hs3 : RS 4 H (up (up (up I 132 1 x1) 132 1 x2) 132 1 x3) := RS_fd hs ha ((FrD_up.tr FrD_up).tr FrD_up)
  have hb3 : BR a B (up (up (up I 132 1 x1) 132 1 x2) 132 1 x3) := BR_up (BR_up (BR_up hb ha') ha') ha'
  have hlt : lwS H w (x, B) = (x3, lwB H w l b p B (lg H l)) := by simp only [lwS, hx1, hx2, hx3, hll, hbb, hpp]
  rw [hlt]
  obtain ⟨J, e, g1, g2⟩ := c_letWriteL (L := L) (r := r) hN hO hs3 ha hb3 hw hln hbn hpn
  unfold fX2_letWrite
  refine ⟨J, ?_, g1, ((FrD_up.tr FrD_up).tr FrD_up).tr g2.d, ?_⟩
  · simp (disch := first | assumption | omega | rfl) only [i_rem, i_pred, i_addn1, i_lit, i_n1, i_add, i_mul, i_sub, i_le, i_lt, i_eq, i_ne1, n1_ne, n1_lt, n1_le, i_lt1, i_le1, bd_s, nar_bi, nar_0, nar_1, if_pos, if_neg, ↓reduceIte, reduceCtorEq, eq_self, if_true, if_false, not_true_eq_false, not_false_eq_true, dr_k, dr_fI, dr_fL, dr_pI, dr_pL, dr_z0, dr_z1, dr_fR0, s4_k, s4_fI, s4_fL, s4_pI, s4_pL, s4_z0, s4_z1, s4_fR1, s41_a, s41_t, s41_n, s4_fR2, s42_a, s42_t, s42_n, s4_fR3, s43_a, s43_t, s43_n, s4_fR5, s45_a, s45_t, s45_n, s4_fR7, s47_a, s47_t, s47_n, s4_fR8, s48_a, s48_t, s48_n, s4_fR10, s410_a, s410_t, s410_n, s4_fR11, s411_a, s411_t, s411_n, s4_fR12, s412_a, s412_t, s412_n, s4_fR13, s413_a, s413_t, s413_n, s4_nl hs, s4_nb (hs1 _), c_drawOf, hx, hx1, up_at, hx2, hx3, hll, hbb, hpp, e]
  · rw [g2 132 (by omega)]; simp (disch := omega) only [up_at, up_off, upL_at, upL_off, if_pos, if_neg, if_true, true_or, or_true, true_and, and_true]
end
