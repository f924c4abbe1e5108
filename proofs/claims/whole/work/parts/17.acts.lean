/-! ===== THE ACTS ===== -/
def pw (B : Nat → Int32) (w i s : Nat) : Nat → Int32 := fun k => if k = 20 + i then i32 s else if k = 92 + i then i32 w else if k = 10 + w then B k + i32 1 else if k = 1 then B k + i32 1 else if k = 2 then B k + i32 (stN s) else B k
def tr (B : Nat → Int32) (i : Nat) : Nat → Int32 := fun k => if k = 20 + i ∨ k = 92 + i then n1 else B k
def wsh (B : Nat → Int32) (b : Nat) : Nat → Int32 := fun k => if (20 + 12 * b ≤ k ∧ k < 32 + 12 * b) ∨ (92 + 12 * b ≤ k ∧ k < 104 + 12 * b) then n1 else if k = 14 + b then B k + i32 1 else B k
def wshs (H : Nat → Nat) (t : Int32) (B : Nat → Int32) (m : Nat) : Nat → Int32 := fo (fun b B => if t < i32 (H (5 + b)) then B else wsh B b) B m
def b1 (B : Nat → Int32) (k : Nat) (v : Int32) : Nat → Int32 := fun j => if j = k then v else B j
/-- a law grows older -/
def old (H : Nat → Nat) (B : Nat → Int32) (l : Nat) : Nat → Int32 :=
  if lpd B l then B else if fbO H B l = none then (if B (4 + l) + i32 1 < i32 (H 4) then b1 B (4 + l) (B (4 + l) + i32 1) else b1 (b1 B (4 + l) (B (4 + l) + i32 1)) 3 (B 3 ||| (i32 1 <<< (i32 l &&& i32 31)))) else b1 B (4 + l) (i32 0)
def olds (H : Nat → Nat) (B : Nat → Int32) (m : Nat) : Nat → Int32 := fo (fun l B => old H B l) B m
/-- the hour h goes by -/
def hr1 (H : Nat → Nat) (B : Nat → Int32) (h : Nat) : Nat → Int32 := fun k => if 10 ≤ k ∧ k < 14 then i32 0 else if k = 0 then i32 (h + 1) else olds H (wshs H (tdA H h) B (H 0)) (H 2) k
def hrs (H : Nat → Nat) (B : Nat → Int32) (h : Nat) : Nat → (Nat → Int32)
  | 0 => B
  | m + 1 => hr1 H (hrs H B h m) (h + m)
def Fr (a : Nat) (I J : Nat → Nat → Int32) : Prop := ∀ q, (q < a ∨ a + 8 ≤ q) → J q = I q
theorem Fr.rf {a : Nat} {I : Nat → Nat → Int32} : Fr a I I := fun _ _ => rfl
theorem Fr.tr {a : Nat} {I J K : Nat → Nat → Int32} (h : Fr a I J) (g : Fr a J K) : Fr a I K := fun q hq => (g q hq).trans (h q hq)
theorem isBe_r {a : Nat} (h : isBe a = true) : 26 ≤ a ∧ a + 8 ≤ 186 := by have := isBe_c h; omega
theorem RS_fr {H : Nat → Nat} {a : Nat} {I J : Nat → Nat → Int32} (hs : RS 4 H I) (ha : isBe a = true) (h : Fr a I J) : RS 4 H J := by
  have hr := isBe_r ha
  have e : ∀ q, q < 15 → J q = I q := fun q hq => h q (Or.inl (by omega))
  unfold RS at *
  simp only [e 4 (by omega), e (4 + 2) (by omega), e (4 + 3) (by omega), e (4 + 4) (by omega), e (4 + 6) (by omega), e (4 + 8) (by omega), e (4 + 9) (by omega), e (4 + 10) (by omega)]
  exact hs
theorem cnt_congr {P Q : Nat → Bool} {m : Nat} (h : ∀ k, k < m → P k = Q k) : cnt P m = cnt Q m := fo_congr (fun k hk x => by rw [h k hk])
theorem cnt_up {P Q : Nat → Bool} {p : Nat} : ∀ {m : Nat}, p < m → (∀ k, k < m → k ≠ p → Q k = P k) → P p = false → Q p = true → cnt Q m = cnt P m + 1 := by
  intro m
  induction m with
  | zero => intro h; omega
  | succ m ih =>
    intro hp h h0 h1
    rw [cnt_s, cnt_s]
    by_cases hpm : p = m
    · subst hpm
      rw [h0, h1, cnt_congr (fun k hk => h k (by omega) (by omega))]; rfl
    · rw [ih (by omega) (fun k hk => h k (by omega)) h0 h1, h m (by omega) (fun z => hpm z.symm)]
      split <;> omega
/-- two rows that differ in one place -/
theorem cn_off {B C : Nat → Int32} {b : Nat} (h : ∀ p, p < 12 → C (20 + (12 * b + p)) = B (20 + (12 * b + p))) : cn C b = cn B b := by
  rw [cn_cnt, cn_cnt]; exact cnt_congr (fun k hk => by rw [h k hk])
theorem cn_on {B C : Nat → Int32} {b p : Nat} (hp : p < 12) (h : ∀ q, q < 12 → q ≠ p → C (20 + (12 * b + q)) = B (20 + (12 * b + q))) (h0 : B (20 + (12 * b + p)) = n1) (h1 : ¬ C (20 + (12 * b + p)) = n1) : cn C b = cn B b + 1 := by
  rw [cn_cnt, cn_cnt]; exact cnt_up hp (fun k hk hq => by rw [h k hk hq]) (by simp [h0]) (by simp [h1])
theorem n1_ne' : ∀ s, s ≤ 9 → ¬ i32 s = n1 := fun s hs => by rw [i_ne1 (by omega)]; exact id
section
variable {H : Nat → Nat} {B : Nat → Int32} {I : Nat → Nat → Int32} {L : Nat → Nat → Int64} {r : Bool} {N a : Nat}
theorem c_whyNotWrite (hO : hOk H) (hs : RS 4 H I) (ha : isBe a = true) (hb : BR a B I) {w b p : Nat} (hw : w < H 1) (hbb : b < H 0) (hp : p < H (11 + b)) : fX0_whyNotWrite N a (i32 w) (i32 b) (i32 p) (mk I L r) = some (if B (10 + w) < i32 (H (25 + w)) then (if B (20 + (12 * b + p)) = n1 then i32 0 else i32 2) else i32 1, mk I L r) := by
  have o0 := hO.1; have o1 := hO.2.1; have o2 := hO.2.2.1; have o3 := hO.2.2.2.1; have o4 := hO.2.2.2.2.1; have o5 := hO.2.2.2.2.2.1; have wd_b := hO.2.2.2.2.2.2.1 b (by assumption)
  unfold fX0_whyNotWrite
  simp (disch := first | assumption | omega | rfl) only [i_rem, i_pred, i_addn1, i_lit, i_n1, i_add, i_mul, i_sub, i_le, i_lt, i_eq, i_ne1, n1_ne, n1_lt, n1_le, i_lt1, i_le1, bd_s, nar_bi, nar_0, nar_1, if_pos, if_neg, ↓reduceIte, reduceCtorEq, eq_self, if_true, if_false, not_true_eq_false, not_false_eq_true, be_k, be_fI, be_fL, be_pI, be_pL, be_z0, be_z1, be_fR0, be_fR1, be1_a, be1_t, be1_n, be_fR2, be2_a, be2_t, be2_n, be_fR3, be3_a, be3_t, be3_n, be_fR4, be4_a, be4_t, be4_n, be_fR5, be5_a, be5_t, be5_n, be_fR6, be6_a, be6_t, be6_n, be_fR7, be7_a, be7_t, be7_n, s4_k, s4_fI, s4_fL, s4_pI, s4_pL, s4_z0, s4_z1, s4_fR1, s41_a, s41_t, s41_n, s4_fR2, s42_a, s42_t, s42_n, s4_fR3, s43_a, s43_t, s43_n, s4_fR5, s45_a, s45_t, s45_n, s4_fR7, s47_a, s47_t, s47_n, s4_fR8, s48_a, s48_t, s48_n, s4_fR10, s410_a, s410_t, s410_n, s4_fR11, s411_a, s411_t, s411_n, s4_fR12, s412_a, s412_t, s412_n, s4_fR13, s413_a, s413_t, s413_n, be_wr hb, s4_pc hs, c_placeIndex, be_mk hb]
  split
  · split <;> rfl
  · rfl
theorem c_whyNotTread (hO : hOk H) (ha : isBe a = true) (hb : BR a B I) {b p : Nat} (hbb : b < H 0) (hp : p < H (11 + b)) : fX0_whyNotTread N a (i32 b) (i32 p) (mk I L r) = some (if B (20 + (12 * b + p)) = n1 then i32 1 else i32 0, mk I L r) := by
  have o0 := hO.1; have o1 := hO.2.1; have o2 := hO.2.2.1; have o3 := hO.2.2.2.1; have o4 := hO.2.2.2.2.1; have o5 := hO.2.2.2.2.2.1; have wd_b := hO.2.2.2.2.2.2.1 b (by assumption)
  unfold fX0_whyNotTread
  simp (disch := first | assumption | omega | rfl) only [i_rem, i_pred, i_addn1, i_lit, i_n1, i_add, i_mul, i_sub, i_le, i_lt, i_eq, i_ne1, n1_ne, n1_lt, n1_le, i_lt1, i_le1, bd_s, nar_bi, nar_0, nar_1, if_pos, if_neg, ↓reduceIte, reduceCtorEq, eq_self, if_true, if_false, not_true_eq_false, not_false_eq_true, be_k, be_fI, be_fL, be_pI, be_pL, be_z0, be_z1, be_fR0, be_fR1, be1_a, be1_t, be1_n, be_fR2, be2_a, be2_t, be2_n, be_fR3, be3_a, be3_t, be3_n, be_fR4, be4_a, be4_t, be4_n, be_fR5, be5_a, be5_t, be5_n, be_fR6, be6_a, be6_t, be6_n, be_fR7, be7_a, be7_t, be7_n, s4_k, s4_fI, s4_fL, s4_pI, s4_pL, s4_z0, s4_z1, s4_fR1, s41_a, s41_t, s41_n, s4_fR2, s42_a, s42_t, s42_n, s4_fR3, s43_a, s43_t, s43_n, s4_fR5, s45_a, s45_t, s45_n, s4_fR7, s47_a, s47_t, s47_n, s4_fR8, s48_a, s48_t, s48_n, s4_fR10, s410_a, s410_t, s410_n, s4_fR11, s411_a, s411_t, s411_n, s4_fR12, s412_a, s412_t, s412_n, s4_fR13, s413_a, s413_t, s413_n, c_placeIndex, be_mk hb]
  split <;> rfl
theorem c_putSign (hO : hOk H) (ha : isBe a = true) (hb : BR a B I) {w b p s : Nat} (hw : w < H 1) (hbb : b < H 0) (hp : p < H (11 + b)) (hs9 : s ≤ 9) (h0 : B (20 + (12 * b + p)) = n1) : ∃ J, fX0_putSign N a (i32 w) (i32 b) (i32 p) (i32 s) (mk I L r) = some ((), mk J L r) ∧ BR a (pw B w (12 * b + p) s) J ∧ Fr a I J := by
  have o0 := hO.1; have o1 := hO.2.1; have o2 := hO.2.2.1; have o3 := hO.2.2.2.1; have o4 := hO.2.2.2.2.1; have o5 := hO.2.2.2.2.2.1; have wd_b := hO.2.2.2.2.2.2.1 b (by assumption)
  unfold fX0_putSign
  simp (disch := first | assumption | omega | rfl) only [i_rem, i_pred, i_addn1, i_lit, i_n1, i_add, i_mul, i_sub, i_le, i_lt, i_eq, i_ne1, n1_ne, n1_lt, n1_le, i_lt1, i_le1, bd_s, nar_bi, nar_0, nar_1, if_pos, if_neg, ↓reduceIte, reduceCtorEq, eq_self, if_true, if_false, not_true_eq_false, not_false_eq_true, be_k, be_fI, be_fL, be_pI, be_pL, be_z0, be_z1, be_fR0, be_fR1, be1_a, be1_t, be1_n, be_fR2, be2_a, be2_t, be2_n, be_fR3, be3_a, be3_t, be3_n, be_fR4, be4_a, be4_t, be4_n, be_fR5, be5_a, be5_t, be5_n, be_fR6, be6_a, be6_t, be6_n, be_fR7, be7_a, be7_t, be7_n, c_placeIndex, kS_k, up_at, up_off, be_wn hb, be_sk hb, be_cn hb, be_wr hb, stN_stk]
  refine ⟨_, rfl, ⟨⟨?_, ?_, ?_, ?_⟩, ?_, ?_, ?_, ?_, ?_, ?_⟩, ?_⟩
  · simp (disch := omega) only [up_at, up_off, upL_at, upL_off, if_pos, if_neg, if_true, true_or, or_true, true_and, and_true, be_hr hb, pw]
  · simp (disch := omega) only [up_at, up_off, upL_at, upL_off, if_pos, if_neg, if_true, true_or, or_true, true_and, and_true, be_wn hb, pw]
  · simp (disch := omega) only [up_at, up_off, upL_at, upL_off, if_pos, if_neg, if_true, true_or, or_true, true_and, and_true, be_sk hb, pw]
  · simp (disch := omega) only [up_at, up_off, upL_at, upL_off, if_pos, if_neg, if_true, true_or, or_true, true_and, and_true, be_lp hb, pw]
  · intro l hl
    simp (disch := omega) only [up_at, up_off, upL_at, upL_off, if_pos, if_neg, if_true, true_or, or_true, true_and, and_true, be_ag hb, pw]
  · intro w' hl
    by_cases h : w' = w
    · subst h; simp (disch := omega) only [up_at, up_off, upL_at, upL_off, if_pos, if_neg, if_true, true_or, or_true, true_and, and_true, be_wr hb, pw]
    · simp (disch := omega) only [up_at, up_off, upL_at, upL_off, if_pos, if_neg, if_true, true_or, or_true, true_and, and_true, be_wr hb, pw]
  · intro l hl
    simp (disch := omega) only [up_at, up_off, upL_at, upL_off, if_pos, if_neg, if_true, true_or, or_true, true_and, and_true, be_wa hb, pw]
  · intro i hi
    by_cases h : i = 12 * b + p
    · subst h; simp (disch := omega) only [up_at, up_off, upL_at, upL_off, if_pos, if_neg, if_true, true_or, or_true, true_and, and_true, pw]
    · simp (disch := omega) only [up_at, up_off, upL_at, upL_off, if_pos, if_neg, if_true, true_or, or_true, true_and, and_true, be_mk hb, pw]
  · intro i hi
    by_cases h : i = 12 * b + p
    · subst h; simp (disch := omega) only [up_at, up_off, upL_at, upL_off, if_pos, if_neg, if_true, true_or, or_true, true_and, and_true, pw]
    · simp (disch := omega) only [up_at, up_off, upL_at, upL_off, if_pos, if_neg, if_true, true_or, or_true, true_and, and_true, be_hd hb, pw]
  · intro b' hb'
    by_cases h : b' = b
    · subst h
      rw [cn_on (B := B) (C := pw B w (12 * b' + p) s) (b := b') (p := p) (by omega) (fun q hq hne => by simp (disch := omega) only [pw, if_neg]) h0 (by simp (disch := omega) only [up_at, up_off, upL_at, upL_off, if_pos, if_neg, if_true, true_or, or_true, true_and, and_true, pw]; exact n1_ne' s hs9)]
      simp (disch := omega) only [up_at, up_off, upL_at, upL_off, if_pos, if_neg, if_true, true_or, or_true, true_and, and_true]
    · rw [cn_off (B := B) (C := pw B w (12 * b + p) s) (b := b') (fun q hq => by simp (disch := omega) only [pw, if_neg])]
      simp (disch := omega) only [up_at, up_off, upL_at, upL_off, if_pos, if_neg, if_true, true_or, or_true, true_and, and_true, be_cn hb]
  · intro q hq
    simp (disch := omega) only [up_row]
theorem c_removeSign (hO : hOk H) (ha : isBe a = true) (hb : BR a B I) {b p : Nat} (hbb : b < H 0) (hp : p < H (11 + b)) (h0 : ¬ B (20 + (12 * b + p)) = n1) : ∃ J, fX0_removeSign N a (i32 b) (i32 p) (mk I L r) = some ((), mk J L r) ∧ BR a (tr B (12 * b + p)) J ∧ Fr a I J := by
  have o0 := hO.1; have o1 := hO.2.1; have o2 := hO.2.2.1; have o3 := hO.2.2.2.1; have o4 := hO.2.2.2.2.1; have o5 := hO.2.2.2.2.2.1; have wd_b := hO.2.2.2.2.2.2.1 b (by assumption)
  have hc : cn B b = cn (tr B (12 * b + p)) b + 1 := cn_on (p := p) (by omega) (fun q hq hne => by simp (disch := omega) only [tr, if_neg]) (by simp (disch := omega) only [up_at, up_off, upL_at, upL_off, if_pos, if_neg, if_true, true_or, or_true, true_and, and_true, tr]) h0
  unfold fX0_removeSign
  simp (disch := first | assumption | omega | rfl) only [i_rem, i_pred, i_addn1, i_lit, i_n1, i_add, i_mul, i_sub, i_le, i_lt, i_eq, i_ne1, n1_ne, n1_lt, n1_le, i_lt1, i_le1, bd_s, nar_bi, nar_0, nar_1, if_pos, if_neg, ↓reduceIte, reduceCtorEq, eq_self, if_true, if_false, not_true_eq_false, not_false_eq_true, be_k, be_fI, be_fL, be_pI, be_pL, be_z0, be_z1, be_fR0, be_fR1, be1_a, be1_t, be1_n, be_fR2, be2_a, be2_t, be2_n, be_fR3, be3_a, be3_t, be3_n, be_fR4, be4_a, be4_t, be4_n, be_fR5, be5_a, be5_t, be5_n, be_fR6, be6_a, be6_t, be6_n, be_fR7, be7_a, be7_t, be7_n, c_placeIndex, up_at, up_off, be_cn hb, hc]
  refine ⟨_, rfl, ⟨⟨?_, ?_, ?_, ?_⟩, ?_, ?_, ?_, ?_, ?_, ?_⟩, ?_⟩
  · simp (disch := omega) only [up_at, up_off, upL_at, upL_off, if_pos, if_neg, if_true, true_or, or_true, true_and, and_true, be_hr hb, tr]
  · simp (disch := omega) only [up_at, up_off, upL_at, upL_off, if_pos, if_neg, if_true, true_or, or_true, true_and, and_true, be_wn hb, tr]
  · simp (disch := omega) only [up_at, up_off, upL_at, upL_off, if_pos, if_neg, if_true, true_or, or_true, true_and, and_true, be_sk hb, tr]
  · simp (disch := omega) only [up_at, up_off, upL_at, upL_off, if_pos, if_neg, if_true, true_or, or_true, true_and, and_true, be_lp hb, tr]
  · intro l hl
    simp (disch := omega) only [up_at, up_off, upL_at, upL_off, if_pos, if_neg, if_true, true_or, or_true, true_and, and_true, be_ag hb, tr]
  · intro w' hl
    simp (disch := omega) only [up_at, up_off, upL_at, upL_off, if_pos, if_neg, if_true, true_or, or_true, true_and, and_true, be_wr hb, tr]
  · intro l hl
    simp (disch := omega) only [up_at, up_off, upL_at, upL_off, if_pos, if_neg, if_true, true_or, or_true, true_and, and_true, be_wa hb, tr]
  · intro i hi
    by_cases h : i = 12 * b + p
    · subst h; simp (disch := omega) only [up_at, up_off, upL_at, upL_off, if_pos, if_neg, if_true, true_or, or_true, true_and, and_true, tr]
    · simp (disch := omega) only [up_at, up_off, upL_at, upL_off, if_pos, if_neg, if_true, true_or, or_true, true_and, and_true, be_mk hb, tr]
  · intro i hi
    by_cases h : i = 12 * b + p
    · subst h; simp (disch := omega) only [up_at, up_off, upL_at, upL_off, if_pos, if_neg, if_true, true_or, or_true, true_and, and_true, tr]
    · simp (disch := omega) only [up_at, up_off, upL_at, upL_off, if_pos, if_neg, if_true, true_or, or_true, true_and, and_true, be_hd hb, tr]
  · intro b' hb'
    by_cases h : b' = b
    · subst h
      simp (disch := omega) only [up_at, up_off, upL_at, upL_off, if_pos, if_neg, if_true, true_or, or_true, true_and, and_true, Nat.add_sub_cancel]
    · rw [cn_off (B := B) (C := tr B (12 * b + p)) (b := b') (fun q hq => by simp (disch := omega) only [tr, if_neg])]
      simp (disch := omega) only [up_at, up_off, upL_at, upL_off, if_pos, if_neg, if_true, true_or, or_true, true_and, and_true, be_cn hb]
  · intro q hq
    simp (disch := omega) only [up_row]
end
