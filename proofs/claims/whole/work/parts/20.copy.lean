/-- n ints of the cell s, from so on, are copied to the cell d, from e on -/
def cpy (I : Nat → Nat → Int32) (s so d e n : Nat) : Nat → Nat → Int32 := fun a k => if a = d ∧ e ≤ k ∧ k < e + n then I s (so + (k - e)) else I a k
theorem cpy_off {I : Nat → Nat → Int32} {s so d e n a k : Nat} (h : a ≠ d) : cpy I s so d e n a k = I a k := by rw [cpy, if_neg (fun z => h z.1)]
theorem cpy_row {I : Nat → Nat → Int32} {s so d e n a : Nat} (h : a ≠ d) : cpy I s so d e n a = I a := by funext k; exact cpy_off h
theorem cpy_in {I : Nat → Nat → Int32} {s so d e n k : Nat} (h : e ≤ k ∧ k < e + n) : cpy I s so d e n d k = I s (so + (k - e)) := by rw [cpy, if_pos ⟨rfl, h⟩]
theorem cpy_out {I : Nat → Nat → Int32} {s so d e n a k : Nat} (h : ¬ (e ≤ k ∧ k < e + n)) : cpy I s so d e n a k = I a k := by rw [cpy, if_neg (fun z => h z.2)]
theorem cpy_0 {I : Nat → Nat → Int32} {s so d e : Nat} : cpy I s so d e 0 = I := by
  funext a k; rw [cpy, if_neg]; omega
theorem cpy_up {I : Nat → Nat → Int32} {s so d e n : Nat} : up (cpy I s so d e n) d (e + n) (I s (so + n)) = cpy I s so d e (n + 1) := by
  funext a k
  simp only [up, cpy]
  by_cases h1 : a = d
  · by_cases h2 : k = e + n
    · subst h2; simp [h1]
    · by_cases h3 : e ≤ k ∧ k < e + n
      · simp only [h1, h2, h3]; simp; omega
      · have : ¬ (e ≤ k ∧ k < e + (n + 1)) := by omega
        simp [h1, h2, h3, this]
  · simp [h1]
section
variable {H : Nat → Nat} {B : Nat → Int32} {I : Nat → Nat → Int32} {L : Nat → Nat → Int64} {r : Bool} {N a : Nat}
theorem mk_cI {a0 a1 sp dp n m0 m1 : Nat} (k0 : K0 a0 = 20) (k1 : K0 a1 = 20) (h0 : N0 a0 = m0) (h1 : N0 a1 = m1) (g0 : sp + n ≤ m0) (g1 : dp + n ≤ m1) (q0 : m0 < 100000) (q1 : m1 < 100000) : cI (mk I L r) a0 (i32 sp) a1 (i32 dp) (i32 n) = some (mk (cpy I a0 sp a1 dp n) L r) := by
  have z : ∀ k, k < 2147483648 → ¬ i32 k < 0 := fun k hk h => by rw [i_0, i_lt hk (by omega)] at h; omega
  rw [cI, if_pos]
  · rw [i_cl (by omega), i_cl (by omega), i_cl (by omega)]
    have e : va_up I a1 (va_cpy (I a0) (I a1) sp dp n) = cpy I a0 sp a1 dp n := by
      funext a k
      simp only [va_up, va_cpy, cpy]
      by_cases h : a = a1
      · subst h; simp [va_cpy]
      · simp [h]
    show some (va_up I a1 (va_cpy (I a0) (I a1) sp dp n), L, R0 r, K0, N0, 0) = _
    rw [e]; rfl
  · refine ⟨k0, k1, z _ (by omega), z _ (by omega), z _ (by omega), ?_, ?_⟩
    · rw [i_cl (by omega), i_cl (by omega)]; show _ ≤ N0 a0; omega
    · rw [i_cl (by omega), i_cl (by omega)]; show _ ≤ N0 a1; omega
theorem isBe_d {a c : Nat} (h : isBe a = true) (g : isBe c = true) (n : a ≠ c) : a + 8 ≤ c ∨ c + 8 ≤ a := by
  have := isBe_c h; have := isBe_c g; omega
theorem BR_c {C : Nat → Int32} (hb : BR a B I) (e : ∀ k, k < 164 → C k = B k) : BR a C I := by
  refine ⟨⟨?_, ?_, ?_, ?_⟩, ?_, ?_, ?_, ?_, ?_, ?_⟩
  · rw [e 0 (by omega)]; exact be_hr hb
  · rw [e 1 (by omega)]; exact be_wn hb
  · rw [e 2 (by omega)]; exact be_sk hb
  · rw [e 3 (by omega)]; exact be_lp hb
  · intro k hk; rw [e _ (by omega)]; exact be_ag hb hk
  · intro k hk; rw [e _ (by omega)]; exact be_wr hb hk
  · intro k hk; rw [e _ (by omega)]; exact be_wa hb hk
  · intro k hk; rw [e _ (by omega)]; exact be_mk hb hk
  · intro k hk; rw [e _ (by omega)]; exact be_hd hb hk
  · intro k hk; rw [cn_off (B := B) (C := C) (fun p hp => e _ (by omega))]; exact be_cn hb hk
theorem BR_fr {J : Nat → Nat → Int32} {c : Nat} (hb : BR c B I) (hc : isBe c = true) (ha : isBe a = true) (n : a ≠ c) (h : Fr a I J) : BR c B J := by
  have d := isBe_d ha hc n
  have e : ∀ k, k < 8 → J (c + k) = I (c + k) := fun k hk => h (c + k) (by omega)
  have e0 : J c = I c := e 0 (by omega)
  unfold BR at *
  simp only [e0, e 5 (by omega), e 6 (by omega), e 4 (by omega), e 1 (by omega), e 2 (by omega), e 3 (by omega)]
  exact hb
theorem c_copyFrom {c : Nat} (ha : isBe a = true) (hc : isBe c = true) (n : a ≠ c) (hb : BR c B I) : ∃ J, fX0_copyFrom N a c (mk I L r) = some ((), mk J L r) ∧ BR a B J ∧ Fr a I J := by
  have d := isBe_d ha hc n
  have c1 := fun (J : Nat → Nat → Int32) => mk_cI (I := J) (L := L) (r := r) (sp := 0) (dp := 0) (n := 72) (be1_K hc) (be1_K ha) (be1_N hc) (be1_N ha) (by omega) (by omega) (by omega) (by omega)
  have c2 := fun (J : Nat → Nat → Int32) => mk_cI (I := J) (L := L) (r := r) (sp := 0) (dp := 0) (n := 72) (be2_K hc) (be2_K ha) (be2_N hc) (be2_N ha) (by omega) (by omega) (by omega) (by omega)
  have c3 := fun (J : Nat → Nat → Int32) => mk_cI (I := J) (L := L) (r := r) (sp := 0) (dp := 0) (n := 6) (be3_K hc) (be3_K ha) (be3_N hc) (be3_N ha) (by omega) (by omega) (by omega) (by omega)
  have c4 := fun (J : Nat → Nat → Int32) => mk_cI (I := J) (L := L) (r := r) (sp := 0) (dp := 0) (n := 6) (be4_K hc) (be4_K ha) (be4_N hc) (be4_N ha) (by omega) (by omega) (by omega) (by omega)
  have c5 := fun (J : Nat → Nat → Int32) => mk_cI (I := J) (L := L) (r := r) (sp := 0) (dp := 0) (n := 6) (be5_K hc) (be5_K ha) (be5_N hc) (be5_N ha) (by omega) (by omega) (by omega) (by omega)
  have c6 := fun (J : Nat → Nat → Int32) => mk_cI (I := J) (L := L) (r := r) (sp := 0) (dp := 0) (n := 4) (be6_K hc) (be6_K ha) (be6_N hc) (be6_N ha) (by omega) (by omega) (by omega) (by omega)
  unfold fX0_copyFrom
  simp (disch := first | assumption | omega | rfl) only [i_rem, i_pred, i_addn1, i_lit, i_n1, i_add, i_mul, i_sub, i_le, i_lt, i_eq, i_ne1, n1_ne, n1_lt, n1_le, i_lt1, i_le1, bd_s, nar_bi, nar_0, nar_1, if_pos, if_neg, ↓reduceIte, reduceCtorEq, eq_self, if_true, if_false, not_true_eq_false, not_false_eq_true, be_k, be_fI, be_fL, be_pI, be_pL, be_z0, be_z1, be_fR0, be_fR1, be1_a, be1_t, be1_n, be_fR2, be2_a, be2_t, be2_n, be_fR3, be3_a, be3_t, be3_n, be_fR4, be4_a, be4_t, be4_n, be_fR5, be5_a, be5_t, be5_n, be_fR6, be6_a, be6_t, be6_n, be_fR7, be7_a, be7_t, be7_n, c1, c2, c3, c4, c5, c6]
  refine ⟨_, rfl, ⟨⟨?_, ?_, ?_, ?_⟩, ?_, ?_, ?_, ?_, ?_, ?_⟩, ?_⟩
  · simp (disch := omega) only [up_at, up_off, upL_at, upL_off, if_pos, if_neg, if_true, true_or, or_true, true_and, and_true, cpy_off, be_hr hb]
  · simp (disch := omega) only [up_at, up_off, upL_at, upL_off, if_pos, if_neg, if_true, true_or, or_true, true_and, and_true, cpy_off, be_wn hb]
  · simp (disch := omega) only [up_at, up_off, upL_at, upL_off, if_pos, if_neg, if_true, true_or, or_true, true_and, and_true, cpy_off, be_sk hb]
  · simp (disch := omega) only [up_at, up_off, upL_at, upL_off, if_pos, if_neg, if_true, true_or, or_true, true_and, and_true, cpy_off, be_lp hb]
  · intro k hk; simp (disch := omega) only [up_at, up_off, upL_at, upL_off, if_pos, if_neg, if_true, true_or, or_true, true_and, and_true, cpy_off, cpy_in, Nat.sub_zero, Nat.zero_add, be_ag hb]
  · intro k hk; simp (disch := omega) only [up_at, up_off, upL_at, upL_off, if_pos, if_neg, if_true, true_or, or_true, true_and, and_true, cpy_off, cpy_in, Nat.sub_zero, Nat.zero_add, be_wr hb]
  · intro k hk; simp (disch := omega) only [up_at, up_off, upL_at, upL_off, if_pos, if_neg, if_true, true_or, or_true, true_and, and_true, cpy_off, cpy_in, Nat.sub_zero, Nat.zero_add, be_wa hb]
  · intro k hk; simp (disch := omega) only [up_at, up_off, upL_at, upL_off, if_pos, if_neg, if_true, true_or, or_true, true_and, and_true, cpy_off, cpy_in, Nat.sub_zero, Nat.zero_add, be_mk hb]
  · intro k hk; simp (disch := omega) only [up_at, up_off, upL_at, upL_off, if_pos, if_neg, if_true, true_or, or_true, true_and, and_true, cpy_off, cpy_in, Nat.sub_zero, Nat.zero_add, be_hd hb]
  · intro k hk; simp (disch := omega) only [up_at, up_off, upL_at, upL_off, if_pos, if_neg, if_true, true_or, or_true, true_and, and_true, cpy_off, cpy_in, Nat.sub_zero, Nat.zero_add, be_cn hb]
  · intro q hq; simp (disch := omega) only [up_row, cpy_row]
/-- nothing written, nothing lapsed, the first hour -/
def B00 : Nat → Int32 := fun k => if k < 20 then i32 0 else n1
theorem cn_00 {b : Nat} : cn B00 b = 0 := by
  rw [cn_cnt]
  have : cnt (fun p => !decide (B00 (20 + (12 * b + p)) = n1)) (0 + 12) = cnt (fun p => !decide (B00 (20 + (12 * b + p)) = n1)) 0 := cnt_add 12 (fun k h1 h2 => by
    have : B00 (20 + (12 * b + k)) = n1 := by rw [B00, if_neg (by omega)]
    simp [this])
  exact this
theorem c_clear (hN : 1200 < N) (ha : isBe a = true) : ∃ J, fX0_clear N a (mk I L r) = some ((), mk J L r) ∧ BR a B00 J ∧ Fr a I J := by
  have f1 := fun (J : Nat → Nat → Int32) => j_fill (N := N) (I := J) (L := L) (r := r) (v := n1) (n := 72) (by omega) (by omega) (be1_n ha) (fun J k hk => be1_t ha hk)
  have f2 := fun (J : Nat → Nat → Int32) => j_fill (N := N) (I := J) (L := L) (r := r) (v := n1) (n := 72) (by omega) (by omega) (be2_n ha) (fun J k hk => be2_t ha hk)
  have f3 := fun (J : Nat → Nat → Int32) => j_fill (N := N) (I := J) (L := L) (r := r) (v := i32 0) (n := 6) (by omega) (by omega) (be3_n ha) (fun J k hk => be3_t ha hk)
  have f4 := fun (J : Nat → Nat → Int32) => j_fill (N := N) (I := J) (L := L) (r := r) (v := i32 0) (n := 6) (by omega) (by omega) (be4_n ha) (fun J k hk => be4_t ha hk)
  have f5 := fun (J : Nat → Nat → Int32) => j_fill (N := N) (I := J) (L := L) (r := r) (v := i32 0) (n := 6) (by omega) (by omega) (be5_n ha) (fun J k hk => be5_t ha hk)
  have f6 := fun (J : Nat → Nat → Int32) => j_fill (N := N) (I := J) (L := L) (r := r) (v := i32 0) (n := 4) (by omega) (by omega) (be6_n ha) (fun J k hk => be6_t ha hk)
  unfold fX0_clear
  simp (disch := first | assumption | omega | rfl) only [i_rem, i_pred, i_addn1, i_lit, i_n1, i_add, i_mul, i_sub, i_le, i_lt, i_eq, i_ne1, n1_ne, n1_lt, n1_le, i_lt1, i_le1, bd_s, nar_bi, nar_0, nar_1, if_pos, if_neg, ↓reduceIte, reduceCtorEq, eq_self, if_true, if_false, not_true_eq_false, not_false_eq_true, be_k, be_fI, be_fL, be_pI, be_pL, be_z0, be_z1, be_fR0, be_fR1, be1_a, be1_t, be1_n, be_fR2, be2_a, be2_t, be2_n, be_fR3, be3_a, be3_t, be3_n, be_fR4, be4_a, be4_t, be4_n, be_fR5, be5_a, be5_t, be5_n, be_fR6, be6_a, be6_t, be6_n, be_fR7, be7_a, be7_t, be7_n, f1, f2, f3, f4, f5, f6]
  refine ⟨_, rfl, ⟨⟨?_, ?_, ?_, ?_⟩, ?_, ?_, ?_, ?_, ?_, ?_⟩, ?_⟩
  · simp (disch := omega) only [up_at, up_off, upL_at, upL_off, if_pos, if_neg, if_true, true_or, or_true, true_and, and_true, B00]
  · simp (disch := omega) only [up_at, up_off, upL_at, upL_off, if_pos, if_neg, if_true, true_or, or_true, true_and, and_true, B00]
  · simp (disch := omega) only [up_at, up_off, upL_at, upL_off, if_pos, if_neg, if_true, true_or, or_true, true_and, and_true, B00]
  · simp (disch := omega) only [up_at, up_off, upL_at, upL_off, if_pos, if_neg, if_true, true_or, or_true, true_and, and_true, B00]
  · intro k hk; simp (disch := omega) only [up_at, up_off, upL_at, upL_off, if_pos, if_neg, if_true, true_or, or_true, true_and, and_true, fi_off, fi_in, B00]
  · intro k hk; simp (disch := omega) only [up_at, up_off, upL_at, upL_off, if_pos, if_neg, if_true, true_or, or_true, true_and, and_true, fi_off, fi_in, B00]
  · intro k hk; simp (disch := omega) only [up_at, up_off, upL_at, upL_off, if_pos, if_neg, if_true, true_or, or_true, true_and, and_true, fi_off, fi_in, B00]
  · intro k hk; simp (disch := omega) only [up_at, up_off, upL_at, upL_off, if_pos, if_neg, if_true, true_or, or_true, true_and, and_true, fi_off, fi_in, B00]
  · intro k hk; simp (disch := omega) only [up_at, up_off, upL_at, upL_off, if_pos, if_neg, if_true, true_or, or_true, true_and, and_true, fi_off, fi_in, B00]
  · intro k hk; simp (disch := omega) only [up_at, up_off, upL_at, upL_off, if_pos, if_neg, if_true, true_or, or_true, true_and, and_true, fi_off, fi_in, cn_00]
  · intro q hq; simp (disch := omega) only [up_row, fi_row]
/-! the past -/
/-- how many, and which, after one more -/
def pushN (s : Nat) : Nat := if s = 8 then 8 else s + 1
def pushP (s : Nat) (P : Nat → Nat → Int32) (B : Nat → Int32) : Nat → Nat → Int32 := fun j => if s = 8 then (if j = 7 then B else P (j + 1)) else (if j = s then B else P j)
def PR (s : Nat) (P : Nat → Nat → Int32) (I : Nat → Nat → Int32) : Prop := ∃ f, f < 8 ∧ s ≤ 8 ∧ I 42 1 = i32 f ∧ I 42 2 = i32 s ∧ ∀ j, j < s → BR (44 + 8 * ((f + j) % 8)) (P j) I
def MP (s : Nat) (P : Nat → Nat → Int32) (I : Nat → Nat → Int32) : Prop := s ≤ 8 ∧ I 186 24 = i32 s ∧ ∀ j, j < s → MB (I 191) (164 * j) (P j)
theorem pa_copies {i : Nat} (hi : i < 8) : aR (mk I L r) 23 43 (i32 i) = some (44 + 8 * i) := by
  refine mk_aR (n := 8) (by decide +kernel) (by decide +kernel) hi (by decide) ?_
  rcases i with _ | _ | _ | _ | _ | _ | _ | _ | i
  all_goals first | omega | (cases r <;> decide +kernel)
theorem isBe_p {i : Nat} (hi : i < 8) : isBe (44 + 8 * i) = true := by
  rcases i with _ | _ | _ | _ | _ | _ | _ | _ | i
  all_goals first | omega | rfl
/-- the frame of the past: Past and its copies -/
def FrP (I J : Nat → Nat → Int32) : Prop := ∀ q, (q < 42 ∨ 108 ≤ q) → J q = I q
theorem BR_up {c q k : Nat} {v : Int32} (hb : BR c B I) (hq : q < c ∨ c + 8 ≤ q) : BR c B (up I q k v) := by
  have e : ∀ j, j < 8 → up I q k v (c + j) = I (c + j) := fun j hj => up_row (by omega)
  have e0 : up I q k v c = I c := e 0 (by omega)
  unfold BR at *
  simp only [e0, e 5 (by omega), e 6 (by omega), e 4 (by omega), e 1 (by omega), e 2 (by omega), e 3 (by omega)]
  exact hb
theorem c_keepJ {s f : Nat} {P : Nat → Nat → Int32} (hf : f < 8) (hs : s < 8) (h1 : I 42 1 = i32 f) (h2 : I 42 2 = i32 s) (hP : ∀ j, j < s → BR (44 + 8 * ((f + j) % 8)) (P j) I) (hb : BR 26 B I) : ∃ J, fX5_keepCopy_J32 N 42 26 (mk I L r) = some ((), mk J L r) ∧ PR (s + 1) (fun j => if j = s then B else P j) J ∧ FrP I J := by
  have m8 := Nat.mod_lt (f + s) (show 8 > 0 by omega)
  have hi := isBe_p m8
  obtain ⟨J, e, g1, g2⟩ := c_copyFrom (N := N) (L := L) (r := r) hi (show isBe 26 = true from rfl) (by omega) hb
  have e42 : J 42 = I 42 := g2 42 (by omega)
  unfold fX5_keepCopy_J32
  simp (disch := first | assumption | omega | rfl) only [i_rem, i_pred, i_addn1, i_lit, i_n1, i_add, i_mul, i_sub, i_le, i_lt, i_eq, i_ne1, n1_ne, n1_lt, n1_le, i_lt1, i_le1, bd_s, nar_bi, nar_0, nar_1, if_pos, if_neg, ↓reduceIte, reduceCtorEq, eq_self, if_true, if_false, not_true_eq_false, not_false_eq_true, pa_k, pa_fI, pa_fL, pa_pI, pa_pL, pa_z0, pa_z1, pa_fR0, h1, h2, pa_copies, be_k hi, e, e42]
  refine ⟨_, rfl, ⟨f, hf, by omega, ?_, ?_, ?_⟩, ?_⟩
  · simp (disch := omega) only [up_at, up_off, upL_at, upL_off, if_pos, if_neg, if_true, true_or, or_true, true_and, and_true, e42, h1]
  · simp (disch := omega) only [up_at, up_off, upL_at, upL_off, if_pos, if_neg, if_true, true_or, or_true, true_and, and_true]
  · intro j hj
    have mj := Nat.mod_lt (f + j) (show 8 > 0 by omega)
    refine BR_up ?_ (by omega)
    show BR _ (if j = s then B else P j) J
    by_cases h : j = s
    · subst h; rw [if_pos rfl]; exact g1
    · rw [if_neg h]
      refine BR_fr (hP j (by omega)) (isBe_p mj) hi ?_ g2
      omega
  · intro q hq
    rw [up_row (by omega)]
    exact g2 q (by omega)
theorem c_keepCopy {s : Nat} {P : Nat → Nat → Int32} (h : PR s P I) (hb : BR 26 B I) : ∃ J, fX5_keepCopy N 42 26 (mk I L r) = some ((), mk J L r) ∧ PR (pushN s) (pushP s P B) J ∧ FrP I J := by
  obtain ⟨f, hf, h8, h1, h2, hP⟩ := h
  unfold fX5_keepCopy
  by_cases hs : s = 8
  · have m8 := Nat.mod_lt (f + 1) (show 8 > 0 by omega)
    obtain ⟨J, e, g1, g2⟩ := c_keepJ (N := N) (L := L) (r := r) (I := up (up I 42 1 (i32 ((f + 1) % 8))) 42 2 (i32 (s - 1))) (s := s - 1) (f := (f + 1) % 8) (P := fun j => P (j + 1)) m8 (by omega) (by simp (disch := omega) only [up_at, up_off, upL_at, upL_off, if_pos, if_neg, if_true, true_or, or_true, true_and, and_true]) (by simp (disch := omega) only [up_at, up_off, upL_at, upL_off, if_pos, if_neg, if_true, true_or, or_true, true_and, and_true]) (fun j hj => by
      have := hP (j + 1) (by omega)
      rw [show ((f + 1) % 8 + j) % 8 = (f + (j + 1)) % 8 by omega]
      exact BR_up (BR_up this (by omega)) (by omega)) (BR_up (BR_up hb (by omega)) (by omega))
    simp (disch := first | assumption | omega | rfl) only [i_rem, i_pred, i_addn1, i_lit, i_n1, i_add, i_mul, i_sub, i_le, i_lt, i_eq, i_ne1, n1_ne, n1_lt, n1_le, i_lt1, i_le1, bd_s, nar_bi, nar_0, nar_1, if_pos, if_neg, ↓reduceIte, reduceCtorEq, eq_self, if_true, if_false, not_true_eq_false, not_false_eq_true, pa_k, pa_fI, pa_fL, pa_pI, pa_pL, pa_z0, pa_z1, pa_fR0, h1, h2, up_at, e]
    refine ⟨J, rfl, ?_, ?_⟩
    · have e1 : pushN s = s - 1 + 1 := by rw [pushN, if_pos hs]; omega
      have e2 : pushP s P B = fun j => if j = s - 1 then B else P (j + 1) := by
        funext j; rw [pushP, if_pos hs]
        by_cases hj : j = 7
        · rw [if_pos hj, if_pos (by omega)]
        · rw [if_neg hj, if_neg (by omega)]
      rw [e1, e2]; exact g1
    · intro q hq
      rw [g2 q hq, up_row (by omega), up_row (by omega)]
  · obtain ⟨J, e, g1, g2⟩ := c_keepJ (N := N) (L := L) (r := r) hf (show s < 8 by omega) h1 h2 hP hb
    simp (disch := first | assumption | omega | rfl) only [i_rem, i_pred, i_addn1, i_lit, i_n1, i_add, i_mul, i_sub, i_le, i_lt, i_eq, i_ne1, n1_ne, n1_lt, n1_le, i_lt1, i_le1, bd_s, nar_bi, nar_0, nar_1, if_pos, if_neg, ↓reduceIte, reduceCtorEq, eq_self, if_true, if_false, not_true_eq_false, not_false_eq_true, pa_k, pa_fI, pa_fL, pa_pI, pa_pL, pa_z0, pa_z1, pa_fR0, h1, h2, e]
    refine ⟨J, rfl, ?_, g2⟩
    have e1 : pushN s = s + 1 := by rw [pushN, if_neg hs]
    have e2 : pushP s P B = fun j => if j = s then B else P j := by funext j; rw [pushP, if_neg hs]
    rw [e1, e2]; exact g1
theorem c_bringBack0 {s : Nat} {P : Nat → Nat → Int32} (h : PR s P I) (hs : s = 0) : fX5_bringBack N 42 26 (mk I L r) = some (i32 0, mk I L r) := by
  obtain ⟨f, hf, h8, h1, h2, hP⟩ := h
  unfold fX5_bringBack
  simp (disch := first | assumption | omega | rfl) only [i_rem, i_pred, i_addn1, i_lit, i_n1, i_add, i_mul, i_sub, i_le, i_lt, i_eq, i_ne1, n1_ne, n1_lt, n1_le, i_lt1, i_le1, bd_s, nar_bi, nar_0, nar_1, if_pos, if_neg, ↓reduceIte, reduceCtorEq, eq_self, if_true, if_false, not_true_eq_false, not_false_eq_true, pa_k, pa_fI, pa_fL, pa_pI, pa_pL, pa_z0, pa_z1, pa_fR0, h2]
theorem c_bringBack {s : Nat} {P : Nat → Nat → Int32} (h : PR (s + 1) P I) : ∃ J, fX5_bringBack N 42 26 (mk I L r) = some (i32 1, mk J L r) ∧ PR s P J ∧ BR 26 (P s) J ∧ (∀ q, (q < 26 ∨ (34 ≤ q ∧ q < 42) ∨ 108 ≤ q) → J q = I q) ∧ J 42 2 = i32 s := by
  obtain ⟨f, hf, h8, h1, h2, hP⟩ := h
  have m8 := Nat.mod_lt (f + s) (show 8 > 0 by omega)
  have hi := isBe_p m8
  obtain ⟨J, e, g1, g2⟩ := c_copyFrom (N := N) (L := L) (r := r) (I := up I 42 2 (i32 s)) (show isBe 26 = true from rfl) hi (by omega) (BR_up (hP s (by omega)) (by omega))
  have e42 : J 42 = up I 42 2 (i32 s) 42 := g2 42 (by omega)
  unfold fX5_bringBack
  simp (disch := first | assumption | omega | rfl) only [i_rem, i_pred, i_addn1, i_lit, i_n1, i_add, i_mul, i_sub, i_le, i_lt, i_eq, i_ne1, n1_ne, n1_lt, n1_le, i_lt1, i_le1, bd_s, nar_bi, nar_0, nar_1, if_pos, if_neg, ↓reduceIte, reduceCtorEq, eq_self, if_true, if_false, not_true_eq_false, not_false_eq_true, pa_k, pa_fI, pa_fL, pa_pI, pa_pL, pa_z0, pa_z1, pa_fR0, be_k, be_fI, be_fL, be_pI, be_pL, be_z0, be_z1, be_fR0, be_fR1, be1_a, be1_t, be1_n, be_fR2, be2_a, be2_t, be2_n, be_fR3, be3_a, be3_t, be3_n, be_fR4, be4_a, be4_t, be4_n, be_fR5, be5_a, be5_t, be5_n, be_fR6, be6_a, be6_t, be6_n, be_fR7, be7_a, be7_t, be7_n, h1, h2, up_at, pa_copies, Nat.add_sub_cancel, e]
  refine ⟨J, rfl, ⟨f, hf, by omega, ?_, ?_, ?_⟩, g1, ?_, ?_⟩
  · rw [e42]; simp (disch := omega) only [up_at, up_off, upL_at, upL_off, if_pos, if_neg, if_true, true_or, or_true, true_and, and_true, h1]
  · rw [e42]; simp (disch := omega) only [up_at, up_off, upL_at, upL_off, if_pos, if_neg, if_true, true_or, or_true, true_and, and_true]
  · intro j hj
    have mj := Nat.mod_lt (f + j) (show 8 > 0 by omega)
    exact BR_fr (BR_up (hP j (by omega)) (by omega)) (isBe_p mj) rfl (by omega) g2
  · intro q hq
    rw [g2 q (by omega), up_row (by omega)]
  · rw [e42]; simp (disch := omega) only [up_at, up_off, upL_at, upL_off, if_pos, if_neg, if_true, true_or, or_true, true_and, and_true]
end
