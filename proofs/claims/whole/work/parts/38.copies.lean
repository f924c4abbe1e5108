/-! ===== IMAGES ===== -/
def cpyL (I : Nat → Nat → Int64) (s so d e n : Nat) : Nat → Nat → Int64 := fun a k => if a = d ∧ e ≤ k ∧ k < e + n then I s (so + (k - e)) else I a k
theorem cpyL_off {I : Nat → Nat → Int64} {s so d e n a k : Nat} (h : a ≠ d) : cpyL I s so d e n a k = I a k := by rw [cpyL, if_neg (fun z => h z.1)]
theorem cpyL_row {I : Nat → Nat → Int64} {s so d e n a : Nat} (h : a ≠ d) : cpyL I s so d e n a = I a := by funext k; exact cpyL_off h
theorem cpyL_in {I : Nat → Nat → Int64} {s so d e n k : Nat} (h : e ≤ k ∧ k < e + n) : cpyL I s so d e n d k = I s (so + (k - e)) := by rw [cpyL, if_pos ⟨rfl, h⟩]
theorem cpyL_out {I : Nat → Nat → Int64} {s so d e n a k : Nat} (h : ¬ (e ≤ k ∧ k < e + n)) : cpyL I s so d e n a k = I a k := by rw [cpyL, if_neg (fun z => h z.2)]
theorem cpyL_0 {I : Nat → Nat → Int64} {s so d e : Nat} : cpyL I s so d e 0 = I := by
  funext a k; rw [cpyL, if_neg (by omega)]
theorem cpyL_up {I : Nat → Nat → Int64} {s so d e n : Nat} : upL (cpyL I s so d e n) d (e + n) (I s (so + n)) = cpyL I s so d e (n + 1) := by
  funext a k
  simp only [upL, cpyL]
  by_cases h1 : a = d
  · by_cases h2 : k = e + n
    · subst h2; simp [h1]
    · by_cases h3 : e ≤ k ∧ k < e + n
      · simp only [h1, h2, h3]; simp; omega
      · have : ¬ (e ≤ k ∧ k < e + (n + 1)) := by omega
        simp [h1, h2, h3, this]
  · simp [h1]
section
variable {H : Nat → Nat} {W : Nat → List Nat} {B : Nat → Int32} {D : Option Say} {I : Nat → Nat → Int32} {L : Nat → Nat → Int64} {r : Bool} {N a : Nat}
theorem mk_cL {a0 a1 sp dp n m0 m1 : Nat} (k0 : K0 a0 = 21) (k1 : K0 a1 = 21) (h0 : N0 a0 = m0) (h1 : N0 a1 = m1) (g0 : sp + n ≤ m0) (g1 : dp + n ≤ m1) (q0 : m0 < 100000) (q1 : m1 < 100000) : cL (mk I L r) a0 (i32 sp) a1 (i32 dp) (i32 n) = some (mk I (cpyL L a0 sp a1 dp n) r) := by
  have z : ∀ k, k < 2147483648 → ¬ i32 k < 0 := fun k hk h => by rw [i_0, i_lt hk (by omega)] at h; omega
  rw [cL, if_pos]
  · rw [i_cl (by omega), i_cl (by omega), i_cl (by omega)]
    have e : va_up L a1 (va_cpy (L a0) (L a1) sp dp n) = cpyL L a0 sp a1 dp n := by
      funext a k
      simp only [va_up, va_cpy, cpyL]
      by_cases h : a = a1
      · subst h; simp [va_cpy]
      · simp [h]
    show some (I, va_up L a1 (va_cpy (L a0) (L a1) sp dp n), R0 r, K0, N0, 0) = _
    rw [e]; rfl
  · refine ⟨k0, k1, z _ (by omega), z _ (by omega), z _ (by omega), ?_, ?_⟩
    · rw [i_cl (by omega), i_cl (by omega)]; show _ ≤ N0 a0; omega
    · rw [i_cl (by omega), i_cl (by omega)]; show _ ≤ N0 a1; omega
theorem isSh_d {a c : Nat} (h : isSh a = true) (g : isSh c = true) (n : a ≠ c) : a + 11 ≤ c ∨ c + 11 ≤ a := by
  have := isSh_c h; have := isSh_c g; omega
theorem isSe_d {a c : Nat} (h : isSe a = true) (g : isSe c = true) (n : a ≠ c) : a + 5 ≤ c ∨ c + 5 ≤ a := by
  have := isSe_c h; have := isSe_c g; omega
theorem c_shCopy {c : Nat} (ha : isSh a = true) (hc : isSh c = true) (n : a ≠ c) (hO : hOk H) (hs : RS c H I) (hn : NS c H W L) (hl : LT c I) : ∃ J K, fX8_copyFrom N a c (mk I L r) = some ((), mk J K r) ∧ RS a H J ∧ NS a H W K ∧ LT a J ∧ J a 16 = I c 16 ∧ (∀ q, (q < a ∨ a + 11 ≤ q) → J q = I q) ∧ ∀ q, (q < a ∨ a + 11 ≤ q) → K q = L q := by
  have o0 := hO.1; have o1 := hO.2.1; have o2 := hO.2.2.1; have o3 := hO.2.2.2.1; have o4 := hO.2.2.2.2.1; have o5 := hO.2.2.2.2.2.1
  have d := isSh_d ha hc n
  have c1 := fun (J : Nat → Nat → Int32) (K : Nat → Nat → Int64) => mk_cL (I := J) (L := K) (r := r) (sp := 0) (dp := 0) (n := 6) (sh1_K hc) (sh1_K ha) (sh1_N hc) (sh1_N ha) (by omega) (by omega) (by omega) (by omega)
  have c2 := fun (J : Nat → Nat → Int32) (K : Nat → Nat → Int64) => mk_cI (I := J) (L := K) (r := r) (sp := 0) (dp := 0) (n := 6) (sh2_K hc) (sh2_K ha) (sh2_N hc) (sh2_N ha) (by omega) (by omega) (by omega) (by omega)
  have c3 := fun (J : Nat → Nat → Int32) (K : Nat → Nat → Int64) => mk_cI (I := J) (L := K) (r := r) (sp := 0) (dp := 0) (n := 6) (sh3_K hc) (sh3_K ha) (sh3_N hc) (sh3_N ha) (by omega) (by omega) (by omega) (by omega)
  have c5 := fun (J : Nat → Nat → Int32) (K : Nat → Nat → Int64) => mk_cI (I := J) (L := K) (r := r) (sp := 0) (dp := 0) (n := 8) (sh5_K hc) (sh5_K ha) (sh5_N hc) (sh5_N ha) (by omega) (by omega) (by omega) (by omega)
  have c7 := fun (J : Nat → Nat → Int32) (K : Nat → Nat → Int64) => mk_cL (I := J) (L := K) (r := r) (sp := 0) (dp := 0) (n := 4) (sh7_K hc) (sh7_K ha) (sh7_N hc) (sh7_N ha) (by omega) (by omega) (by omega) (by omega)
  have c8 := fun (J : Nat → Nat → Int32) (K : Nat → Nat → Int64) => mk_cI (I := J) (L := K) (r := r) (sp := 0) (dp := 0) (n := 4) (sh8_K hc) (sh8_K ha) (sh8_N hc) (sh8_N ha) (by omega) (by omega) (by omega) (by omega)
  have c10 := fun (J : Nat → Nat → Int32) (K : Nat → Nat → Int64) => mk_cL (I := J) (L := K) (r := r) (sp := 0) (dp := 0) (n := 6) (sh10_K hc) (sh10_K ha) (sh10_N hc) (sh10_N ha) (by omega) (by omega) (by omega) (by omega)
  have c11 := fun (J : Nat → Nat → Int32) (K : Nat → Nat → Int64) => mk_cI (I := J) (L := K) (r := r) (sp := 0) (dp := 0) (n := 6) (sh11_K hc) (sh11_K ha) (sh11_N hc) (sh11_N ha) (by omega) (by omega) (by omega) (by omega)
  have c12 := fun (J : Nat → Nat → Int32) (K : Nat → Nat → Int64) => mk_cI (I := J) (L := K) (r := r) (sp := 0) (dp := 0) (n := 6) (sh12_K hc) (sh12_K ha) (sh12_N hc) (sh12_N ha) (by omega) (by omega) (by omega) (by omega)
  have c13 := fun (J : Nat → Nat → Int32) (K : Nat → Nat → Int64) => mk_cI (I := J) (L := K) (r := r) (sp := 0) (dp := 0) (n := 18) (sh13_K hc) (sh13_K ha) (sh13_N hc) (sh13_N ha) (by omega) (by omega) (by omega) (by omega)
  obtain ⟨⟨r0, r6, r9, r4, r14⟩, s1, s2, s3, s4, s5, s6, s7⟩ := hs
  obtain ⟨n1', n2', n3'⟩ := hn
  have fin : ∀ z : Int32, (z = i32 0 ∨ z = i32 1) → I c 15 = z → ∃ J K, fX8_copyFrom N a c (mk I L r) = some ((), mk J K r) ∧ RS a H J ∧ NS a H W K ∧ LT a J ∧ J a 16 = I c 16 ∧ (∀ q, (q < a ∨ a + 11 ≤ q) → J q = I q) ∧ ∀ q, (q < a ∨ a + 11 ≤ q) → K q = L q := by
    intro z hz hz2
    have pz : ∀ (J : Nat → Nat → Int32), pZ (mk J L r) 8 a 15 z = some (mk (up J a 15 z) L r) := by
      intro J
      rcases hz with rfl | rfl
      · exact sh_z0 ha
      · exact sh_z1 ha
    unfold fX8_copyFrom
    simp (disch := first | assumption | omega | rfl) only [i_rem, i_pred, i_addn1, i_lit, i_n1, i_add, i_mul, i_sub, i_le, i_lt, i_eq, i_ne1, n1_ne, n1_lt, n1_le, i_lt1, i_le1, bd_s, nar_bi, nar_0, nar_1, if_pos, if_neg, ↓reduceIte, reduceCtorEq, eq_self, if_true, if_false, not_true_eq_false, not_false_eq_true, sh_k, sh_fI, sh_fL, sh_pI, sh_pL, sh_z0, sh_z1, sh_fR1, sh1_a, sh1_t, sh1_n, sh_fR2, sh2_a, sh2_t, sh2_n, sh_fR3, sh3_a, sh3_t, sh3_n, sh_fR5, sh5_a, sh5_t, sh5_n, sh_fR7, sh7_a, sh7_t, sh7_n, sh_fR8, sh8_a, sh8_t, sh8_n, sh_fR10, sh10_a, sh10_t, sh10_n, sh_fR11, sh11_a, sh11_t, sh11_n, sh_fR12, sh12_a, sh12_t, sh12_n, sh_fR13, sh13_a, sh13_t, sh13_n, c1, c2, c3, c5, c7, c8, c10, c11, c12, c13, up_off, hz2, pz]
    refine ⟨_, _, rfl, ⟨⟨?_, ?_, ?_, ?_, ?_⟩, ?_, ?_, ?_, ?_, ?_, ?_, ?_⟩, ⟨?_, ?_, ?_⟩, ?_, ?_, ?_, ?_⟩
    · simp (disch := omega) only [up_at, up_off, upL_at, upL_off, if_pos, if_neg, if_true, true_or, or_true, true_and, and_true, cpy_off]; exact r0
    · simp (disch := omega) only [up_at, up_off, upL_at, upL_off, if_pos, if_neg, if_true, true_or, or_true, true_and, and_true, cpy_off]; exact r6
    · simp (disch := omega) only [up_at, up_off, upL_at, upL_off, if_pos, if_neg, if_true, true_or, or_true, true_and, and_true, cpy_off]; exact r9
    · simp (disch := omega) only [up_at, up_off, upL_at, upL_off, if_pos, if_neg, if_true, true_or, or_true, true_and, and_true, cpy_off]; exact r4
    · simp (disch := omega) only [up_at, up_off, upL_at, upL_off, if_pos, if_neg, if_true, true_or, or_true, true_and, and_true, cpy_off]; exact r14
    · intro k hk; simp (disch := omega) only [up_at, up_off, upL_at, upL_off, if_pos, if_neg, if_true, true_or, or_true, true_and, and_true, cpy_off, cpy_in, Nat.sub_zero, Nat.zero_add]; exact s1 k hk
    · intro k hk; simp (disch := omega) only [up_at, up_off, upL_at, upL_off, if_pos, if_neg, if_true, true_or, or_true, true_and, and_true, cpy_off, cpy_in, Nat.sub_zero, Nat.zero_add]; exact s2 k hk
    · intro k hk; simp (disch := omega) only [up_at, up_off, upL_at, upL_off, if_pos, if_neg, if_true, true_or, or_true, true_and, and_true, cpy_off, cpy_in, Nat.sub_zero, Nat.zero_add]; exact s3 k hk
    · intro k hk; simp (disch := omega) only [up_at, up_off, upL_at, upL_off, if_pos, if_neg, if_true, true_or, or_true, true_and, and_true, cpy_off, cpy_in, Nat.sub_zero, Nat.zero_add]; exact s4 k hk
    · intro k hk; simp (disch := omega) only [up_at, up_off, upL_at, upL_off, if_pos, if_neg, if_true, true_or, or_true, true_and, and_true, cpy_off, cpy_in, Nat.sub_zero, Nat.zero_add]; exact s5 k hk
    · intro k hk; simp (disch := omega) only [up_at, up_off, upL_at, upL_off, if_pos, if_neg, if_true, true_or, or_true, true_and, and_true, cpy_off, cpy_in, Nat.sub_zero, Nat.zero_add]; exact s6 k hk
    · intro l hl k hk
      have lg2_l := lg_2 (H := H) (l := l); have lg3_l := lg_3 (H := H) (l := l)
      simp (disch := omega) only [up_at, up_off, upL_at, upL_off, if_pos, if_neg, if_true, true_or, or_true, true_and, and_true, cpy_off, cpy_in, Nat.sub_zero, Nat.zero_add]; exact s7 l hl k hk
    · intro k hk
      simp (disch := omega) only [cpyL_off, cpyL_in, Nat.sub_zero, Nat.zero_add]; exact n1' k hk
    · intro k hk
      simp (disch := omega) only [cpyL_off, cpyL_in, Nat.sub_zero, Nat.zero_add]; exact n2' k hk
    · intro k hk
      simp (disch := omega) only [cpyL_off, cpyL_in, Nat.sub_zero, Nat.zero_add]; exact n3' k hk
    · unfold LT
      simp (disch := omega) only [up_at, up_off, upL_at, upL_off, if_pos, if_neg, if_true, true_or, or_true, true_and, and_true, cpy_off]; exact hz
    · simp (disch := omega) only [up_at, up_off, upL_at, upL_off, if_pos, if_neg, if_true, true_or, or_true, true_and, and_true, cpy_off]
    · intro q hq; simp (disch := omega) only [up_row, cpy_row]
    · intro q hq; simp (disch := omega) only [cpyL_row]
  rcases hl with hl | hl
  · exact fin _ (Or.inl rfl) hl
  · exact fin _ (Or.inr rfl) hl
theorem c_seCopy {c : Nat} (ha : isSe a = true) (hc : isSe c = true) (n : a ≠ c) (hs : SS c H D I) : ∃ J, fX7_copyFrom N a c (mk I L r) = some ((), mk J L r) ∧ SS a H D J ∧ J a 6 = I c 6 ∧ ∀ q, (q < a ∨ a + 5 ≤ q) → J q = I q := by
  have d := isSe_d ha hc n
  have c1 := fun (J : Nat → Nat → Int32) => mk_cI (I := J) (L := L) (r := r) (sp := 0) (dp := 0) (n := 40) (se1_K hc) (se1_K ha) (se1_N hc) (se1_N ha) (by omega) (by omega) (by omega) (by omega)
  have c2 := fun (J : Nat → Nat → Int32) => mk_cI (I := J) (L := L) (r := r) (sp := 0) (dp := 0) (n := 40) (se2_K hc) (se2_K ha) (se2_N hc) (se2_N ha) (by omega) (by omega) (by omega) (by omega)
  have c3 := fun (J : Nat → Nat → Int32) => mk_cI (I := J) (L := L) (r := r) (sp := 0) (dp := 0) (n := 40) (se3_K hc) (se3_K ha) (se3_N hc) (se3_N ha) (by omega) (by omega) (by omega) (by omega)
  unfold fX7_copyFrom
  simp (disch := first | assumption | omega | rfl) only [i_rem, i_pred, i_addn1, i_lit, i_n1, i_add, i_mul, i_sub, i_le, i_lt, i_eq, i_ne1, n1_ne, n1_lt, n1_le, i_lt1, i_le1, bd_s, nar_bi, nar_0, nar_1, if_pos, if_neg, ↓reduceIte, reduceCtorEq, eq_self, if_true, if_false, not_true_eq_false, not_false_eq_true, se_k, se_fI, se_fL, se_pI, se_pL, se_z0, se_z1, se_fR0, se_fR1, se1_a, se1_t, se1_n, se_fR2, se2_a, se2_t, se2_n, se_fR3, se3_a, se3_t, se3_n, se_fR4, se4_a, se4_t, se4_n, c1, c2, c3, up_off, cpy_off]
  refine ⟨_, rfl, ?_, ?_, ?_⟩
  · cases D with
    | none =>
      show _ = i32 0
      simp (disch := omega) only [up_at, up_off, upL_at, upL_off, if_pos, if_neg, if_true, true_or, or_true, true_and, and_true, cpy_off]; exact hs
    | some d =>
      obtain ⟨⟨o, h1, h2, h3⟩, st, ⟨h4, h5, h6⟩, h7, h8⟩ := hs
      refine ⟨⟨o, h1, h2, ?_⟩, st, ⟨?_, h5, fun i hi => ⟨?_, ?_, ?_⟩⟩, h7, h8⟩
      · simp (disch := omega) only [up_at, up_off, upL_at, upL_off, if_pos, if_neg, if_true, true_or, or_true, true_and, and_true, cpy_off]; exact h3
      · simp (disch := omega) only [up_at, up_off, upL_at, upL_off, if_pos, if_neg, if_true, true_or, or_true, true_and, and_true, cpy_off]; exact h4
      · simp (disch := omega) only [up_at, up_off, upL_at, upL_off, if_pos, if_neg, if_true, true_or, or_true, true_and, and_true, cpy_off, cpy_in, Nat.sub_zero, Nat.zero_add]; exact (h6 i hi).1
      · simp (disch := omega) only [up_at, up_off, upL_at, upL_off, if_pos, if_neg, if_true, true_or, or_true, true_and, and_true, cpy_off, cpy_in, Nat.sub_zero, Nat.zero_add]; exact (h6 i hi).2.1
      · simp (disch := omega) only [up_at, up_off, upL_at, upL_off, if_pos, if_neg, if_true, true_or, or_true, true_and, and_true, cpy_off, cpy_in, Nat.sub_zero, Nat.zero_add]; exact (h6 i hi).2.2
  · simp (disch := omega) only [up_at, up_off, upL_at, upL_off, if_pos, if_neg, if_true, true_or, or_true, true_and, and_true, cpy_off]
  · intro q hq; simp (disch := omega) only [up_row, cpy_row]
end
