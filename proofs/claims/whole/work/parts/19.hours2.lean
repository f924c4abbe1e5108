theorem i_and1 (x : Int32) : x &&& i32 1 = i32 0 ∨ x &&& i32 1 = i32 1 := by
  have h := BitVec.and_one_eq_setWidth_ofBool_getLsbD (x := x.toBitVec)
  have e : (x &&& i32 1).toBitVec = x.toBitVec &&& 1#32 := rfl
  cases hb : x.toBitVec.getLsbD 0 with
  | false => left; apply Int32.toBitVec_inj.mp; rw [e, h, hb]; rfl
  | true => right; apply Int32.toBitVec_inj.mp; rw [e, h, hb]; rfl
section
variable {H : Nat → Nat} {B : Nat → Int32} {I : Nat → Nat → Int32} {L : Nat → Nat → Int64} {r : Bool} {N a : Nat}
theorem wshs_0 {t : Int32} {k : Nat} (hk : k < 14) : ∀ m, wshs H t B m k = B k := by
  intro m
  induction m with
  | zero => rfl
  | succ m ih =>
    have e : wshs H t B (m + 1) = if t < i32 (H (5 + m)) then wshs H t B m else wsh (wshs H t B m) m := rfl
    rw [e]
    split
    · exact ih
    · rw [wsh, if_neg (by omega), if_neg (by omega)]; exact ih
theorem old_0 {l k : Nat} (hk : k ≠ 3 ∧ k ≠ 4 + l) : old H B l k = B k := by
  rw [old]
  split
  · rfl
  · split
    · split
      · rw [b1, if_neg hk.2]
      · rw [b1, if_neg hk.1, b1, if_neg hk.2]
    · rw [b1, if_neg hk.2]
theorem olds_0 {k : Nat} (hk : k ≠ 3 ∧ (k < 4 ∨ 10 ≤ k)) : ∀ m, m ≤ 6 → olds H B m k = B k := by
  intro m
  induction m with
  | zero => intro _; rfl
  | succ m ih =>
    intro hm
    have e : olds H B (m + 1) = old H (olds H B m) m := rfl
    rw [e, old_0 (by omega)]; exact ih (by omega)
theorem hrs_0 {h : Nat} (h0 : B 0 = i32 h) : ∀ m, hrs H B h m 0 = i32 (h + m) := by
  intro m
  cases m with
  | zero => exact h0
  | succ m => rw [hrs, hr1, if_neg (by omega), if_pos rfl]; rfl
theorem BR_hr {h : Nat} (hb : BR a B I) : BR a (fun k => if 10 ≤ k ∧ k < 14 then i32 0 else if k = 0 then i32 (h + 1) else B k) (up (fi I (a + 6) 0 4 (i32 0)) a 9 (i32 (h + 1))) := by
  refine ⟨⟨?_, ?_, ?_, ?_⟩, ?_, ?_, ?_, ?_, ?_, ?_⟩
  · simp (disch := omega) only [up_at, up_off, upL_at, upL_off, if_pos, if_neg, if_true, true_or, or_true, true_and, and_true, fi_off, be_hr hb]
  · simp (disch := omega) only [up_at, up_off, upL_at, upL_off, if_pos, if_neg, if_true, true_or, or_true, true_and, and_true, fi_off, be_wn hb]
  · simp (disch := omega) only [up_at, up_off, upL_at, upL_off, if_pos, if_neg, if_true, true_or, or_true, true_and, and_true, fi_off, be_sk hb]
  · simp (disch := omega) only [up_at, up_off, upL_at, upL_off, if_pos, if_neg, if_true, true_or, or_true, true_and, and_true, fi_off, be_lp hb]
  · intro k hk; simp (disch := omega) only [up_at, up_off, upL_at, upL_off, if_pos, if_neg, if_true, true_or, or_true, true_and, and_true, fi_off, be_ag hb]
  · intro k hk; simp (disch := omega) only [up_at, up_off, upL_at, upL_off, if_pos, if_neg, if_true, true_or, or_true, true_and, and_true, fi_in]
  · intro k hk; simp (disch := omega) only [up_at, up_off, upL_at, upL_off, if_pos, if_neg, if_true, true_or, or_true, true_and, and_true, fi_off, be_wa hb]
  · intro k hk; simp (disch := omega) only [up_at, up_off, upL_at, upL_off, if_pos, if_neg, if_true, true_or, or_true, true_and, and_true, fi_off, be_mk hb]
  · intro k hk; simp (disch := omega) only [up_at, up_off, upL_at, upL_off, if_pos, if_neg, if_true, true_or, or_true, true_and, and_true, fi_off, be_hd hb]
  · intro k hk
    rw [cn_off (B := B) (b := k) (fun p hp => by simp (disch := omega) only [up_at, up_off, upL_at, upL_off, if_pos, if_neg, if_true, true_or, or_true, true_and, and_true])]
    simp (disch := omega) only [up_at, up_off, upL_at, upL_off, if_pos, if_neg, if_true, true_or, or_true, true_and, and_true, fi_off, be_cn hb]
theorem c_passHours (hN : 1200 < N) (hO : hOk H) (hs : RS 4 H I) (ha : isBe a = true) (hb : BR a B I) {h n : Nat} (h0 : B 0 = i32 h) (hh : h + n ≤ 400) : ∃ J, fX0_passHours N a (i32 n) (mk I L r) = some ((), mk J L r) ∧ BR a (hrs H B h n) J ∧ Fr a I J := by
  have o0 := hO.1; have o1 := hO.2.1; have o2 := hO.2.2.1; have o3 := hO.2.2.2.1; have o4 := hO.2.2.2.2.1; have o5 := hO.2.2.2.2.2.1
  unfold fX0_passHours
  simp only [i_lit]
  obtain ⟨M, e, J, rfl, h1, h2⟩ := lp_st (F := fun m u M => fX0_passHours_L2 N a (i32 n) m u M) (m := n) (fun k M => ∃ J, M = mk J L r ∧ BR a (hrs H B h k) J ∧ Fr a I J) (fun M => M) (fun m k M hk hM => by
    obtain ⟨J, rfl, h1, h2⟩ := hM
    have hs' := RS_fr hs ha h2
    have e0 := hrs_0 (H := H) h0 k
    have e1 := be_hr h1
    rw [e0] at e1
    obtain ⟨J1, f1, g1, k1⟩ := c_washBands (L := L) (r := r) (t := tdA H (h + k)) hN hO hs' ha h1
    have hs1 := RS_fr hs' ha k1
    obtain ⟨J2, f2, g2, k2⟩ := c_olds (L := L) (r := r) (u := i32 n) (v := i32 k) hN hO hs1 ha g1
    have e2 := be_hr g2
    rw [olds_0 (by omega) _ (by omega), wshs_0 (by omega), e0] at e2
    have f3 : ∀ (K : Nat → Nat → Int32), fJ7_fill_53178 N (a + 6) (i32 0) (mk K L r) = some ((), mk (fi K (a + 6) 0 4 (i32 0)) L r) := fun K => j_fill (n := 4) (by omega) (by omega) (be6_n ha) (fun J k hk => be6_t ha hk)
    refine ⟨mk (up (fi J2 (a + 6) 0 4 (i32 0)) a 9 (i32 (h + k + 1))) L r, ?_, _, rfl, BR_hr g2, ?_⟩
    · simp (disch := first | assumption | omega | rfl) only [i_rem, i_pred, i_addn1, i_lit, i_n1, i_add, i_mul, i_sub, i_le, i_lt, i_eq, i_ne1, n1_ne, n1_lt, n1_le, i_lt1, i_le1, bd_s, nar_bi, nar_0, nar_1, if_pos, if_neg, ↓reduceIte, reduceCtorEq, eq_self, if_true, if_false, not_true_eq_false, not_false_eq_true, be_k, be_fI, be_fL, be_pI, be_pL, be_z0, be_z1, be_fR0, be_fR1, be1_a, be1_t, be1_n, be_fR2, be2_a, be2_t, be2_n, be_fR3, be3_a, be3_t, be3_n, be_fR4, be4_a, be4_t, be4_n, be_fR5, be5_a, be5_t, be5_n, be_fR6, be6_a, be6_t, be6_n, be_fR7, be7_a, be7_t, be7_n, s4_k, s4_fI, s4_fL, s4_pI, s4_pL, s4_z0, s4_z1, s4_fR1, s41_a, s41_t, s41_n, s4_fR2, s42_a, s42_t, s42_n, s4_fR3, s43_a, s43_t, s43_n, s4_fR5, s45_a, s45_t, s45_n, s4_fR7, s47_a, s47_t, s47_n, s4_fR8, s48_a, s48_t, s48_n, s4_fR10, s410_a, s410_t, s410_n, s4_fR11, s411_a, s411_t, s411_n, s4_fR12, s412_a, s412_t, s412_n, s4_fR13, s413_a, s413_t, s413_n, fX0_passHours_L2, e1, c_tideOf hO hs', f1, f2, f3, fi_off, e2]
    · refine (h2.tr k1).tr (k2.tr ?_)
      intro q hq; simp (disch := omega) only [up_row, fi_row]) (fun m M hM => by
    obtain ⟨J, rfl, h1, h2⟩ := hM
    simp (disch := first | assumption | omega | rfl) only [i_rem, i_pred, i_addn1, i_lit, i_n1, i_add, i_mul, i_sub, i_le, i_lt, i_eq, i_ne1, n1_ne, n1_lt, n1_le, i_lt1, i_le1, bd_s, nar_bi, nar_0, nar_1, if_pos, if_neg, ↓reduceIte, reduceCtorEq, eq_self, if_true, if_false, not_true_eq_false, not_false_eq_true, be_k, be_fI, be_fL, be_pI, be_pL, be_z0, be_z1, be_fR0, be_fR1, be1_a, be1_t, be1_n, be_fR2, be2_a, be2_t, be2_n, be_fR3, be3_a, be3_t, be3_n, be_fR4, be4_a, be4_t, be4_n, be_fR5, be5_a, be5_t, be5_n, be_fR6, be6_a, be6_t, be6_n, be_fR7, be7_a, be7_t, be7_n, s4_k, s4_fI, s4_fL, s4_pI, s4_pL, s4_z0, s4_z1, s4_fR1, s41_a, s41_t, s41_n, s4_fR2, s42_a, s42_t, s42_n, s4_fR3, s43_a, s43_t, s43_n, s4_fR5, s45_a, s45_t, s45_n, s4_fR7, s47_a, s47_t, s47_n, s4_fR8, s48_a, s48_t, s48_n, s4_fR10, s410_a, s410_t, s410_n, s4_fR11, s411_a, s411_t, s411_n, s4_fR12, s412_a, s412_t, s412_n, s4_fR13, s413_a, s413_t, s413_n, fX0_passHours_L2]) (n := N) (by omega) (s := mk I L r) ⟨I, rfl, hb, Fr.rf⟩
  rw [e]; exact ⟨J, rfl, h1, h2⟩
/-! the reference -/
/-- nothing changes but the row a, and that ahead of 199 alone -/
def Fq (a : Nat) (I J : Nat → Nat → Int32) : Prop := (∀ q, q ≠ a → J q = I q) ∧ ∀ k, 199 ≤ k → J a k = I a k
theorem Fq.rf : Fq a I I := ⟨fun _ _ => rfl, fun _ _ => rfl⟩
theorem Fq.tr {I J K : Nat → Nat → Int32} (h : Fq a I J) (g : Fq a J K) : Fq a I K := ⟨fun q hq => (g.1 q hq).trans (h.1 q hq), fun k hk => (g.2 k hk).trans (h.2 k hk)⟩
theorem Fq_xp {k : Nat} {v : Int32} (h : k < 199) : Fq a I (up I a k v) := ⟨fun _ hq => up_row hq, fun j hj => up_ofk (by omega)⟩
theorem MH_up {g : Nat → Int32} {k : Nat} {v : Int32} (h : MH (I 188) 0 H) (hO : hOk H) (hk : 35 ≤ k) : MH (up I 188 k v 188) 0 H := by
  have o0 := hO.1; have o1 := hO.2.1; have o2 := hO.2.2.1; have o3 := hO.2.2.2.1; have o4 := hO.2.2.2.2.1; have o5 := hO.2.2.2.2.2.1
  refine ⟨?_, ?_, ?_, ?_, ?_, ?_⟩
  · intro j hj; rw [up_ofk (by omega)]; exact h.1 j hj
  · intro j hj; rw [up_ofk (by omega)]; exact h.2.1 j hj
  · intro j hj; rw [up_ofk (by omega)]; exact h.2.2.1 j hj
  · intro j hj; rw [up_ofk (by omega)]; exact h.2.2.2.1 j hj
  · intro j hj; rw [up_ofk (by omega)]; exact h.2.2.2.2.1 j hj
  · intro j hj; rw [up_ofk (by omega)]; exact h.2.2.2.2.2 j hj
/-- one value is set anew -/
theorem MR_up {k j : Nat} {v : Int32} (hO : hOk H) (h : MR H B I) (hj : j = 35 + k) : MR H (b1 B k v) (up I 188 j v) := by
  subst hj
  refine ⟨MH_up (g := I 188) h.1 hO (by omega), fun m hm => ?_⟩
  by_cases e : m = k
  · subst e; rw [up_self, b1, if_pos rfl]
  · rw [up_ofk (by omega), b1, if_neg e]; exact h.2 m hm
theorem MR_c {C : Nat → Int32} (h : MR H B I) (e : ∀ k, k < 164 → C k = B k) : MR H C I := ⟨h.1, fun k hk => by rw [e k hk]; exact h.2 k hk⟩
theorem m_has {l : Nat} {M : Mem} : fX11_has N (B 3) (i32 l) M = some (bi (lpd B l), M) := by
  unfold fX11_has
  simp (disch := first | assumption | omega | rfl) only [i_rem, i_pred, i_addn1, i_lit, i_n1, i_add, i_mul, i_sub, i_le, i_lt, i_eq, i_ne1, n1_ne, n1_lt, n1_le, i_lt1, i_le1, bd_s, nar_bi, nar_0, nar_1, if_pos, if_neg, ↓reduceIte, reduceCtorEq, eq_self, if_true, if_false, not_true_eq_false, not_false_eq_true]
  rcases i_and1 (B 3 >>> (i32 l &&& i32 31)) with h | h
  · have e : lpd B l = false := by rw [lpd]; simp [h]
    have hne : ¬ (B 3 >>> (i32 l &&& i32 31) &&& i32 1 = i32 1) := by rw [h]; decide
    simp [hne, e, bi]
  · have e : lpd B l = true := by rw [lpd]; simp only [h]; decide
    simp [h, e, bi]
theorem m_doTread (hO : hOk H) (hm : MR H B I) {b p : Nat} (hb : 12 * b + p < 72) : ∃ J, fX11_doTread N 186 (i32 b) (i32 p) (mk I L r) = some ((), mk J L r) ∧ MR H (tr B (12 * b + p)) J ∧ Fq 188 I J := by
  unfold fX11_doTread
  simp (disch := first | assumption | omega | rfl) only [i_rem, i_pred, i_addn1, i_lit, i_n1, i_add, i_mul, i_sub, i_le, i_lt, i_eq, i_ne1, n1_ne, n1_lt, n1_le, i_lt1, i_le1, bd_s, nar_bi, nar_0, nar_1, if_pos, if_neg, ↓reduceIte, reduceCtorEq, eq_self, if_true, if_false, not_true_eq_false, not_false_eq_true, mo_k, mo_fI, mo_fL, mo_pI, mo_pL, mo_z0, mo_z1, mo_fR1, mo1_a, mo1_t, mo1_n, mo_fR14, mo14_a, mo14_t, mo14_n, mo_fR15, mo15_a, mo15_t, mo15_n, mo_fR16, mo16_a, mo16_t, mo16_n, mo_fR17, mo17_a, mo17_t, mo17_n, mo_fR18, mo18_a, mo18_t, mo18_n, mo_fR19, mo19_a, mo19_t, mo19_n, mo_fR20, mo20_a, mo20_t, mo20_n, mo_fR21, mo21_a, mo21_t, mo21_n, mo_fR22, mo22_a, mo22_t, mo22_n, mo_fR25, mo25_a, mo25_t, mo25_n, mo_fR26, mo26_a, mo26_t, mo26_n, mo_fR28, mo28_a, mo28_t, mo28_n, mo_fR29, mo29_a, mo29_t, mo29_n, mo_fR30, mo30_a, mo30_t, mo30_n, mo_fR33, mo33_a, mo33_t, mo33_n, mo_fR36, mo36_a, mo36_t, mo36_n, mo_fR37, mo37_a, mo37_t, mo37_n, mo_fR40, mo40_a, mo40_t, mo40_n]
  refine ⟨_, rfl, ?_, ?_⟩
  · refine MR_c (MR_up (k := 92 + (12 * b + p)) hO (MR_up (k := 20 + (12 * b + p)) hO hm (by omega)) (by omega)) (fun k hk => ?_)
    rw [tr, b1, b1]
    by_cases h1 : k = 20 + (12 * b + p)
    · simp (disch := omega) only [up_at, up_off, upL_at, upL_off, if_pos, if_neg, if_true, true_or, or_true, true_and, and_true]
    · by_cases h2 : k = 92 + (12 * b + p)
      · simp (disch := omega) only [up_at, up_off, upL_at, upL_off, if_pos, if_neg, if_true, true_or, or_true, true_and, and_true]
      · simp (disch := omega) only [up_at, up_off, upL_at, upL_off, if_pos, if_neg, if_true, true_or, or_true, true_and, and_true]
  · refine ⟨fun q hq => ?_, fun k hk => ?_⟩
    · simp (disch := omega) only [up_row]
    · simp (disch := omega) only [up_ofk]
theorem m_doWrite (hO : hOk H) (hm : MR H B I) {w b p s : Nat} (hw : w < 4) (hb : 12 * b + p < 72) (hs9 : s ≤ 9) : ∃ J, fX11_doWrite N 186 (i32 w) (i32 b) (i32 p) (i32 s) (mk I L r) = some ((), mk J L r) ∧ MR H (pw B w (12 * b + p) s) J ∧ Fq 188 I J := by
  unfold fX11_doWrite
  simp (disch := first | assumption | omega | rfl) only [i_rem, i_pred, i_addn1, i_lit, i_n1, i_add, i_mul, i_sub, i_le, i_lt, i_eq, i_ne1, n1_ne, n1_lt, n1_le, i_lt1, i_le1, bd_s, nar_bi, nar_0, nar_1, if_pos, if_neg, ↓reduceIte, reduceCtorEq, eq_self, if_true, if_false, not_true_eq_false, not_false_eq_true, mo_k, mo_fI, mo_fL, mo_pI, mo_pL, mo_z0, mo_z1, mo_fR1, mo1_a, mo1_t, mo1_n, mo_fR14, mo14_a, mo14_t, mo14_n, mo_fR15, mo15_a, mo15_t, mo15_n, mo_fR16, mo16_a, mo16_t, mo16_n, mo_fR17, mo17_a, mo17_t, mo17_n, mo_fR18, mo18_a, mo18_t, mo18_n, mo_fR19, mo19_a, mo19_t, mo19_n, mo_fR20, mo20_a, mo20_t, mo20_n, mo_fR21, mo21_a, mo21_t, mo21_n, mo_fR22, mo22_a, mo22_t, mo22_n, mo_fR25, mo25_a, mo25_t, mo25_n, mo_fR26, mo26_a, mo26_t, mo26_n, mo_fR28, mo28_a, mo28_t, mo28_n, mo_fR29, mo29_a, mo29_t, mo29_n, mo_fR30, mo30_a, mo30_t, mo30_n, mo_fR33, mo33_a, mo33_t, mo33_n, mo_fR36, mo36_a, mo36_t, mo36_n, mo_fR37, mo37_a, mo37_t, mo37_n, mo_fR40, mo40_a, mo40_t, mo40_n, up_at, up_off, m_wr hm, m_wn hm, m_sk hm, m_strokesOf]
  refine ⟨_, rfl, ?_, ?_⟩
  · refine MR_c (MR_up (k := 2) hO (MR_up (k := 1) hO (MR_up (k := 10 + w) hO (MR_up (k := 92 + (12 * b + p)) hO (MR_up (k := 20 + (12 * b + p)) hO hm (by omega)) (by omega)) (by omega)) (by omega)) (by omega)) (fun k hk => ?_)
    rw [pw]
    simp only [b1]
    by_cases h1 : k = 20 + (12 * b + p)
    · simp (disch := omega) only [up_at, up_off, upL_at, upL_off, if_pos, if_neg, if_true, true_or, or_true, true_and, and_true]
    · by_cases h2 : k = 92 + (12 * b + p)
      · simp (disch := omega) only [up_at, up_off, upL_at, upL_off, if_pos, if_neg, if_true, true_or, or_true, true_and, and_true]
      · by_cases h3 : k = 10 + w
        · subst h3; simp (disch := omega) only [up_at, up_off, upL_at, upL_off, if_pos, if_neg, if_true, true_or, or_true, true_and, and_true]
        · by_cases h4 : k = 1
          · subst h4; simp (disch := omega) only [up_at, up_off, upL_at, upL_off, if_pos, if_neg, if_true, true_or, or_true, true_and, and_true]
          · by_cases h5 : k = 2
            · subst h5; simp (disch := omega) only [up_at, up_off, upL_at, upL_off, if_pos, if_neg, if_true, true_or, or_true, true_and, and_true]
            · simp (disch := omega) only [up_at, up_off, upL_at, upL_off, if_pos, if_neg, if_true, true_or, or_true, true_and, and_true]
  · refine ⟨fun q hq => ?_, fun k hk => ?_⟩
    · simp (disch := omega) only [up_row]
    · simp (disch := omega) only [up_ofk]
theorem m_wash (hN : 1200 < N) (hO : hOk H) (hm : MR H B I) {b : Nat} (hb : b < 6) : ∃ J, fX11_wash N 186 (i32 b) (mk I L r) = some ((), mk J L r) ∧ MR H (wsh B b) J ∧ Fq 188 I J := by
  unfold fX11_wash
  simp only [i_lit]
  obtain ⟨M, e, J, rfl, h1, h2⟩ := lp_st (F := fun m u M => fX11_wash_L2 N 186 (i32 b) m u M) (m := 12) (fun k M => ∃ J, M = mk J L r ∧ MR H (fun j => if (20 + 12 * b ≤ j ∧ j < 20 + 12 * b + k) ∨ (92 + 12 * b ≤ j ∧ j < 92 + 12 * b + k) then n1 else B j) J ∧ Fq 188 I J) (fun M => M) (fun m k M hk hM => by
    obtain ⟨J, rfl, h1, h2⟩ := hM
    obtain ⟨K, e, h3, h4⟩ := m_doTread (L := L) (r := r) (N := N) hO h1 (b := b) (p := k) (by omega)
    refine ⟨mk K L r, ?_, K, rfl, ?_, h2.tr h4⟩
    · simp (disch := first | assumption | omega | rfl) only [i_rem, i_pred, i_addn1, i_lit, i_n1, i_add, i_mul, i_sub, i_le, i_lt, i_eq, i_ne1, n1_ne, n1_lt, n1_le, i_lt1, i_le1, bd_s, nar_bi, nar_0, nar_1, if_pos, if_neg, ↓reduceIte, reduceCtorEq, eq_self, if_true, if_false, not_true_eq_false, not_false_eq_true, mo_k, mo_fI, mo_fL, mo_pI, mo_pL, mo_z0, mo_z1, mo_fR1, mo1_a, mo1_t, mo1_n, mo_fR14, mo14_a, mo14_t, mo14_n, mo_fR15, mo15_a, mo15_t, mo15_n, mo_fR16, mo16_a, mo16_t, mo16_n, mo_fR17, mo17_a, mo17_t, mo17_n, mo_fR18, mo18_a, mo18_t, mo18_n, mo_fR19, mo19_a, mo19_t, mo19_n, mo_fR20, mo20_a, mo20_t, mo20_n, mo_fR21, mo21_a, mo21_t, mo21_n, mo_fR22, mo22_a, mo22_t, mo22_n, mo_fR25, mo25_a, mo25_t, mo25_n, mo_fR26, mo26_a, mo26_t, mo26_n, mo_fR28, mo28_a, mo28_t, mo28_n, mo_fR29, mo29_a, mo29_t, mo29_n, mo_fR30, mo30_a, mo30_t, mo30_n, mo_fR33, mo33_a, mo33_t, mo33_n, mo_fR36, mo36_a, mo36_t, mo36_n, mo_fR37, mo37_a, mo37_t, mo37_n, mo_fR40, mo40_a, mo40_t, mo40_n, fX11_wash_L2, e]
    · refine MR_c h3 (fun j hj => ?_)
      simp only [tr]
      by_cases c1 : (20 + 12 * b ≤ j ∧ j < 20 + 12 * b + (k + 1)) ∨ (92 + 12 * b ≤ j ∧ j < 92 + 12 * b + (k + 1))
      · rw [if_pos c1]
        by_cases c2 : j = 20 + (12 * b + k) ∨ j = 92 + (12 * b + k)
        · rw [if_pos c2]
        · rw [if_neg c2, if_pos (by omega)]
      · rw [if_neg c1, if_neg (by omega), if_neg (by omega)]) (fun m M hM => by
    simp (disch := first | assumption | omega | rfl) only [i_rem, i_pred, i_addn1, i_lit, i_n1, i_add, i_mul, i_sub, i_le, i_lt, i_eq, i_ne1, n1_ne, n1_lt, n1_le, i_lt1, i_le1, bd_s, nar_bi, nar_0, nar_1, if_pos, if_neg, ↓reduceIte, reduceCtorEq, eq_self, if_true, if_false, not_true_eq_false, not_false_eq_true, mo_k, mo_fI, mo_fL, mo_pI, mo_pL, mo_z0, mo_z1, mo_fR1, mo1_a, mo1_t, mo1_n, mo_fR14, mo14_a, mo14_t, mo14_n, mo_fR15, mo15_a, mo15_t, mo15_n, mo_fR16, mo16_a, mo16_t, mo16_n, mo_fR17, mo17_a, mo17_t, mo17_n, mo_fR18, mo18_a, mo18_t, mo18_n, mo_fR19, mo19_a, mo19_t, mo19_n, mo_fR20, mo20_a, mo20_t, mo20_n, mo_fR21, mo21_a, mo21_t, mo21_n, mo_fR22, mo22_a, mo22_t, mo22_n, mo_fR25, mo25_a, mo25_t, mo25_n, mo_fR26, mo26_a, mo26_t, mo26_n, mo_fR28, mo28_a, mo28_t, mo28_n, mo_fR29, mo29_a, mo29_t, mo29_n, mo_fR30, mo30_a, mo30_t, mo30_n, mo_fR33, mo33_a, mo33_t, mo33_n, mo_fR36, mo36_a, mo36_t, mo36_n, mo_fR37, mo37_a, mo37_t, mo37_n, mo_fR40, mo40_a, mo40_t, mo40_n, fX11_wash_L2]) (n := N) (by omega) (s := mk I L r) ⟨I, rfl, MR_c hm (fun j hj => by rw [if_neg (by omega)]), Fq.rf⟩
  have hw := m_wa h1 (l := b) hb
  rw [if_neg (by omega)] at hw
  simp only [e]
  simp (disch := first | assumption | omega | rfl) only [i_rem, i_pred, i_addn1, i_lit, i_n1, i_add, i_mul, i_sub, i_le, i_lt, i_eq, i_ne1, n1_ne, n1_lt, n1_le, i_lt1, i_le1, bd_s, nar_bi, nar_0, nar_1, if_pos, if_neg, ↓reduceIte, reduceCtorEq, eq_self, if_true, if_false, not_true_eq_false, not_false_eq_true, mo_k, mo_fI, mo_fL, mo_pI, mo_pL, mo_z0, mo_z1, mo_fR1, mo1_a, mo1_t, mo1_n, mo_fR14, mo14_a, mo14_t, mo14_n, mo_fR15, mo15_a, mo15_t, mo15_n, mo_fR16, mo16_a, mo16_t, mo16_n, mo_fR17, mo17_a, mo17_t, mo17_n, mo_fR18, mo18_a, mo18_t, mo18_n, mo_fR19, mo19_a, mo19_t, mo19_n, mo_fR20, mo20_a, mo20_t, mo20_n, mo_fR21, mo21_a, mo21_t, mo21_n, mo_fR22, mo22_a, mo22_t, mo22_n, mo_fR25, mo25_a, mo25_t, mo25_n, mo_fR26, mo26_a, mo26_t, mo26_n, mo_fR28, mo28_a, mo28_t, mo28_n, mo_fR29, mo29_a, mo29_t, mo29_n, mo_fR30, mo30_a, mo30_t, mo30_n, mo_fR33, mo33_a, mo33_t, mo33_n, mo_fR36, mo36_a, mo36_t, mo36_n, mo_fR37, mo37_a, mo37_t, mo37_n, mo_fR40, mo40_a, mo40_t, mo40_n, hw]
  refine ⟨_, rfl, ?_, h2.tr (Fq_xp (by omega))⟩
  refine MR_c (MR_up (k := 14 + b) hO h1 (by omega)) (fun k hk => ?_)
  simp only [wsh, b1]
  by_cases c1 : (20 + 12 * b ≤ k ∧ k < 32 + 12 * b) ∨ (92 + 12 * b ≤ k ∧ k < 104 + 12 * b)
  · rw [if_pos c1, if_neg (by omega), if_pos (by omega)]
  · rw [if_neg c1]
    by_cases c2 : k = 14 + b
    · subst c2; rw [if_pos rfl, if_pos rfl]
    · rw [if_neg c2, if_neg c2, if_neg (by omega)]
theorem m_ages (hN : 1200 < N) (hO : hOk H) (hm : MR H B I) {l : Nat} (hl : l < H 2) : ∃ J, fX11_ages N 186 (i32 l) (mk I L r) = some ((), mk J L r) ∧ MR H (old H B l) J ∧ Fq 188 I J := by
  have o0 := hO.1; have o1 := hO.2.1; have o2 := hO.2.2.1; have o3 := hO.2.2.2.1; have o4 := hO.2.2.2.2.1; have o5 := hO.2.2.2.2.2.1
  unfold fX11_ages
  simp (disch := first | assumption | omega | rfl) only [i_rem, i_pred, i_addn1, i_lit, i_n1, i_add, i_mul, i_sub, i_le, i_lt, i_eq, i_ne1, n1_ne, n1_lt, n1_le, i_lt1, i_le1, bd_s, nar_bi, nar_0, nar_1, if_pos, if_neg, ↓reduceIte, reduceCtorEq, eq_self, if_true, if_false, not_true_eq_false, not_false_eq_true, mo_k, mo_fI, mo_fL, mo_pI, mo_pL, mo_z0, mo_z1, mo_fR1, mo1_a, mo1_t, mo1_n, mo_fR14, mo14_a, mo14_t, mo14_n, mo_fR15, mo15_a, mo15_t, mo15_n, mo_fR16, mo16_a, mo16_t, mo16_n, mo_fR17, mo17_a, mo17_t, mo17_n, mo_fR18, mo18_a, mo18_t, mo18_n, mo_fR19, mo19_a, mo19_t, mo19_n, mo_fR20, mo20_a, mo20_t, mo20_n, mo_fR21, mo21_a, mo21_t, mo21_n, mo_fR22, mo22_a, mo22_t, mo22_n, mo_fR25, mo25_a, mo25_t, mo25_n, mo_fR26, mo26_a, mo26_t, mo26_n, mo_fR28, mo28_a, mo28_t, mo28_n, mo_fR29, mo29_a, mo29_t, mo29_n, mo_fR30, mo30_a, mo30_t, mo30_n, mo_fR33, mo33_a, mo33_t, mo33_n, mo_fR36, mo36_a, mo36_t, mo36_n, mo_fR37, mo37_a, mo37_t, mo37_n, mo_fR40, mo40_a, mo40_t, mo40_n, m_lp hm, m_has, bi_z]
  cases h0 : lpd B l with
  | true => exact ⟨I, by simp, by rw [old, h0]; exact hm, Fq.rf⟩
  | false =>
    simp (disch := first | assumption | omega | rfl) only [i_rem, i_pred, i_addn1, i_lit, i_n1, i_add, i_mul, i_sub, i_le, i_lt, i_eq, i_ne1, n1_ne, n1_lt, n1_le, i_lt1, i_le1, bd_s, nar_bi, nar_0, nar_1, if_pos, if_neg, ↓reduceIte, reduceCtorEq, eq_self, if_true, if_false, not_true_eq_false, not_false_eq_true, mo_k, mo_fI, mo_fL, mo_pI, mo_pL, mo_z0, mo_z1, mo_fR1, mo1_a, mo1_t, mo1_n, mo_fR14, mo14_a, mo14_t, mo14_n, mo_fR15, mo15_a, mo15_t, mo15_n, mo_fR16, mo16_a, mo16_t, mo16_n, mo_fR17, mo17_a, mo17_t, mo17_n, mo_fR18, mo18_a, mo18_t, mo18_n, mo_fR19, mo19_a, mo19_t, mo19_n, mo_fR20, mo20_a, mo20_t, mo20_n, mo_fR21, mo21_a, mo21_t, mo21_n, mo_fR22, mo22_a, mo22_t, mo22_n, mo_fR25, mo25_a, mo25_t, mo25_n, mo_fR26, mo26_a, mo26_t, mo26_n, mo_fR28, mo28_a, mo28_t, mo28_n, mo_fR29, mo29_a, mo29_t, mo29_n, mo_fR30, mo30_a, mo30_t, mo30_n, mo_fR33, mo33_a, mo33_t, mo33_n, mo_fR36, mo36_a, mo36_t, mo36_n, mo_fR37, mo37_a, mo37_t, mo37_n, mo_fR40, mo40_a, mo40_t, mo40_n, m_readIn hN hO hm]
    by_cases h1 : fbO H B l = none
    · rw [h1]
      simp only [oi, ↓reduceIte]
      simp (disch := first | assumption | omega | rfl) only [i_rem, i_pred, i_addn1, i_lit, i_n1, i_add, i_mul, i_sub, i_le, i_lt, i_eq, i_ne1, n1_ne, n1_lt, n1_le, i_lt1, i_le1, bd_s, nar_bi, nar_0, nar_1, if_pos, if_neg, ↓reduceIte, reduceCtorEq, eq_self, if_true, if_false, not_true_eq_false, not_false_eq_true, mo_k, mo_fI, mo_fL, mo_pI, mo_pL, mo_z0, mo_z1, mo_fR1, mo1_a, mo1_t, mo1_n, mo_fR14, mo14_a, mo14_t, mo14_n, mo_fR15, mo15_a, mo15_t, mo15_n, mo_fR16, mo16_a, mo16_t, mo16_n, mo_fR17, mo17_a, mo17_t, mo17_n, mo_fR18, mo18_a, mo18_t, mo18_n, mo_fR19, mo19_a, mo19_t, mo19_n, mo_fR20, mo20_a, mo20_t, mo20_n, mo_fR21, mo21_a, mo21_t, mo21_n, mo_fR22, mo22_a, mo22_t, mo22_n, mo_fR25, mo25_a, mo25_t, mo25_n, mo_fR26, mo26_a, mo26_t, mo26_n, mo_fR28, mo28_a, mo28_t, mo28_n, mo_fR29, mo29_a, mo29_t, mo29_n, mo_fR30, mo30_a, mo30_t, mo30_n, mo_fR33, mo33_a, mo33_t, mo33_n, mo_fR36, mo36_a, mo36_t, mo36_n, mo_fR37, mo37_a, mo37_t, mo37_n, mo_fR40, mo40_a, mo40_t, mo40_n, fX11_ages_J47, m_ag hm, up_at, up_ofk, m_la hm, m_lp hm]
      by_cases h2 : B (4 + l) + i32 1 < i32 (H 4)
      · rw [if_pos h2]
        refine ⟨_, rfl, ?_, (Fq_xp (by omega))⟩
        rw [old, h0, if_neg (by simp), if_pos h1, if_pos h2]; exact MR_up hO hm (by omega)
      · rw [if_neg h2]
        refine ⟨_, rfl, ?_, (Fq_xp (by omega)).tr (Fq_xp (by omega))⟩
        rw [old, h0, if_neg (by simp), if_pos h1, if_neg h2]; exact MR_up hO (MR_up hO hm (by omega)) (by omega)
    · have h3 : ¬ oi (fbO H B l) = n1 := fun z => h1 ((oi_n1 (fun k hk => by have := fbO_lt hk; omega)).mp z)
      simp (disch := first | assumption | omega | rfl) only [i_rem, i_pred, i_addn1, i_lit, i_n1, i_add, i_mul, i_sub, i_le, i_lt, i_eq, i_ne1, n1_ne, n1_lt, n1_le, i_lt1, i_le1, bd_s, nar_bi, nar_0, nar_1, if_pos, if_neg, ↓reduceIte, reduceCtorEq, eq_self, if_true, if_false, not_true_eq_false, not_false_eq_true, mo_k, mo_fI, mo_fL, mo_pI, mo_pL, mo_z0, mo_z1, mo_fR1, mo1_a, mo1_t, mo1_n, mo_fR14, mo14_a, mo14_t, mo14_n, mo_fR15, mo15_a, mo15_t, mo15_n, mo_fR16, mo16_a, mo16_t, mo16_n, mo_fR17, mo17_a, mo17_t, mo17_n, mo_fR18, mo18_a, mo18_t, mo18_n, mo_fR19, mo19_a, mo19_t, mo19_n, mo_fR20, mo20_a, mo20_t, mo20_n, mo_fR21, mo21_a, mo21_t, mo21_n, mo_fR22, mo22_a, mo22_t, mo22_n, mo_fR25, mo25_a, mo25_t, mo25_n, mo_fR26, mo26_a, mo26_t, mo26_n, mo_fR28, mo28_a, mo28_t, mo28_n, mo_fR29, mo29_a, mo29_t, mo29_n, mo_fR30, mo30_a, mo30_t, mo30_n, mo_fR33, mo33_a, mo33_t, mo33_n, mo_fR36, mo36_a, mo36_t, mo36_n, mo_fR37, mo37_a, mo37_t, mo37_n, mo_fR40, mo40_a, mo40_t, mo40_n, h3, fX11_ages_J47, m_ag hm, up_at, up_ofk, m_la hm, m_lp hm]
      refine ⟨_, rfl, ?_, (Fq_xp (by omega))⟩
      rw [old, h0, if_neg (by simp), if_neg h1]; exact MR_up hO hm (by omega)
theorem m_oneHour (hN : 1200 < N) (hO : hOk H) (hm : MR H B I) {h : Nat} (h0 : B 0 = i32 h) (hh : h ≤ 400) : ∃ J, fX11_oneHour N 186 (mk I L r) = some ((), mk J L r) ∧ MR H (hr1 H B h) J ∧ Fq 188 I J := by
  have o0 := hO.1; have o1 := hO.2.1; have o2 := hO.2.2.1; have o3 := hO.2.2.2.1; have o4 := hO.2.2.2.2.1; have o5 := hO.2.2.2.2.2.1
  unfold fX11_oneHour
  simp only [i_lit]
  obtain ⟨M1, e1, J1, rfl, g1, k1⟩ := lp_st (F := fun m u M => fX11_oneHour_L2 N 186 m u M) (m := H 0) (fun k M => ∃ J, M = mk J L r ∧ MR H (wshs H (tdA H h) B k) J ∧ Fq 188 I J) (fun M => M) (fun m k M hk hM => by
    obtain ⟨J, rfl, h1, h2⟩ := hM
    have z0 : wshs H (tdA H h) B k 0 = i32 h := by rw [wshs_0 (by omega)]; exact h0
    have hw := m_isWashed (N := N) (L := L) (r := r) hO h1 (k := 0) z0 hh (by omega) hk
    rw [Nat.add_zero] at hw
    by_cases hc : tdA H h < i32 (H (5 + k))
    · refine ⟨mk J L r, ?_, J, rfl, ?_, h2⟩
      · simp (disch := first | assumption | omega | rfl) only [i_rem, i_pred, i_addn1, i_lit, i_n1, i_add, i_mul, i_sub, i_le, i_lt, i_eq, i_ne1, n1_ne, n1_lt, n1_le, i_lt1, i_le1, bd_s, nar_bi, nar_0, nar_1, if_pos, if_neg, ↓reduceIte, reduceCtorEq, eq_self, if_true, if_false, not_true_eq_false, not_false_eq_true, mo_k, mo_fI, mo_fL, mo_pI, mo_pL, mo_z0, mo_z1, mo_fR1, mo1_a, mo1_t, mo1_n, mo_fR14, mo14_a, mo14_t, mo14_n, mo_fR15, mo15_a, mo15_t, mo15_n, mo_fR16, mo16_a, mo16_t, mo16_n, mo_fR17, mo17_a, mo17_t, mo17_n, mo_fR18, mo18_a, mo18_t, mo18_n, mo_fR19, mo19_a, mo19_t, mo19_n, mo_fR20, mo20_a, mo20_t, mo20_n, mo_fR21, mo21_a, mo21_t, mo21_n, mo_fR22, mo22_a, mo22_t, mo22_n, mo_fR25, mo25_a, mo25_t, mo25_n, mo_fR26, mo26_a, mo26_t, mo26_n, mo_fR28, mo28_a, mo28_t, mo28_n, mo_fR29, mo29_a, mo29_t, mo29_n, mo_fR30, mo30_a, mo30_t, mo30_n, mo_fR33, mo33_a, mo33_t, mo33_n, mo_fR36, mo36_a, mo36_t, mo36_n, mo_fR37, mo37_a, mo37_t, mo37_n, mo_fR40, mo40_a, mo40_t, mo40_n, fX11_oneHour_L2, m_nb h1, hw, hc, decide_true, Bool.not_true, bi_z]
      · rw [wshs, fo, if_pos hc]; exact h1
    · obtain ⟨K, e, h3, h4⟩ := m_wash (L := L) (r := r) hN hO h1 (b := k) (by omega)
      refine ⟨mk K L r, ?_, K, rfl, ?_, h2.tr h4⟩
      · simp (disch := first | assumption | omega | rfl) only [i_rem, i_pred, i_addn1, i_lit, i_n1, i_add, i_mul, i_sub, i_le, i_lt, i_eq, i_ne1, n1_ne, n1_lt, n1_le, i_lt1, i_le1, bd_s, nar_bi, nar_0, nar_1, if_pos, if_neg, ↓reduceIte, reduceCtorEq, eq_self, if_true, if_false, not_true_eq_false, not_false_eq_true, mo_k, mo_fI, mo_fL, mo_pI, mo_pL, mo_z0, mo_z1, mo_fR1, mo1_a, mo1_t, mo1_n, mo_fR14, mo14_a, mo14_t, mo14_n, mo_fR15, mo15_a, mo15_t, mo15_n, mo_fR16, mo16_a, mo16_t, mo16_n, mo_fR17, mo17_a, mo17_t, mo17_n, mo_fR18, mo18_a, mo18_t, mo18_n, mo_fR19, mo19_a, mo19_t, mo19_n, mo_fR20, mo20_a, mo20_t, mo20_n, mo_fR21, mo21_a, mo21_t, mo21_n, mo_fR22, mo22_a, mo22_t, mo22_n, mo_fR25, mo25_a, mo25_t, mo25_n, mo_fR26, mo26_a, mo26_t, mo26_n, mo_fR28, mo28_a, mo28_t, mo28_n, mo_fR29, mo29_a, mo29_t, mo29_n, mo_fR30, mo30_a, mo30_t, mo30_n, mo_fR33, mo33_a, mo33_t, mo33_n, mo_fR36, mo36_a, mo36_t, mo36_n, mo_fR37, mo37_a, mo37_t, mo37_n, mo_fR40, mo40_a, mo40_t, mo40_n, fX11_oneHour_L2, m_nb h1, hw, hc, decide_false, Bool.not_false, bi_z, e]
      · rw [wshs, fo, if_neg hc]; exact h3) (fun m M hM => by
    obtain ⟨J, rfl, h1, h2⟩ := hM
    simp (disch := first | assumption | omega | rfl) only [i_rem, i_pred, i_addn1, i_lit, i_n1, i_add, i_mul, i_sub, i_le, i_lt, i_eq, i_ne1, n1_ne, n1_lt, n1_le, i_lt1, i_le1, bd_s, nar_bi, nar_0, nar_1, if_pos, if_neg, ↓reduceIte, reduceCtorEq, eq_self, if_true, if_false, not_true_eq_false, not_false_eq_true, mo_k, mo_fI, mo_fL, mo_pI, mo_pL, mo_z0, mo_z1, mo_fR1, mo1_a, mo1_t, mo1_n, mo_fR14, mo14_a, mo14_t, mo14_n, mo_fR15, mo15_a, mo15_t, mo15_n, mo_fR16, mo16_a, mo16_t, mo16_n, mo_fR17, mo17_a, mo17_t, mo17_n, mo_fR18, mo18_a, mo18_t, mo18_n, mo_fR19, mo19_a, mo19_t, mo19_n, mo_fR20, mo20_a, mo20_t, mo20_n, mo_fR21, mo21_a, mo21_t, mo21_n, mo_fR22, mo22_a, mo22_t, mo22_n, mo_fR25, mo25_a, mo25_t, mo25_n, mo_fR26, mo26_a, mo26_t, mo26_n, mo_fR28, mo28_a, mo28_t, mo28_n, mo_fR29, mo29_a, mo29_t, mo29_n, mo_fR30, mo30_a, mo30_t, mo30_n, mo_fR33, mo33_a, mo33_t, mo33_n, mo_fR36, mo36_a, mo36_t, mo36_n, mo_fR37, mo37_a, mo37_t, mo37_n, mo_fR40, mo40_a, mo40_t, mo40_n, fX11_oneHour_L2, m_nb h1]) (n := N) (by omega) (s := mk I L r) ⟨I, rfl, hm, Fq.rf⟩
  simp only [e1, bd_s]
  obtain ⟨M2, e2, J2, rfl, g2, k2⟩ := lp_st (F := fun m u M => fX11_oneHour_L34 N 186 m u M) (m := H 2) (fun k M => ∃ J, M = mk J L r ∧ MR H (olds H (wshs H (tdA H h) B (H 0)) k) J ∧ Fq 188 I J) (fun M => M) (fun m k M hk hM => by
    obtain ⟨J, rfl, h1, h2⟩ := hM
    obtain ⟨K, e, h3, h4⟩ := m_ages (L := L) (r := r) hN hO h1 (l := k) hk
    refine ⟨mk K L r, ?_, K, rfl, h3, h2.tr h4⟩
    simp (disch := first | assumption | omega | rfl) only [i_rem, i_pred, i_addn1, i_lit, i_n1, i_add, i_mul, i_sub, i_le, i_lt, i_eq, i_ne1, n1_ne, n1_lt, n1_le, i_lt1, i_le1, bd_s, nar_bi, nar_0, nar_1, if_pos, if_neg, ↓reduceIte, reduceCtorEq, eq_self, if_true, if_false, not_true_eq_false, not_false_eq_true, mo_k, mo_fI, mo_fL, mo_pI, mo_pL, mo_z0, mo_z1, mo_fR1, mo1_a, mo1_t, mo1_n, mo_fR14, mo14_a, mo14_t, mo14_n, mo_fR15, mo15_a, mo15_t, mo15_n, mo_fR16, mo16_a, mo16_t, mo16_n, mo_fR17, mo17_a, mo17_t, mo17_n, mo_fR18, mo18_a, mo18_t, mo18_n, mo_fR19, mo19_a, mo19_t, mo19_n, mo_fR20, mo20_a, mo20_t, mo20_n, mo_fR21, mo21_a, mo21_t, mo21_n, mo_fR22, mo22_a, mo22_t, mo22_n, mo_fR25, mo25_a, mo25_t, mo25_n, mo_fR26, mo26_a, mo26_t, mo26_n, mo_fR28, mo28_a, mo28_t, mo28_n, mo_fR29, mo29_a, mo29_t, mo29_n, mo_fR30, mo30_a, mo30_t, mo30_n, mo_fR33, mo33_a, mo33_t, mo33_n, mo_fR36, mo36_a, mo36_t, mo36_n, mo_fR37, mo37_a, mo37_t, mo37_n, mo_fR40, mo40_a, mo40_t, mo40_n, fX11_oneHour_L34, m_nl h1, e]) (fun m M hM => by
    obtain ⟨J, rfl, h1, h2⟩ := hM
    simp (disch := first | assumption | omega | rfl) only [i_rem, i_pred, i_addn1, i_lit, i_n1, i_add, i_mul, i_sub, i_le, i_lt, i_eq, i_ne1, n1_ne, n1_lt, n1_le, i_lt1, i_le1, bd_s, nar_bi, nar_0, nar_1, if_pos, if_neg, ↓reduceIte, reduceCtorEq, eq_self, if_true, if_false, not_true_eq_false, not_false_eq_true, mo_k, mo_fI, mo_fL, mo_pI, mo_pL, mo_z0, mo_z1, mo_fR1, mo1_a, mo1_t, mo1_n, mo_fR14, mo14_a, mo14_t, mo14_n, mo_fR15, mo15_a, mo15_t, mo15_n, mo_fR16, mo16_a, mo16_t, mo16_n, mo_fR17, mo17_a, mo17_t, mo17_n, mo_fR18, mo18_a, mo18_t, mo18_n, mo_fR19, mo19_a, mo19_t, mo19_n, mo_fR20, mo20_a, mo20_t, mo20_n, mo_fR21, mo21_a, mo21_t, mo21_n, mo_fR22, mo22_a, mo22_t, mo22_n, mo_fR25, mo25_a, mo25_t, mo25_n, mo_fR26, mo26_a, mo26_t, mo26_n, mo_fR28, mo28_a, mo28_t, mo28_n, mo_fR29, mo29_a, mo29_t, mo29_n, mo_fR30, mo30_a, mo30_t, mo30_n, mo_fR33, mo33_a, mo33_t, mo33_n, mo_fR36, mo36_a, mo36_t, mo36_n, mo_fR37, mo37_a, mo37_t, mo37_n, mo_fR40, mo40_a, mo40_t, mo40_n, fX11_oneHour_L34, m_nl h1]) (n := N) (by omega) (s := mk J1 L r) ⟨J1, rfl, g1, k1⟩
  simp only [e2, bd_s]
  obtain ⟨M3, e3, J3, rfl, g3, k3⟩ := lp_st (F := fun m u M => fX11_oneHour_L57 N 186 m u M) (m := 4) (fun k M => ∃ J, M = mk J L r ∧ MR H (fun j => if 10 ≤ j ∧ j < 10 + k then i32 0 else olds H (wshs H (tdA H h) B (H 0)) (H 2) j) J ∧ Fq 188 I J) (fun M => M) (fun m k M hk hM => by
    obtain ⟨J, rfl, h1, h2⟩ := hM
    refine ⟨mk (up J 188 (45 + k) (i32 0)) L r, ?_, _, rfl, ?_, h2.tr (Fq_xp (by omega))⟩
    · simp (disch := first | assumption | omega | rfl) only [i_rem, i_pred, i_addn1, i_lit, i_n1, i_add, i_mul, i_sub, i_le, i_lt, i_eq, i_ne1, n1_ne, n1_lt, n1_le, i_lt1, i_le1, bd_s, nar_bi, nar_0, nar_1, if_pos, if_neg, ↓reduceIte, reduceCtorEq, eq_self, if_true, if_false, not_true_eq_false, not_false_eq_true, mo_k, mo_fI, mo_fL, mo_pI, mo_pL, mo_z0, mo_z1, mo_fR1, mo1_a, mo1_t, mo1_n, mo_fR14, mo14_a, mo14_t, mo14_n, mo_fR15, mo15_a, mo15_t, mo15_n, mo_fR16, mo16_a, mo16_t, mo16_n, mo_fR17, mo17_a, mo17_t, mo17_n, mo_fR18, mo18_a, mo18_t, mo18_n, mo_fR19, mo19_a, mo19_t, mo19_n, mo_fR20, mo20_a, mo20_t, mo20_n, mo_fR21, mo21_a, mo21_t, mo21_n, mo_fR22, mo22_a, mo22_t, mo22_n, mo_fR25, mo25_a, mo25_t, mo25_n, mo_fR26, mo26_a, mo26_t, mo26_n, mo_fR28, mo28_a, mo28_t, mo28_n, mo_fR29, mo29_a, mo29_t, mo29_n, mo_fR30, mo30_a, mo30_t, mo30_n, mo_fR33, mo33_a, mo33_t, mo33_n, mo_fR36, mo36_a, mo36_t, mo36_n, mo_fR37, mo37_a, mo37_t, mo37_n, mo_fR40, mo40_a, mo40_t, mo40_n, fX11_oneHour_L57]
    · refine MR_c (MR_up (k := 10 + k) hO h1 (by omega)) (fun j hj => ?_)
      simp only [b1]
      by_cases c1 : j = 10 + k
      · rw [if_pos (by omega), if_pos c1]
      · rw [if_neg c1]
        by_cases c2 : 10 ≤ j ∧ j < 10 + k
        · rw [if_pos c2, if_pos (by omega)]
        · rw [if_neg c2, if_neg (by omega)]) (fun m M hM => by
    simp (disch := first | assumption | omega | rfl) only [i_rem, i_pred, i_addn1, i_lit, i_n1, i_add, i_mul, i_sub, i_le, i_lt, i_eq, i_ne1, n1_ne, n1_lt, n1_le, i_lt1, i_le1, bd_s, nar_bi, nar_0, nar_1, if_pos, if_neg, ↓reduceIte, reduceCtorEq, eq_self, if_true, if_false, not_true_eq_false, not_false_eq_true, mo_k, mo_fI, mo_fL, mo_pI, mo_pL, mo_z0, mo_z1, mo_fR1, mo1_a, mo1_t, mo1_n, mo_fR14, mo14_a, mo14_t, mo14_n, mo_fR15, mo15_a, mo15_t, mo15_n, mo_fR16, mo16_a, mo16_t, mo16_n, mo_fR17, mo17_a, mo17_t, mo17_n, mo_fR18, mo18_a, mo18_t, mo18_n, mo_fR19, mo19_a, mo19_t, mo19_n, mo_fR20, mo20_a, mo20_t, mo20_n, mo_fR21, mo21_a, mo21_t, mo21_n, mo_fR22, mo22_a, mo22_t, mo22_n, mo_fR25, mo25_a, mo25_t, mo25_n, mo_fR26, mo26_a, mo26_t, mo26_n, mo_fR28, mo28_a, mo28_t, mo28_n, mo_fR29, mo29_a, mo29_t, mo29_n, mo_fR30, mo30_a, mo30_t, mo30_n, mo_fR33, mo33_a, mo33_t, mo33_n, mo_fR36, mo36_a, mo36_t, mo36_n, mo_fR37, mo37_a, mo37_t, mo37_n, mo_fR40, mo40_a, mo40_t, mo40_n, fX11_oneHour_L57]) (n := N) (by omega) (s := mk J2 L r) ⟨J2, rfl, MR_c g2 (fun j hj => by rw [if_neg (by omega)]), k2⟩
  simp only [e3, bd_s]
  have hz := m_hr g3
  rw [if_neg (by omega), olds_0 (by omega) _ (by omega), wshs_0 (by omega), h0] at hz
  simp (disch := first | assumption | omega | rfl) only [i_rem, i_pred, i_addn1, i_lit, i_n1, i_add, i_mul, i_sub, i_le, i_lt, i_eq, i_ne1, n1_ne, n1_lt, n1_le, i_lt1, i_le1, bd_s, nar_bi, nar_0, nar_1, if_pos, if_neg, ↓reduceIte, reduceCtorEq, eq_self, if_true, if_false, not_true_eq_false, not_false_eq_true, mo_k, mo_fI, mo_fL, mo_pI, mo_pL, mo_z0, mo_z1, mo_fR1, mo1_a, mo1_t, mo1_n, mo_fR14, mo14_a, mo14_t, mo14_n, mo_fR15, mo15_a, mo15_t, mo15_n, mo_fR16, mo16_a, mo16_t, mo16_n, mo_fR17, mo17_a, mo17_t, mo17_n, mo_fR18, mo18_a, mo18_t, mo18_n, mo_fR19, mo19_a, mo19_t, mo19_n, mo_fR20, mo20_a, mo20_t, mo20_n, mo_fR21, mo21_a, mo21_t, mo21_n, mo_fR22, mo22_a, mo22_t, mo22_n, mo_fR25, mo25_a, mo25_t, mo25_n, mo_fR26, mo26_a, mo26_t, mo26_n, mo_fR28, mo28_a, mo28_t, mo28_n, mo_fR29, mo29_a, mo29_t, mo29_n, mo_fR30, mo30_a, mo30_t, mo30_n, mo_fR33, mo33_a, mo33_t, mo33_n, mo_fR36, mo36_a, mo36_t, mo36_n, mo_fR37, mo37_a, mo37_t, mo37_n, mo_fR40, mo40_a, mo40_t, mo40_n, hz]
  refine ⟨_, rfl, ?_, k3.tr (Fq_xp (by omega))⟩
  refine MR_c (MR_up (k := 0) hO g3 (by omega)) (fun j hj => ?_)
  simp only [b1, hr1]
  by_cases c1 : j = 0
  · subst c1; rw [if_neg (by omega), if_pos rfl, if_pos rfl]
  · rw [if_neg c1, if_neg c1]
theorem m_hoursL (hN : 1200 < N) (hO : hOk H) (hm : MR H B I) {h n : Nat} (h0 : B 0 = i32 h) (hh : h + n ≤ 400) : ∃ J, fX11_passHours_L18 N 186 (i32 n) N (i32 0) (mk I L r) = some (i32 n, mk J L r) ∧ MR H (hrs H B h n) J ∧ Fq 188 I J := by
  obtain ⟨M, e, J, rfl, h1, h2⟩ := lp_st (F := fun m u M => fX11_passHours_L18 N 186 (i32 n) m u M) (m := n) (fun k M => ∃ J, M = mk J L r ∧ MR H (hrs H B h k) J ∧ Fq 188 I J) (fun M => (i32 n, M)) (fun m k M hk hM => by
    obtain ⟨J, rfl, h1, h2⟩ := hM
    obtain ⟨K, e, h3, h4⟩ := m_oneHour (L := L) (r := r) hN hO h1 (hrs_0 h0 k) (by omega)
    refine ⟨mk K L r, ?_, K, rfl, h3, h2.tr h4⟩
    simp (disch := first | assumption | omega | rfl) only [i_rem, i_pred, i_addn1, i_lit, i_n1, i_add, i_mul, i_sub, i_le, i_lt, i_eq, i_ne1, n1_ne, n1_lt, n1_le, i_lt1, i_le1, bd_s, nar_bi, nar_0, nar_1, if_pos, if_neg, ↓reduceIte, reduceCtorEq, eq_self, if_true, if_false, not_true_eq_false, not_false_eq_true, mo_k, mo_fI, mo_fL, mo_pI, mo_pL, mo_z0, mo_z1, mo_fR1, mo1_a, mo1_t, mo1_n, mo_fR14, mo14_a, mo14_t, mo14_n, mo_fR15, mo15_a, mo15_t, mo15_n, mo_fR16, mo16_a, mo16_t, mo16_n, mo_fR17, mo17_a, mo17_t, mo17_n, mo_fR18, mo18_a, mo18_t, mo18_n, mo_fR19, mo19_a, mo19_t, mo19_n, mo_fR20, mo20_a, mo20_t, mo20_n, mo_fR21, mo21_a, mo21_t, mo21_n, mo_fR22, mo22_a, mo22_t, mo22_n, mo_fR25, mo25_a, mo25_t, mo25_n, mo_fR26, mo26_a, mo26_t, mo26_n, mo_fR28, mo28_a, mo28_t, mo28_n, mo_fR29, mo29_a, mo29_t, mo29_n, mo_fR30, mo30_a, mo30_t, mo30_n, mo_fR33, mo33_a, mo33_t, mo33_n, mo_fR36, mo36_a, mo36_t, mo36_n, mo_fR37, mo37_a, mo37_t, mo37_n, mo_fR40, mo40_a, mo40_t, mo40_n, fX11_passHours_L18, e]) (fun m M hM => by
    obtain ⟨J, rfl, h1, h2⟩ := hM
    simp (disch := first | assumption | omega | rfl) only [i_rem, i_pred, i_addn1, i_lit, i_n1, i_add, i_mul, i_sub, i_le, i_lt, i_eq, i_ne1, n1_ne, n1_lt, n1_le, i_lt1, i_le1, bd_s, nar_bi, nar_0, nar_1, if_pos, if_neg, ↓reduceIte, reduceCtorEq, eq_self, if_true, if_false, not_true_eq_false, not_false_eq_true, mo_k, mo_fI, mo_fL, mo_pI, mo_pL, mo_z0, mo_z1, mo_fR1, mo1_a, mo1_t, mo1_n, mo_fR14, mo14_a, mo14_t, mo14_n, mo_fR15, mo15_a, mo15_t, mo15_n, mo_fR16, mo16_a, mo16_t, mo16_n, mo_fR17, mo17_a, mo17_t, mo17_n, mo_fR18, mo18_a, mo18_t, mo18_n, mo_fR19, mo19_a, mo19_t, mo19_n, mo_fR20, mo20_a, mo20_t, mo20_n, mo_fR21, mo21_a, mo21_t, mo21_n, mo_fR22, mo22_a, mo22_t, mo22_n, mo_fR25, mo25_a, mo25_t, mo25_n, mo_fR26, mo26_a, mo26_t, mo26_n, mo_fR28, mo28_a, mo28_t, mo28_n, mo_fR29, mo29_a, mo29_t, mo29_n, mo_fR30, mo30_a, mo30_t, mo30_n, mo_fR33, mo33_a, mo33_t, mo33_n, mo_fR36, mo36_a, mo36_t, mo36_n, mo_fR37, mo37_a, mo37_t, mo37_n, mo_fR40, mo40_a, mo40_t, mo40_n, fX11_passHours_L18]) (n := N) (by omega) (s := mk I L r) ⟨I, rfl, hm, Fq.rf⟩
  exact ⟨J, e, h1, h2⟩
theorem m_passHours (hN : 1200 < N) (hO : hOk H) (hm : MR H B I) {h n : Nat} (h0 : B 0 = i32 h) (hh : h ≤ 400) (hn : n < 100000) : ∃ J, fX11_passHours N 186 (i32 n) (mk I L r) = some (i32 (min n (400 - h)), mk J L r) ∧ MR H (hrs H B h (min n (400 - h))) J ∧ Fq 188 I J := by
  obtain ⟨J, e, h1, h2⟩ := m_hoursL (L := L) (r := r) hN hO hm (n := min n (400 - h)) h0 (by omega)
  refine ⟨J, ?_, h1, h2⟩
  unfold fX11_passHours
  simp (disch := first | assumption | omega | rfl) only [i_rem, i_pred, i_addn1, i_lit, i_n1, i_add, i_mul, i_sub, i_le, i_lt, i_eq, i_ne1, n1_ne, n1_lt, n1_le, i_lt1, i_le1, bd_s, nar_bi, nar_0, nar_1, if_pos, if_neg, ↓reduceIte, reduceCtorEq, eq_self, if_true, if_false, not_true_eq_false, not_false_eq_true, mo_k, mo_fI, mo_fL, mo_pI, mo_pL, mo_z0, mo_z1, mo_fR1, mo1_a, mo1_t, mo1_n, mo_fR14, mo14_a, mo14_t, mo14_n, mo_fR15, mo15_a, mo15_t, mo15_n, mo_fR16, mo16_a, mo16_t, mo16_n, mo_fR17, mo17_a, mo17_t, mo17_n, mo_fR18, mo18_a, mo18_t, mo18_n, mo_fR19, mo19_a, mo19_t, mo19_n, mo_fR20, mo20_a, mo20_t, mo20_n, mo_fR21, mo21_a, mo21_t, mo21_n, mo_fR22, mo22_a, mo22_t, mo22_n, mo_fR25, mo25_a, mo25_t, mo25_n, mo_fR26, mo26_a, mo26_t, mo26_n, mo_fR28, mo28_a, mo28_t, mo28_n, mo_fR29, mo29_a, mo29_t, mo29_n, mo_fR30, mo30_a, mo30_t, mo30_n, mo_fR33, mo33_a, mo33_t, mo33_n, mo_fR36, mo36_a, mo36_t, mo36_n, mo_fR37, mo37_a, mo37_t, mo37_n, mo_fR40, mo40_a, mo40_t, mo40_n, m_hr hm, h0, m_least]
  have : (if 400 - h ≤ n then 400 - h else n) = min n (400 - h) := by split <;> omega
  rw [this, e]; rfl
end
