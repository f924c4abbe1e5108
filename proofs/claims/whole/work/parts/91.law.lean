/-! ===== THE LAW'S LOOP ===== -/
def Nx (N : Nat) (xs : Nat → Int32) (Ls n i : Nat) (Z : Option (Int32 × Mem)) : Prop := ∃ I L r, Ok I L ∧ Z = fL_law_L N xs Ls 0 186 206 n (i32 i + 6) (mk I L r)
section
variable {N : Nat} {xs : Nat → Int32} {Ls n i : Nat} {I : Nat → Nat → Int32} {L : Nat → Nat → Int64} {r : Bool}
theorem nx_p {c : Prop} [Decidable c] {a b : Option (Int32 × Mem)} (hc : c) (h : Nx N xs Ls n i a) : Nx N xs Ls n i (if c then a else b) := by rw [if_pos hc]; exact h
theorem nx_n {c : Prop} [Decidable c] {a b : Option (Int32 × Mem)} (hc : ¬ c) (h : Nx N xs Ls n i b) : Nx N xs Ls n i (if c then a else b) := by rw [if_neg hc]; exact h
theorem nx_bd {α : Type} {o : Option α} {x : α} {f : α → Option (Int32 × Mem)} (h1 : o = some x) (h2 : Nx N xs Ls n i (f x)) : Nx N xs Ls n i (o.bind f) := by subst h1; exact h2
theorem nx_z (h : Ok I L) : Nx N xs Ls n i (fL_law_L N xs Ls 0 186 206 n (i32 i + 6) (mk I L r)) := ⟨I, L, r, h, rfl⟩
theorem sc_k {k : Nat} (hL : Ls ≤ 384) (h : i + 6 ≤ Ls) (hk : k < 6) : sc xs Ls (i32 i + i32 k) = some (xs (i + k)) := by
  rw [i_add, sc, if_pos (i_ib (by omega) (by omega)), i_cl (by omega)]
theorem ok_o {v : Int32} {w : Int64} (h : Ok I L) : Ok (up I 186 0 v) (upL L 206 0 w) := by
  obtain ⟨A, G, s, P, n, T, f, E, hC, hM, hI⟩ := h
  refine ⟨A, G, s, P, n, T, f, E, WC_of (fun q hq => up_row (by omega)) (fun q hq => upL_row (by omega)) hC, WM_of (fun q hq => up_row (by omega)) (fun k hk => up_ofk hk) (upL_row (by omega)) (upL_row (by omega)) hM, hI⟩
theorem ok_t {v : Int32} (h : Ok I L) : Ok (up I 186 0 v) L := by
  obtain ⟨A, G, s, P, n, T, f, E, hC, hM, hI⟩ := h
  exact ⟨A, G, s, P, n, T, f, E, WC_t hC, WM_t hM, hI⟩
theorem k206 : K0 206 = 21 := by decide +kernel
theorem n206 : N0 206 = 1 := by decide +kernel
theorem m_thrown : fX11_thrown N 186 (mk I L r) = some (I 186 0, mk I L r) := by
  unfold fX11_thrown
  simp (disch := first | assumption | omega | rfl) only [i_rem, i_pred, i_addn1, i_lit, i_n1, i_add, i_mul, i_sub, i_le, i_lt, i_eq, i_ne1, n1_ne, n1_lt, n1_le, i_lt1, i_le1, bd_s, nar_bi, nar_0, nar_1, if_pos, if_neg, ↓reduceIte, reduceCtorEq, eq_self, if_true, if_false, not_true_eq_false, not_false_eq_true, mo_k, mo_fI, mo_fL, mo_pI, mo_pL, mo_z0, mo_z1, mo_fR1, mo1_a, mo1_t, mo1_n, mo_fR14, mo14_a, mo14_t, mo14_n, mo_fR15, mo15_a, mo15_t, mo15_n, mo_fR16, mo16_a, mo16_t, mo16_n, mo_fR17, mo17_a, mo17_t, mo17_n, mo_fR18, mo18_a, mo18_t, mo18_n, mo_fR19, mo19_a, mo19_t, mo19_n, mo_fR20, mo20_a, mo20_t, mo20_n, mo_fR21, mo21_a, mo21_t, mo21_n, mo_fR22, mo22_a, mo22_t, mo22_n, mo_fR25, mo25_a, mo25_t, mo25_n, mo_fR26, mo26_a, mo26_t, mo26_n, mo_fR28, mo28_a, mo28_t, mo28_n, mo_fR29, mo29_a, mo29_t, mo29_n, mo_fR30, mo30_a, mo30_t, mo30_n, mo_fR33, mo33_a, mo33_t, mo33_n, mo_fR36, mo36_a, mo36_t, mo36_n, mo_fR37, mo37_a, mo37_t, mo37_n, mo_fR40, mo40_a, mo40_t, mo40_n]
theorem cmp_0 {x : Int64} : lg_cmp x x = 0 := by
  unfold lg_cmp
  rw [if_neg (Int64.lt_irrefl), if_pos rfl]

theorem lcs_0 (hN : 1200 < N) (hL : Ls ≤ 384) (h6 : i + 6 ≤ Ls) (h : Ok I L) : Nx N xs Ls n i ((sc xs Ls (i32 i + 1)).bind fun x206 => ((sc xs Ls (i32 i + 2)).bind fun x212 => ((sc xs Ls (i32 i + 3)).bind fun x218 => ((sc xs Ls (i32 i + 4)).bind fun x224 => ((sc xs Ls (i32 i + 5)).bind fun x230 => (if mK (mk I L r) 0 = 11 then ((fX10_feed N 0 x206 x212 x218 x224 x230 (mk I L r)).bind fun (x231, M231) => ((sc xs Ls (i32 i + 1)).bind fun x240 => ((sc xs Ls (i32 i + 2)).bind fun x246 => ((sc xs Ls (i32 i + 3)).bind fun x252 => ((sc xs Ls (i32 i + 4)).bind fun x258 => ((sc xs Ls (i32 i + 5)).bind fun x264 => (if mK M231 186 = 12 then ((fX11_feed N 186 x240 x246 x252 x258 x264 M231).bind fun (x265, M265) => (if x231 = x265 then fL_law_L N xs Ls 0 186 206 n (i32 i + 6) M265 else some (0, M265))) else none))))))) else none)))))) := by
  have s1 : sc xs Ls (i32 i + 1) = some (xs (i + 1)) := sc_k (k := 1) hL h6 (by omega)
  have s2 : sc xs Ls (i32 i + 2) = some (xs (i + 2)) := sc_k (k := 2) hL h6 (by omega)
  have s3 : sc xs Ls (i32 i + 3) = some (xs (i + 3)) := sc_k (k := 3) hL h6 (by omega)
  have s4 : sc xs Ls (i32 i + 4) = some (xs (i + 4)) := sc_k (k := 4) hL h6 (by omega)
  have s5 : sc xs Ls (i32 i + 5) = some (xs (i + 5)) := sc_k (k := 5) hL h6 (by omega)
  have qq : Step2 (fX10_feed N 0 (xs (i + 1)) (xs (i + 2)) (xs (i + 3)) (xs (i + 4)) (xs (i + 5))) (fX11_feed N 186 (xs (i + 1)) (xs (i + 2)) (xs (i + 3)) (xs (i + 4)) (xs (i + 5))) I L r := q_feed hN h
  obtain ⟨y, I1, L1, r1, I2, L2, e1, e2, ok⟩ := qq
  refine nx_bd s1 (nx_bd s2 (nx_bd s3 (nx_bd s4 (nx_bd s5 (nx_p x0_k (nx_bd e1 ?_))))))
  dsimp only
  refine nx_bd s1 (nx_bd s2 (nx_bd s3 (nx_bd s4 (nx_bd s5 (nx_p mo_k (nx_bd e2 ?_))))))
  dsimp only
  exact nx_p rfl (nx_z ok)
theorem lcs_1 (hN : 1200 < N) (hL : Ls ≤ 384) (h6 : i + 6 ≤ Ls) (h : Ok I L) : Nx N xs Ls n i ((sc xs Ls (i32 i + 1)).bind fun x279 => (if mK (mk I L r) 0 = 11 then ((fX10_end N 0 x279 (mk I L r)).bind fun (x280, M280) => ((sc xs Ls (i32 i + 1)).bind fun x289 => (if mK M280 186 = 12 then ((fX11_end N 186 x289 M280).bind fun (x290, M290) => (if x280 = x290 then fL_law_L N xs Ls 0 186 206 n (i32 i + 6) M290 else some (0, M290))) else none))) else none)) := by
  have s1 : sc xs Ls (i32 i + 1) = some (xs (i + 1)) := sc_k (k := 1) hL h6 (by omega)
  have qq : Step2 (fX10_end N 0 (xs (i + 1))) (fX11_end N 186 (xs (i + 1))) I L r := q_end h
  obtain ⟨y, I1, L1, r1, I2, L2, e1, e2, ok⟩ := qq
  refine nx_bd s1 (nx_p x0_k (nx_bd e1 ?_))
  dsimp only
  refine nx_bd s1 (nx_p mo_k (nx_bd e2 ?_))
  dsimp only
  exact nx_p rfl (nx_z ok)
theorem lcs_2 (hN : 1200 < N) (hL : Ls ≤ 384) (h6 : i + 6 ≤ Ls) (h : Ok I L) : Nx N xs Ls n i (if mK (mk I L r) 0 = 11 then ((fX10_shore N 0 (mk I L r)).bind fun (x299, M299) => (if mK M299 186 = 12 then ((fX11_shore N 186 M299).bind fun (x303, M303) => (if x299 = x303 then fL_law_L N xs Ls 0 186 206 n (i32 i + 6) M303 else some (0, M303))) else none)) else none) := by
  have qq : Step2 (fX10_shore N 0 ) (fX11_shore N 186 ) I L r := q_shore hN h
  obtain ⟨y, I1, L1, r1, I2, L2, e1, e2, ok⟩ := qq
  refine nx_p x0_k (nx_bd e1 ?_)
  dsimp only
  refine nx_p mo_k (nx_bd e2 ?_)
  dsimp only
  exact nx_p rfl (nx_z ok)
theorem lcs_3 (hN : 1200 < N) (hL : Ls ≤ 384) (h6 : i + 6 ≤ Ls) (h : Ok I L) : Nx N xs Ls n i (if mK (mk I L r) 0 = 11 then ((fX10_fault N 0 (mk I L r)).bind fun (x312, M312) => (if mK M312 186 = 12 then ((fX11_fault N 186 M312).bind fun (x316, M316) => (if x312 = x316 then fL_law_L N xs Ls 0 186 206 n (i32 i + 6) M316 else some (0, M316))) else none)) else none) := by
  have qq : Step2 (fX10_fault N 0 ) (fX11_fault N 186 ) I L r := q_fault h
  obtain ⟨y, I1, L1, r1, I2, L2, e1, e2, ok⟩ := qq
  refine nx_p x0_k (nx_bd e1 ?_)
  dsimp only
  refine nx_p mo_k (nx_bd e2 ?_)
  dsimp only
  exact nx_p rfl (nx_z ok)
theorem lcs_4 (hN : 1200 < N) (hL : Ls ≤ 384) (h6 : i + 6 ≤ Ls) (h : Ok I L) : Nx N xs Ls n i ((sc xs Ls (i32 i + 1)).bind fun x330 => ((sc xs Ls (i32 i + 2)).bind fun x336 => ((fL_band N 0 x330 x336 206 (mk I L r)).bind fun (x338, M338) => ((sc xs Ls (i32 i + 1)).bind fun x349 => ((sc xs Ls (i32 i + 2)).bind fun x355 => (if mK M338 186 = 12 then ((fX11_band N 186 x349 x355 M338).bind fun (x356, M356) => (if mK M356 186 = 12 then ((fX11_thrown N 186 M356).bind fun (x362, M362) => (if x362 = x338 then (if x338 = 0 then ((aL M362 206 0).bind fun x379 => (if (lg_cmp x379 (Int32.toInt64 x356)) = 0 then fL_law_L N xs Ls 0 186 206 n (i32 i + 6) M362 else some (0, M362))) else fL_law_L N xs Ls 0 186 206 n (i32 i + 6) M362) else some (0, M362))) else none)) else none)))))) := by
  have s1 : sc xs Ls (i32 i + 1) = some (xs (i + 1)) := sc_k (k := 1) hL h6 (by omega)
  have s2 : sc xs Ls (i32 i + 2) = some (xs (i + 2)) := sc_k (k := 2) hL h6 (by omega)
  have qq := q_band (N := N) (r := r) hN h (u := xs (i + 1)) (v := xs (i + 2))
  rcases qq with ⟨y, e1, e2⟩ | ⟨e1, e2⟩
  · have e3 := e2 (upL L 206 0 (Int32.toInt64 y))
    have e0 : fL_band N 0 (xs (i + 1)) (xs (i + 2)) 206 (mk I L r) = some (0, mk I (upL L 206 0 (Int32.toInt64 y)) r) := by
      have t1 : tL (mk I L r) 206 0 (Int32.toInt64 y) = some (mk I (upL L 206 0 (Int32.toInt64 y)) r) := mk_tL k206 n206 (k := 0) (by omega) (by omega)
      unfold fL_band
      rw [if_pos x0_k, e1]
      dsimp only [Option.bind]
      rw [t1]
    have a1 : aL (mk (up I 186 0 (i32 0)) (upL L 206 0 (Int32.toInt64 y)) r) 206 0 = some (Int32.toInt64 y) := by
      have := mk_aL (I := up I 186 0 (i32 0)) (L := upL L 206 0 (Int32.toInt64 y)) (r := r) k206 n206 (k := 0) (by omega) (by omega)
      rw [upL_self] at this; exact this
    have th := m_thrown (N := N) (I := up I 186 0 (i32 0)) (L := upL L 206 0 (Int32.toInt64 y)) (r := r)
    rw [up_self] at th
    refine nx_bd s1 (nx_bd s2 (nx_bd e0 ?_))
    dsimp only
    refine nx_bd s1 (nx_bd s2 (nx_p mo_k (nx_bd e3 ?_)))
    dsimp only
    refine nx_p mo_k (nx_bd th ?_)
    dsimp only
    exact nx_p rfl (nx_p rfl (nx_bd a1 (nx_p cmp_0 (nx_z (ok_o h)))))
  · obtain ⟨y, e3⟩ := e2 L
    have e0 : fL_band N 0 (xs (i + 1)) (xs (i + 2)) 206 (mk I L r) = some (1, mk I L r) := by
      unfold fL_band
      rw [if_pos x0_k, e1]
      rfl
    have th := m_thrown (N := N) (I := up I 186 0 (i32 1)) (L := L) (r := r)
    rw [up_self] at th
    refine nx_bd s1 (nx_bd s2 (nx_bd e0 ?_))
    dsimp only
    refine nx_bd s1 (nx_bd s2 (nx_p mo_k (nx_bd e3 ?_)))
    dsimp only
    refine nx_p mo_k (nx_bd th ?_)
    dsimp only
    exact nx_p rfl (nx_n (by decide) (nx_z (ok_t h)))
theorem lcs_5 (hN : 1200 < N) (hL : Ls ≤ 384) (h6 : i + 6 ≤ Ls) (h : Ok I L) : Nx N xs Ls n i ((sc xs Ls (i32 i + 1)).bind fun x398 => ((sc xs Ls (i32 i + 2)).bind fun x404 => (if mK (mk I L r) 0 = 11 then ((fX10_sign N 0 x398 x404 (mk I L r)).bind fun (x405, M405) => ((sc xs Ls (i32 i + 1)).bind fun x414 => ((sc xs Ls (i32 i + 2)).bind fun x420 => (if mK M405 186 = 12 then ((fX11_sign N 186 x414 x420 M405).bind fun (x421, M421) => (if x405 = x421 then fL_law_L N xs Ls 0 186 206 n (i32 i + 6) M421 else some (0, M421))) else none)))) else none))) := by
  have s1 : sc xs Ls (i32 i + 1) = some (xs (i + 1)) := sc_k (k := 1) hL h6 (by omega)
  have s2 : sc xs Ls (i32 i + 2) = some (xs (i + 2)) := sc_k (k := 2) hL h6 (by omega)
  have qq : Step2 (fX10_sign N 0 (xs (i + 1)) (xs (i + 2))) (fX11_sign N 186 (xs (i + 1)) (xs (i + 2))) I L r := q_sign h
  obtain ⟨y, I1, L1, r1, I2, L2, e1, e2, ok⟩ := qq
  refine nx_bd s1 (nx_bd s2 (nx_p x0_k (nx_bd e1 ?_)))
  dsimp only
  refine nx_bd s1 (nx_bd s2 (nx_p mo_k (nx_bd e2 ?_)))
  dsimp only
  exact nx_p rfl (nx_z ok)
theorem lcs_6 (hN : 1200 < N) (hL : Ls ≤ 384) (h6 : i + 6 ≤ Ls) (h : Ok I L) : Nx N xs Ls n i ((sc xs Ls (i32 i + 1)).bind fun x435 => ((sc xs Ls (i32 i + 2)).bind fun x441 => (if mK (mk I L r) 0 = 11 then ((fX10_hand N 0 x435 x441 (mk I L r)).bind fun (x442, M442) => ((sc xs Ls (i32 i + 1)).bind fun x451 => ((sc xs Ls (i32 i + 2)).bind fun x457 => (if mK M442 186 = 12 then ((fX11_hand N 186 x451 x457 M442).bind fun (x458, M458) => (if x442 = x458 then fL_law_L N xs Ls 0 186 206 n (i32 i + 6) M458 else some (0, M458))) else none)))) else none))) := by
  have s1 : sc xs Ls (i32 i + 1) = some (xs (i + 1)) := sc_k (k := 1) hL h6 (by omega)
  have s2 : sc xs Ls (i32 i + 2) = some (xs (i + 2)) := sc_k (k := 2) hL h6 (by omega)
  have qq : Step2 (fX10_hand N 0 (xs (i + 1)) (xs (i + 2))) (fX11_hand N 186 (xs (i + 1)) (xs (i + 2))) I L r := q_hand h
  obtain ⟨y, I1, L1, r1, I2, L2, e1, e2, ok⟩ := qq
  refine nx_bd s1 (nx_bd s2 (nx_p x0_k (nx_bd e1 ?_)))
  dsimp only
  refine nx_bd s1 (nx_bd s2 (nx_p mo_k (nx_bd e2 ?_)))
  dsimp only
  exact nx_p rfl (nx_z ok)
theorem lcs_7 (hN : 1200 < N) (hL : Ls ≤ 384) (h6 : i + 6 ≤ Ls) (h : Ok I L) : Nx N xs Ls n i ((sc xs Ls (i32 i + 1)).bind fun x472 => ((sc xs Ls (i32 i + 2)).bind fun x478 => ((fL_law N 0 x472 x478 206 (mk I L r)).bind fun (x480, M480) => ((sc xs Ls (i32 i + 1)).bind fun x491 => ((sc xs Ls (i32 i + 2)).bind fun x497 => (if mK M480 186 = 12 then ((fX11_law N 186 x491 x497 M480).bind fun (x498, M498) => (if mK M498 186 = 12 then ((fX11_thrown N 186 M498).bind fun (x504, M504) => (if x504 = x480 then (if x480 = 0 then ((aL M504 206 0).bind fun x521 => (if (lg_cmp x521 (Int32.toInt64 x498)) = 0 then fL_law_L N xs Ls 0 186 206 n (i32 i + 6) M504 else some (0, M504))) else fL_law_L N xs Ls 0 186 206 n (i32 i + 6) M504) else some (0, M504))) else none)) else none)))))) := by
  have s1 : sc xs Ls (i32 i + 1) = some (xs (i + 1)) := sc_k (k := 1) hL h6 (by omega)
  have s2 : sc xs Ls (i32 i + 2) = some (xs (i + 2)) := sc_k (k := 2) hL h6 (by omega)
  have qq := q_law (N := N) (r := r) hN h (u := xs (i + 1)) (v := xs (i + 2))
  rcases qq with ⟨y, e1, e2⟩ | ⟨e1, e2⟩
  · have e3 := e2 (upL L 206 0 (Int32.toInt64 y))
    have e0 : fL_law N 0 (xs (i + 1)) (xs (i + 2)) 206 (mk I L r) = some (0, mk I (upL L 206 0 (Int32.toInt64 y)) r) := by
      have t1 : tL (mk I L r) 206 0 (Int32.toInt64 y) = some (mk I (upL L 206 0 (Int32.toInt64 y)) r) := mk_tL k206 n206 (k := 0) (by omega) (by omega)
      unfold fL_law
      rw [if_pos x0_k, e1]
      dsimp only [Option.bind]
      rw [t1]
    have a1 : aL (mk (up I 186 0 (i32 0)) (upL L 206 0 (Int32.toInt64 y)) r) 206 0 = some (Int32.toInt64 y) := by
      have := mk_aL (I := up I 186 0 (i32 0)) (L := upL L 206 0 (Int32.toInt64 y)) (r := r) k206 n206 (k := 0) (by omega) (by omega)
      rw [upL_self] at this; exact this
    have th := m_thrown (N := N) (I := up I 186 0 (i32 0)) (L := upL L 206 0 (Int32.toInt64 y)) (r := r)
    rw [up_self] at th
    refine nx_bd s1 (nx_bd s2 (nx_bd e0 ?_))
    dsimp only
    refine nx_bd s1 (nx_bd s2 (nx_p mo_k (nx_bd e3 ?_)))
    dsimp only
    refine nx_p mo_k (nx_bd th ?_)
    dsimp only
    exact nx_p rfl (nx_p rfl (nx_bd a1 (nx_p cmp_0 (nx_z (ok_o h)))))
  · obtain ⟨y, e3⟩ := e2 L
    have e0 : fL_law N 0 (xs (i + 1)) (xs (i + 2)) 206 (mk I L r) = some (1, mk I L r) := by
      unfold fL_law
      rw [if_pos x0_k, e1]
      rfl
    have th := m_thrown (N := N) (I := up I 186 0 (i32 1)) (L := L) (r := r)
    rw [up_self] at th
    refine nx_bd s1 (nx_bd s2 (nx_bd e0 ?_))
    dsimp only
    refine nx_bd s1 (nx_bd s2 (nx_p mo_k (nx_bd e3 ?_)))
    dsimp only
    refine nx_p mo_k (nx_bd th ?_)
    dsimp only
    exact nx_p rfl (nx_n (by decide) (nx_z (ok_t h)))
theorem lcs_8 (hN : 1200 < N) (hL : Ls ≤ 384) (h6 : i + 6 ≤ Ls) (h : Ok I L) : Nx N xs Ls n i ((sc xs Ls (i32 i + 1)).bind fun x540 => ((sc xs Ls (i32 i + 2)).bind fun x546 => (if mK (mk I L r) 0 = 11 then ((fX10_lawAt N 0 x540 x546 (mk I L r)).bind fun (x547, M547) => ((sc xs Ls (i32 i + 1)).bind fun x556 => ((sc xs Ls (i32 i + 2)).bind fun x562 => (if mK M547 186 = 12 then ((fX11_lawAt N 186 x556 x562 M547).bind fun (x563, M563) => (if x547 = x563 then fL_law_L N xs Ls 0 186 206 n (i32 i + 6) M563 else some (0, M563))) else none)))) else none))) := by
  have s1 : sc xs Ls (i32 i + 1) = some (xs (i + 1)) := sc_k (k := 1) hL h6 (by omega)
  have s2 : sc xs Ls (i32 i + 2) = some (xs (i + 2)) := sc_k (k := 2) hL h6 (by omega)
  have qq : Step2 (fX10_lawAt N 0 (xs (i + 1)) (xs (i + 2))) (fX11_lawAt N 186 (xs (i + 1)) (xs (i + 2))) I L r := q_lawAt hN h
  obtain ⟨y, I1, L1, r1, I2, L2, e1, e2, ok⟩ := qq
  refine nx_bd s1 (nx_bd s2 (nx_p x0_k (nx_bd e1 ?_)))
  dsimp only
  refine nx_bd s1 (nx_bd s2 (nx_p mo_k (nx_bd e2 ?_)))
  dsimp only
  exact nx_p rfl (nx_z ok)
theorem lcs_9 (hN : 1200 < N) (hL : Ls ≤ 384) (h6 : i + 6 ≤ Ls) (h : Ok I L) : Nx N xs Ls n i ((sc xs Ls (i32 i + 1)).bind fun x577 => ((sc xs Ls (i32 i + 2)).bind fun x583 => (if mK (mk I L r) 0 = 11 then ((fX10_writer N 0 x577 x583 (mk I L r)).bind fun (x584, M584) => ((sc xs Ls (i32 i + 1)).bind fun x593 => ((sc xs Ls (i32 i + 2)).bind fun x599 => (if mK M584 186 = 12 then ((fX11_writer N 186 x593 x599 M584).bind fun (x600, M600) => (if x584 = x600 then fL_law_L N xs Ls 0 186 206 n (i32 i + 6) M600 else some (0, M600))) else none)))) else none))) := by
  have s1 : sc xs Ls (i32 i + 1) = some (xs (i + 1)) := sc_k (k := 1) hL h6 (by omega)
  have s2 : sc xs Ls (i32 i + 2) = some (xs (i + 2)) := sc_k (k := 2) hL h6 (by omega)
  have qq : Step2 (fX10_writer N 0 (xs (i + 1)) (xs (i + 2))) (fX11_writer N 186 (xs (i + 1)) (xs (i + 2))) I L r := q_writer h
  obtain ⟨y, I1, L1, r1, I2, L2, e1, e2, ok⟩ := qq
  refine nx_bd s1 (nx_bd s2 (nx_p x0_k (nx_bd e1 ?_)))
  dsimp only
  refine nx_bd s1 (nx_bd s2 (nx_p mo_k (nx_bd e2 ?_)))
  dsimp only
  exact nx_p rfl (nx_z ok)
theorem lcs_10 (hN : 1200 < N) (hL : Ls ≤ 384) (h6 : i + 6 ≤ Ls) (h : Ok I L) : Nx N xs Ls n i ((sc xs Ls (i32 i + 1)).bind fun x614 => (if mK (mk I L r) 0 = 11 then ((fX10_now N 0 x614 (mk I L r)).bind fun (x615, M615) => ((sc xs Ls (i32 i + 1)).bind fun x624 => (if mK M615 186 = 12 then ((fX11_now N 186 x624 M615).bind fun (x625, M625) => (if x615 = x625 then fL_law_L N xs Ls 0 186 206 n (i32 i + 6) M625 else some (0, M625))) else none))) else none)) := by
  have s1 : sc xs Ls (i32 i + 1) = some (xs (i + 1)) := sc_k (k := 1) hL h6 (by omega)
  have qq : Step2 (fX10_now N 0 (xs (i + 1))) (fX11_now N 186 (xs (i + 1))) I L r := q_now hN h
  obtain ⟨y, I1, L1, r1, I2, L2, e1, e2, ok⟩ := qq
  refine nx_bd s1 (nx_p x0_k (nx_bd e1 ?_))
  dsimp only
  refine nx_bd s1 (nx_p mo_k (nx_bd e2 ?_))
  dsimp only
  exact nx_p rfl (nx_z ok)
theorem lcs_11 (hN : 1200 < N) (hL : Ls ≤ 384) (h6 : i + 6 ≤ Ls) (h : Ok I L) : Nx N xs Ls n i ((sc xs Ls (i32 i + 1)).bind fun x639 => ((sc xs Ls (i32 i + 2)).bind fun x645 => ((sc xs Ls (i32 i + 3)).bind fun x651 => ((sc xs Ls (i32 i + 4)).bind fun x657 => (if mK (mk I L r) 0 = 11 then ((fX10_write N 0 x639 x645 x651 x657 (mk I L r)).bind fun (x658, M658) => ((sc xs Ls (i32 i + 1)).bind fun x667 => ((sc xs Ls (i32 i + 2)).bind fun x673 => ((sc xs Ls (i32 i + 3)).bind fun x679 => ((sc xs Ls (i32 i + 4)).bind fun x685 => (if mK M658 186 = 12 then ((fX11_write N 186 x667 x673 x679 x685 M658).bind fun (x686, M686) => (if x658 = x686 then fL_law_L N xs Ls 0 186 206 n (i32 i + 6) M686 else some (0, M686))) else none)))))) else none))))) := by
  have s1 : sc xs Ls (i32 i + 1) = some (xs (i + 1)) := sc_k (k := 1) hL h6 (by omega)
  have s2 : sc xs Ls (i32 i + 2) = some (xs (i + 2)) := sc_k (k := 2) hL h6 (by omega)
  have s3 : sc xs Ls (i32 i + 3) = some (xs (i + 3)) := sc_k (k := 3) hL h6 (by omega)
  have s4 : sc xs Ls (i32 i + 4) = some (xs (i + 4)) := sc_k (k := 4) hL h6 (by omega)
  have qq : Step2 (fX10_write N 0 (xs (i + 1)) (xs (i + 2)) (xs (i + 3)) (xs (i + 4))) (fX11_write N 186 (xs (i + 1)) (xs (i + 2)) (xs (i + 3)) (xs (i + 4))) I L r := q_write hN h
  obtain ⟨y, I1, L1, r1, I2, L2, e1, e2, ok⟩ := qq
  refine nx_bd s1 (nx_bd s2 (nx_bd s3 (nx_bd s4 (nx_p x0_k (nx_bd e1 ?_)))))
  dsimp only
  refine nx_bd s1 (nx_bd s2 (nx_bd s3 (nx_bd s4 (nx_p mo_k (nx_bd e2 ?_)))))
  dsimp only
  exact nx_p rfl (nx_z ok)
theorem lcs_12 (hN : 1200 < N) (hL : Ls ≤ 384) (h6 : i + 6 ≤ Ls) (h : Ok I L) : Nx N xs Ls n i ((sc xs Ls (i32 i + 1)).bind fun x700 => ((sc xs Ls (i32 i + 2)).bind fun x706 => (if mK (mk I L r) 0 = 11 then ((fX10_tread N 0 x700 x706 (mk I L r)).bind fun (x707, M707) => ((sc xs Ls (i32 i + 1)).bind fun x716 => ((sc xs Ls (i32 i + 2)).bind fun x722 => (if mK M707 186 = 12 then ((fX11_tread N 186 x716 x722 M707).bind fun (x723, M723) => (if x707 = x723 then fL_law_L N xs Ls 0 186 206 n (i32 i + 6) M723 else some (0, M723))) else none)))) else none))) := by
  have s1 : sc xs Ls (i32 i + 1) = some (xs (i + 1)) := sc_k (k := 1) hL h6 (by omega)
  have s2 : sc xs Ls (i32 i + 2) = some (xs (i + 2)) := sc_k (k := 2) hL h6 (by omega)
  have qq : Step2 (fX10_tread N 0 (xs (i + 1)) (xs (i + 2))) (fX11_tread N 186 (xs (i + 1)) (xs (i + 2))) I L r := q_tread hN h
  obtain ⟨y, I1, L1, r1, I2, L2, e1, e2, ok⟩ := qq
  refine nx_bd s1 (nx_bd s2 (nx_p x0_k (nx_bd e1 ?_)))
  dsimp only
  refine nx_bd s1 (nx_bd s2 (nx_p mo_k (nx_bd e2 ?_)))
  dsimp only
  exact nx_p rfl (nx_z ok)
theorem lcs_13 (hN : 1200 < N) (hL : Ls ≤ 384) (h6 : i + 6 ≤ Ls) (h : Ok I L) : Nx N xs Ls n i ((sc xs Ls (i32 i + 1)).bind fun x737 => (if mK (mk I L r) 0 = 11 then ((fX10_hours N 0 x737 (mk I L r)).bind fun (x738, M738) => ((sc xs Ls (i32 i + 1)).bind fun x747 => (if mK M738 186 = 12 then ((fX11_hours N 186 x747 M738).bind fun (x748, M748) => (if x738 = x748 then fL_law_L N xs Ls 0 186 206 n (i32 i + 6) M748 else some (0, M748))) else none))) else none)) := by
  have s1 : sc xs Ls (i32 i + 1) = some (xs (i + 1)) := sc_k (k := 1) hL h6 (by omega)
  have qq : Step2 (fX10_hours N 0 (xs (i + 1))) (fX11_hours N 186 (xs (i + 1))) I L r := q_hours hN h
  obtain ⟨y, I1, L1, r1, I2, L2, e1, e2, ok⟩ := qq
  refine nx_bd s1 (nx_p x0_k (nx_bd e1 ?_))
  dsimp only
  refine nx_bd s1 (nx_p mo_k (nx_bd e2 ?_))
  dsimp only
  exact nx_p rfl (nx_z ok)
theorem lcs_14 (hN : 1200 < N) (hL : Ls ≤ 384) (h6 : i + 6 ≤ Ls) (h : Ok I L) : Nx N xs Ls n i (if mK (mk I L r) 0 = 11 then ((fX10_undo N 0 (mk I L r)).bind fun (x757, M757) => (if mK M757 186 = 12 then ((fX11_undo N 186 M757).bind fun (x761, M761) => (if x757 = x761 then fL_law_L N xs Ls 0 186 206 n (i32 i + 6) M761 else some (0, M761))) else none)) else none) := by
  have qq : Step2 (fX10_undo N 0 ) (fX11_undo N 186 ) I L r := q_undo hN h
  obtain ⟨y, I1, L1, r1, I2, L2, e1, e2, ok⟩ := qq
  refine nx_p x0_k (nx_bd e1 ?_)
  dsimp only
  refine nx_p mo_k (nx_bd e2 ?_)
  dsimp only
  exact nx_p rfl (nx_z ok)
theorem lcs_15 (hN : 1200 < N) (hL : Ls ≤ 384) (h6 : i + 6 ≤ Ls) (h : Ok I L) : Nx N xs Ls n i ((sc xs Ls (i32 i + 1)).bind fun x775 => (if mK (mk I L r) 0 = 11 then ((fX10_fits N 0 x775 (mk I L r)).bind fun (x776, M776) => ((sc xs Ls (i32 i + 1)).bind fun x785 => (if mK M776 186 = 12 then ((fX11_fits N 186 x785 M776).bind fun (x786, M786) => (if x776 = x786 then fL_law_L N xs Ls 0 186 206 n (i32 i + 6) M786 else some (0, M786))) else none))) else none)) := by
  have s1 : sc xs Ls (i32 i + 1) = some (xs (i + 1)) := sc_k (k := 1) hL h6 (by omega)
  have qq : Step2 (fX10_fits N 0 (xs (i + 1))) (fX11_fits N 186 (xs (i + 1))) I L r := q_fits hN h
  obtain ⟨y, I1, L1, r1, I2, L2, e1, e2, ok⟩ := qq
  refine nx_bd s1 (nx_p x0_k (nx_bd e1 ?_))
  dsimp only
  refine nx_bd s1 (nx_p mo_k (nx_bd e2 ?_))
  dsimp only
  exact nx_p rfl (nx_z ok)
theorem lcs_16 (hN : 1200 < N) (hL : Ls ≤ 384) (h6 : i + 6 ≤ Ls) (h : Ok I L) : Nx N xs Ls n i ((sc xs Ls (i32 i + 1)).bind fun x800 => (if mK (mk I L r) 0 = 11 then ((fX10_ask N 0 x800 (mk I L r)).bind fun (x801, M801) => ((sc xs Ls (i32 i + 1)).bind fun x810 => (if mK M801 186 = 12 then ((fX11_ask N 186 x810 M801).bind fun (x811, M811) => (if x801 = x811 then fL_law_L N xs Ls 0 186 206 n (i32 i + 6) M811 else some (0, M811))) else none))) else none)) := by
  have s1 : sc xs Ls (i32 i + 1) = some (xs (i + 1)) := sc_k (k := 1) hL h6 (by omega)
  have qq : Step2 (fX10_ask N 0 (xs (i + 1))) (fX11_ask N 186 (xs (i + 1))) I L r := q_ask hN h
  obtain ⟨y, I1, L1, r1, I2, L2, e1, e2, ok⟩ := qq
  refine nx_bd s1 (nx_p x0_k (nx_bd e1 ?_))
  dsimp only
  refine nx_bd s1 (nx_p mo_k (nx_bd e2 ?_))
  dsimp only
  exact nx_p rfl (nx_z ok)
theorem lcs_17 (hN : 1200 < N) (hL : Ls ≤ 384) (h6 : i + 6 ≤ Ls) (h : Ok I L) : Nx N xs Ls n i ((sc xs Ls (i32 i + 1)).bind fun x825 => (if mK (mk I L r) 0 = 11 then ((fX10_dry N 0 x825 (mk I L r)).bind fun (x826, M826) => ((sc xs Ls (i32 i + 1)).bind fun x835 => (if mK M826 186 = 12 then ((fX11_dry N 186 x835 M826).bind fun (x836, M836) => (if x826 = x836 then fL_law_L N xs Ls 0 186 206 n (i32 i + 6) M836 else some (0, M836))) else none))) else none)) := by
  have s1 : sc xs Ls (i32 i + 1) = some (xs (i + 1)) := sc_k (k := 1) hL h6 (by omega)
  have qq : Step2 (fX10_dry N 0 (xs (i + 1))) (fX11_dry N 186 (xs (i + 1))) I L r := q_dry hN h
  obtain ⟨y, I1, L1, r1, I2, L2, e1, e2, ok⟩ := qq
  refine nx_bd s1 (nx_p x0_k (nx_bd e1 ?_))
  dsimp only
  refine nx_bd s1 (nx_p mo_k (nx_bd e2 ?_))
  dsimp only
  exact nx_p rfl (nx_z ok)
theorem lcs_18 (hN : 1200 < N) (hL : Ls ≤ 384) (h6 : i + 6 ≤ Ls) (h : Ok I L) : Nx N xs Ls n i ((sc xs Ls (i32 i + 1)).bind fun x850 => ((sc xs Ls (i32 i + 2)).bind fun x856 => (if mK (mk I L r) 0 = 11 then ((fX10_keep N 0 x850 x856 (mk I L r)).bind fun (x857, M857) => ((sc xs Ls (i32 i + 1)).bind fun x866 => ((sc xs Ls (i32 i + 2)).bind fun x872 => (if mK M857 186 = 12 then ((fX11_keep N 186 x866 x872 M857).bind fun (x873, M873) => (if x857 = x873 then fL_law_L N xs Ls 0 186 206 n (i32 i + 6) M873 else some (0, M873))) else none)))) else none))) := by
  have s1 : sc xs Ls (i32 i + 1) = some (xs (i + 1)) := sc_k (k := 1) hL h6 (by omega)
  have s2 : sc xs Ls (i32 i + 2) = some (xs (i + 2)) := sc_k (k := 2) hL h6 (by omega)
  have qq : Step2 (fX10_keep N 0 (xs (i + 1)) (xs (i + 2))) (fX11_keep N 186 (xs (i + 1)) (xs (i + 2))) I L r := q_keep hN h
  obtain ⟨y, I1, L1, r1, I2, L2, e1, e2, ok⟩ := qq
  refine nx_bd s1 (nx_bd s2 (nx_p x0_k (nx_bd e1 ?_)))
  dsimp only
  refine nx_bd s1 (nx_bd s2 (nx_p mo_k (nx_bd e2 ?_)))
  dsimp only
  exact nx_p rfl (nx_z ok)
theorem lcs_19 (hN : 1200 < N) (hL : Ls ≤ 384) (h6 : i + 6 ≤ Ls) (h : Ok I L) : Nx N xs Ls n i ((sc xs Ls (i32 i + 1)).bind fun x887 => (if mK (mk I L r) 0 = 11 then ((fX10_mend N 0 x887 (mk I L r)).bind fun (x888, M888) => ((sc xs Ls (i32 i + 1)).bind fun x897 => (if mK M888 186 = 12 then ((fX11_mend N 186 x897 M888).bind fun (x898, M898) => (if x888 = x898 then fL_law_L N xs Ls 0 186 206 n (i32 i + 6) M898 else some (0, M898))) else none))) else none)) := by
  have s1 : sc xs Ls (i32 i + 1) = some (xs (i + 1)) := sc_k (k := 1) hL h6 (by omega)
  have qq : Step2 (fX10_mend N 0 (xs (i + 1))) (fX11_mend N 186 (xs (i + 1))) I L r := q_mend hN h
  obtain ⟨y, I1, L1, r1, I2, L2, e1, e2, ok⟩ := qq
  refine nx_bd s1 (nx_p x0_k (nx_bd e1 ?_))
  dsimp only
  refine nx_bd s1 (nx_p mo_k (nx_bd e2 ?_))
  dsimp only
  exact nx_p rfl (nx_z ok)
theorem lcs_20 (hN : 1200 < N) (hL : Ls ≤ 384) (h6 : i + 6 ≤ Ls) (h : Ok I L) : Nx N xs Ls n i ((sc xs Ls (i32 i + 1)).bind fun x912 => (if mK (mk I L r) 0 = 11 then ((fX10_mendAt N 0 x912 (mk I L r)).bind fun (x913, M913) => ((sc xs Ls (i32 i + 1)).bind fun x922 => (if mK M913 186 = 12 then ((fX11_mendAt N 186 x922 M913).bind fun (x923, M923) => (if x913 = x923 then fL_law_L N xs Ls 0 186 206 n (i32 i + 6) M923 else some (0, M923))) else none))) else none)) := by
  have s1 : sc xs Ls (i32 i + 1) = some (xs (i + 1)) := sc_k (k := 1) hL h6 (by omega)
  have qq : Step2 (fX10_mendAt N 0 (xs (i + 1))) (fX11_mendAt N 186 (xs (i + 1))) I L r := q_mendAt h
  obtain ⟨y, I1, L1, r1, I2, L2, e1, e2, ok⟩ := qq
  refine nx_bd s1 (nx_p x0_k (nx_bd e1 ?_))
  dsimp only
  refine nx_bd s1 (nx_p mo_k (nx_bd e2 ?_))
  dsimp only
  exact nx_p rfl (nx_z ok)
theorem lcs_21 (hN : 1200 < N) (hL : Ls ≤ 384) (h6 : i + 6 ≤ Ls) (h : Ok I L) : Nx N xs Ls n i (if mK (mk I L r) 0 = 11 then ((fX10_room N 0 (mk I L r)).bind fun (x932, M932) => (if mK M932 186 = 12 then ((fX11_room N 186 M932).bind fun (x936, M936) => (if x932 = x936 then fL_law_L N xs Ls 0 186 206 n (i32 i + 6) M936 else some (0, M936))) else none)) else none) := by
  have qq : Step2 (fX10_room N 0 ) (fX11_room N 186 ) I L r := q_room hN h
  obtain ⟨y, I1, L1, r1, I2, L2, e1, e2, ok⟩ := qq
  refine nx_p x0_k (nx_bd e1 ?_)
  dsimp only
  refine nx_p mo_k (nx_bd e2 ?_)
  dsimp only
  exact nx_p rfl (nx_z ok)
theorem lcs_22 (hN : 1200 < N) (hL : Ls ≤ 384) (h6 : i + 6 ≤ Ls) (h : Ok I L) : Nx N xs Ls n i ((sc xs Ls (i32 i + 1)).bind fun x950 => (if mK (mk I L r) 0 = 11 then ((fX10_roomOf N 0 x950 (mk I L r)).bind fun (x951, M951) => ((sc xs Ls (i32 i + 1)).bind fun x960 => (if mK M951 186 = 12 then ((fX11_roomOf N 186 x960 M951).bind fun (x961, M961) => (if x951 = x961 then fL_law_L N xs Ls 0 186 206 n (i32 i + 6) M961 else some (0, M961))) else none))) else none)) := by
  have s1 : sc xs Ls (i32 i + 1) = some (xs (i + 1)) := sc_k (k := 1) hL h6 (by omega)
  have qq : Step2 (fX10_roomOf N 0 (xs (i + 1))) (fX11_roomOf N 186 (xs (i + 1))) I L r := q_roomOf h
  obtain ⟨y, I1, L1, r1, I2, L2, e1, e2, ok⟩ := qq
  refine nx_bd s1 (nx_p x0_k (nx_bd e1 ?_))
  dsimp only
  refine nx_bd s1 (nx_p mo_k (nx_bd e2 ?_))
  dsimp only
  exact nx_p rfl (nx_z ok)
theorem lcs_23 (hN : 1200 < N) (hL : Ls ≤ 384) (h6 : i + 6 ≤ Ls) (h : Ok I L) : Nx N xs Ls n i ((sc xs Ls (i32 i + 1)).bind fun x975 => (if mK (mk I L r) 0 = 11 then ((fX10_bears N 0 x975 (mk I L r)).bind fun (x976, M976) => ((sc xs Ls (i32 i + 1)).bind fun x985 => (if mK M976 186 = 12 then ((fX11_bears N 186 x985 M976).bind fun (x986, M986) => (if x976 = x986 then fL_law_L N xs Ls 0 186 206 n (i32 i + 6) M986 else some (0, M986))) else none))) else none)) := by
  have s1 : sc xs Ls (i32 i + 1) = some (xs (i + 1)) := sc_k (k := 1) hL h6 (by omega)
  have qq : Step2 (fX10_bears N 0 (xs (i + 1))) (fX11_bears N 186 (xs (i + 1))) I L r := q_bears hN h
  obtain ⟨y, I1, L1, r1, I2, L2, e1, e2, ok⟩ := qq
  refine nx_bd s1 (nx_p x0_k (nx_bd e1 ?_))
  dsimp only
  refine nx_bd s1 (nx_p mo_k (nx_bd e2 ?_))
  dsimp only
  exact nx_p rfl (nx_z ok)
theorem lcs_24 (hN : 1200 < N) (hL : Ls ≤ 384) (h6 : i + 6 ≤ Ls) (h : Ok I L) : Nx N xs Ls n i (if mK (mk I L r) 0 = 11 then ((fX10_fullest N 0 (mk I L r)).bind fun (x995, M995) => (if mK M995 186 = 12 then ((fX11_fullest N 186 M995).bind fun (x999, M999) => (if x995 = x999 then fL_law_L N xs Ls 0 186 206 n (i32 i + 6) M999 else some (0, M999))) else none)) else none) := by
  have qq : Step2 (fX10_fullest N 0 ) (fX11_fullest N 186 ) I L r := q_fullest hN h
  obtain ⟨y, I1, L1, r1, I2, L2, e1, e2, ok⟩ := qq
  refine nx_p x0_k (nx_bd e1 ?_)
  dsimp only
  refine nx_p mo_k (nx_bd e2 ?_)
  dsimp only
  exact nx_p rfl (nx_z ok)
theorem lcs_25 (hN : 1200 < N) (hL : Ls ≤ 384) (h6 : i + 6 ≤ Ls) (h : Ok I L) : Nx N xs Ls n i ((sc xs Ls (i32 i + 1)).bind fun x1013 => (if mK (mk I L r) 0 = 11 then ((fX10_row N 0 x1013 (mk I L r)).bind fun (x1014, M1014) => ((sc xs Ls (i32 i + 1)).bind fun x1023 => (if mK M1014 186 = 12 then ((fX11_row N 186 x1023 M1014).bind fun (x1024, M1024) => (if x1014 = x1024 then fL_law_L N xs Ls 0 186 206 n (i32 i + 6) M1024 else some (0, M1024))) else none))) else none)) := by
  have s1 : sc xs Ls (i32 i + 1) = some (xs (i + 1)) := sc_k (k := 1) hL h6 (by omega)
  have qq : Step2 (fX10_row N 0 (xs (i + 1))) (fX11_row N 186 (xs (i + 1))) I L r := q_row hN h
  obtain ⟨y, I1, L1, r1, I2, L2, e1, e2, ok⟩ := qq
  refine nx_bd s1 (nx_p x0_k (nx_bd e1 ?_))
  dsimp only
  refine nx_bd s1 (nx_p mo_k (nx_bd e2 ?_))
  dsimp only
  exact nx_p rfl (nx_z ok)
theorem lcs_26 (hN : 1200 < N) (hL : Ls ≤ 384) (h6 : i + 6 ≤ Ls) (h : Ok I L) : Nx N xs Ls n i ((sc xs Ls (i32 i + 1)).bind fun x1038 => (if mK (mk I L r) 0 = 11 then ((fX10_byteAt N 0 x1038 (mk I L r)).bind fun (x1039, M1039) => ((sc xs Ls (i32 i + 1)).bind fun x1048 => (if mK M1039 186 = 12 then ((fX11_byteAt N 186 x1048 M1039).bind fun (x1049, M1049) => (if x1039 = x1049 then fL_law_L N xs Ls 0 186 206 n (i32 i + 6) M1049 else some (0, M1049))) else none))) else none)) := by
  have s1 : sc xs Ls (i32 i + 1) = some (xs (i + 1)) := sc_k (k := 1) hL h6 (by omega)
  have qq : Step2 (fX10_byteAt N 0 (xs (i + 1))) (fX11_byteAt N 186 (xs (i + 1))) I L r := q_byteAt h
  obtain ⟨y, I1, L1, r1, I2, L2, e1, e2, ok⟩ := qq
  refine nx_bd s1 (nx_p x0_k (nx_bd e1 ?_))
  dsimp only
  refine nx_bd s1 (nx_p mo_k (nx_bd e2 ?_))
  dsimp only
  exact nx_p rfl (nx_z ok)
theorem lcs_27 (hN : 1200 < N) (hL : Ls ≤ 384) (h6 : i + 6 ≤ Ls) (h : Ok I L) : Nx N xs Ls n i ((sc xs Ls (i32 i + 1)).bind fun x1063 => ((sc xs Ls (i32 i + 2)).bind fun x1069 => (if mK (mk I L r) 0 = 11 then ((fX10_drawn N 0 x1063 x1069 (mk I L r)).bind fun (x1070, M1070) => ((sc xs Ls (i32 i + 1)).bind fun x1079 => ((sc xs Ls (i32 i + 2)).bind fun x1085 => (if mK M1070 186 = 12 then ((fX11_drawn N 186 x1079 x1085 M1070).bind fun (x1086, M1086) => (if x1070 = x1086 then fL_law_L N xs Ls 0 186 206 n (i32 i + 6) M1086 else some (0, M1086))) else none)))) else none))) := by
  have s1 : sc xs Ls (i32 i + 1) = some (xs (i + 1)) := sc_k (k := 1) hL h6 (by omega)
  have s2 : sc xs Ls (i32 i + 2) = some (xs (i + 2)) := sc_k (k := 2) hL h6 (by omega)
  have qq : Step2 (fX10_drawn N 0 (xs (i + 1)) (xs (i + 2))) (fX11_drawn N 186 (xs (i + 1)) (xs (i + 2))) I L r := q_drawn hN h
  obtain ⟨y, I1, L1, r1, I2, L2, e1, e2, ok⟩ := qq
  refine nx_bd s1 (nx_bd s2 (nx_p x0_k (nx_bd e1 ?_)))
  dsimp only
  refine nx_bd s1 (nx_bd s2 (nx_p mo_k (nx_bd e2 ?_)))
  dsimp only
  exact nx_p rfl (nx_z ok)
theorem lcs_28 (hN : 1200 < N) (hL : Ls ≤ 384) (h6 : i + 6 ≤ Ls) (h : Ok I L) : Nx N xs Ls n i ((sc xs Ls (i32 i + 1)).bind fun x1100 => ((sc xs Ls (i32 i + 2)).bind fun x1106 => ((sc xs Ls (i32 i + 3)).bind fun x1112 => (if mK (mk I L r) 0 = 11 then ((fX10_odds N 0 x1100 x1106 x1112 (mk I L r)).bind fun (x1113, M1113) => ((sc xs Ls (i32 i + 1)).bind fun x1122 => ((sc xs Ls (i32 i + 2)).bind fun x1128 => ((sc xs Ls (i32 i + 3)).bind fun x1134 => (if mK M1113 186 = 12 then ((fX11_odds N 186 x1122 x1128 x1134 M1113).bind fun (x1135, M1135) => (if x1113 = x1135 then fL_law_L N xs Ls 0 186 206 n (i32 i + 6) M1135 else some (0, M1135))) else none))))) else none)))) := by
  have s1 : sc xs Ls (i32 i + 1) = some (xs (i + 1)) := sc_k (k := 1) hL h6 (by omega)
  have s2 : sc xs Ls (i32 i + 2) = some (xs (i + 2)) := sc_k (k := 2) hL h6 (by omega)
  have s3 : sc xs Ls (i32 i + 3) = some (xs (i + 3)) := sc_k (k := 3) hL h6 (by omega)
  have qq : Step2 (fX10_odds N 0 (xs (i + 1)) (xs (i + 2)) (xs (i + 3))) (fX11_odds N 186 (xs (i + 1)) (xs (i + 2)) (xs (i + 3))) I L r := q_odds hN h
  obtain ⟨y, I1, L1, r1, I2, L2, e1, e2, ok⟩ := qq
  refine nx_bd s1 (nx_bd s2 (nx_bd s3 (nx_p x0_k (nx_bd e1 ?_))))
  dsimp only
  refine nx_bd s1 (nx_bd s2 (nx_bd s3 (nx_p mo_k (nx_bd e2 ?_))))
  dsimp only
  exact nx_p rfl (nx_z ok)
theorem lcs_29 (hN : 1200 < N) (hL : Ls ≤ 384) (h6 : i + 6 ≤ Ls) (h : Ok I L) : Nx N xs Ls n i ((sc xs Ls (i32 i + 1)).bind fun x1149 => (if mK (mk I L r) 0 = 11 then ((fX10_book N 0 x1149 (mk I L r)).bind fun (x1150, M1150) => ((sc xs Ls (i32 i + 1)).bind fun x1159 => (if mK M1150 186 = 12 then ((fX11_book N 186 x1159 M1150).bind fun (x1160, M1160) => (if x1150 = x1160 then fL_law_L N xs Ls 0 186 206 n (i32 i + 6) M1160 else some (0, M1160))) else none))) else none)) := by
  have s1 : sc xs Ls (i32 i + 1) = some (xs (i + 1)) := sc_k (k := 1) hL h6 (by omega)
  have qq : Step2 (fX10_book N 0 (xs (i + 1))) (fX11_book N 186 (xs (i + 1))) I L r := q_book hN h
  obtain ⟨y, I1, L1, r1, I2, L2, e1, e2, ok⟩ := qq
  refine nx_bd s1 (nx_p x0_k (nx_bd e1 ?_))
  dsimp only
  refine nx_bd s1 (nx_p mo_k (nx_bd e2 ?_))
  dsimp only
  exact nx_p rfl (nx_z ok)
theorem lcs_30 (hN : 1200 < N) (hL : Ls ≤ 384) (h6 : i + 6 ≤ Ls) (h : Ok I L) : Nx N xs Ls n i ((sc xs Ls (i32 i + 1)).bind fun x1174 => (if mK (mk I L r) 0 = 11 then ((fX10_told N 0 x1174 (mk I L r)).bind fun (x1175, M1175) => ((sc xs Ls (i32 i + 1)).bind fun x1184 => (if mK M1175 186 = 12 then ((fX11_told N 186 x1184 M1175).bind fun (x1185, M1185) => (if x1175 = x1185 then fL_law_L N xs Ls 0 186 206 n (i32 i + 6) M1185 else some (0, M1185))) else none))) else none)) := by
  have s1 : sc xs Ls (i32 i + 1) = some (xs (i + 1)) := sc_k (k := 1) hL h6 (by omega)
  have qq : Step2 (fX10_told N 0 (xs (i + 1))) (fX11_told N 186 (xs (i + 1))) I L r := q_told h
  obtain ⟨y, I1, L1, r1, I2, L2, e1, e2, ok⟩ := qq
  refine nx_bd s1 (nx_p x0_k (nx_bd e1 ?_))
  dsimp only
  refine nx_bd s1 (nx_p mo_k (nx_bd e2 ?_))
  dsimp only
  exact nx_p rfl (nx_z ok)
theorem lcs_31 (hN : 1200 < N) (hL : Ls ≤ 384) (h6 : i + 6 ≤ Ls) (h : Ok I L) : Nx N xs Ls n i (if mK (mk I L r) 0 = 11 then ((fX10_sentence N 0 (mk I L r)).bind fun (x1194, M1194) => (if mK M1194 186 = 12 then ((fX11_sentence N 186 M1194).bind fun (x1198, M1198) => (if x1194 = x1198 then fL_law_L N xs Ls 0 186 206 n (i32 i + 6) M1198 else some (0, M1198))) else none)) else none) := by
  have qq : Step2 (fX10_sentence N 0 ) (fX11_sentence N 186 ) I L r := q_sentence hN h
  obtain ⟨y, I1, L1, r1, I2, L2, e1, e2, ok⟩ := qq
  refine nx_p x0_k (nx_bd e1 ?_)
  dsimp only
  refine nx_p mo_k (nx_bd e2 ?_)
  dsimp only
  exact nx_p rfl (nx_z ok)
theorem lcs_32 (hN : 1200 < N) (hL : Ls ≤ 384) (h6 : i + 6 ≤ Ls) (h : Ok I L) : Nx N xs Ls n i ((sc xs Ls (i32 i + 1)).bind fun x1212 => (if mK (mk I L r) 0 = 11 then ((fX10_said N 0 x1212 (mk I L r)).bind fun (x1213, M1213) => ((sc xs Ls (i32 i + 1)).bind fun x1222 => (if mK M1213 186 = 12 then ((fX11_said N 186 x1222 M1213).bind fun (x1223, M1223) => (if x1213 = x1223 then fL_law_L N xs Ls 0 186 206 n (i32 i + 6) M1223 else some (0, M1223))) else none))) else none)) := by
  have s1 : sc xs Ls (i32 i + 1) = some (xs (i + 1)) := sc_k (k := 1) hL h6 (by omega)
  have qq : Step2 (fX10_said N 0 (xs (i + 1))) (fX11_said N 186 (xs (i + 1))) I L r := q_said hN h
  obtain ⟨y, I1, L1, r1, I2, L2, e1, e2, ok⟩ := qq
  refine nx_bd s1 (nx_p x0_k (nx_bd e1 ?_))
  dsimp only
  refine nx_bd s1 (nx_p mo_k (nx_bd e2 ?_))
  dsimp only
  exact nx_p rfl (nx_z ok)
theorem lcs_33 (hN : 1200 < N) (hL : Ls ≤ 384) (h6 : i + 6 ≤ Ls) (h : Ok I L) : Nx N xs Ls n i ((sc xs Ls (i32 i + 1)).bind fun x1237 => (if mK (mk I L r) 0 = 11 then ((fX10_image N 0 x1237 (mk I L r)).bind fun (x1238, M1238) => ((sc xs Ls (i32 i + 1)).bind fun x1247 => (if mK M1238 186 = 12 then ((fX11_image N 186 x1247 M1238).bind fun (x1248, M1248) => (if x1238 = x1248 then fL_law_L N xs Ls 0 186 206 n (i32 i + 6) M1248 else some (0, M1248))) else none))) else none)) := by
  have s1 : sc xs Ls (i32 i + 1) = some (xs (i + 1)) := sc_k (k := 1) hL h6 (by omega)
  have qq : Step2 (fX10_image N 0 (xs (i + 1))) (fX11_image N 186 (xs (i + 1))) I L r := q_image hN h
  obtain ⟨y, I1, L1, r1, I2, L2, e1, e2, ok⟩ := qq
  refine nx_bd s1 (nx_p x0_k (nx_bd e1 ?_))
  dsimp only
  refine nx_bd s1 (nx_p mo_k (nx_bd e2 ?_))
  dsimp only
  exact nx_p rfl (nx_z ok)
theorem lcs_34 (hN : 1200 < N) (hL : Ls ≤ 384) (h6 : i + 6 ≤ Ls) (h : Ok I L) : Nx N xs Ls n i ((sc xs Ls (i32 i + 1)).bind fun x1262 => (if mK (mk I L r) 0 = 11 then ((fX10_restore N 0 x1262 (mk I L r)).bind fun (x1263, M1263) => ((sc xs Ls (i32 i + 1)).bind fun x1272 => (if mK M1263 186 = 12 then ((fX11_restore N 186 x1272 M1263).bind fun (x1273, M1273) => (if x1263 = x1273 then fL_law_L N xs Ls 0 186 206 n (i32 i + 6) M1273 else some (0, M1273))) else none))) else none)) := by
  have s1 : sc xs Ls (i32 i + 1) = some (xs (i + 1)) := sc_k (k := 1) hL h6 (by omega)
  have qq : Step2 (fX10_restore N 0 (xs (i + 1))) (fX11_restore N 186 (xs (i + 1))) I L r := q_restore hN h
  obtain ⟨y, I1, L1, r1, I2, L2, e1, e2, ok⟩ := qq
  refine nx_bd s1 (nx_p x0_k (nx_bd e1 ?_))
  dsimp only
  refine nx_bd s1 (nx_p mo_k (nx_bd e2 ?_))
  dsimp only
  exact nx_p rfl (nx_z ok)
theorem lcs_35 (hN : 1200 < N) (hL : Ls ≤ 384) (h6 : i + 6 ≤ Ls) (h : Ok I L) : Nx N xs Ls n i ((sc xs Ls (i32 i + 1)).bind fun x1287 => (if mK (mk I L r) 0 = 11 then ((fX10_count N 0 x1287 (mk I L r)).bind fun (x1288, M1288) => ((sc xs Ls (i32 i + 1)).bind fun x1297 => (if mK M1288 186 = 12 then ((fX11_count N 186 x1297 M1288).bind fun (x1298, M1298) => (if x1288 = x1298 then fL_law_L N xs Ls 0 186 206 n (i32 i + 6) M1298 else some (0, M1298))) else none))) else none)) := by
  have s1 : sc xs Ls (i32 i + 1) = some (xs (i + 1)) := sc_k (k := 1) hL h6 (by omega)
  have qq : Step2 (fX10_count N 0 (xs (i + 1))) (fX11_count N 186 (xs (i + 1))) I L r := q_count h
  obtain ⟨y, I1, L1, r1, I2, L2, e1, e2, ok⟩ := qq
  refine nx_bd s1 (nx_p x0_k (nx_bd e1 ?_))
  dsimp only
  refine nx_bd s1 (nx_p mo_k (nx_bd e2 ?_))
  dsimp only
  exact nx_p rfl (nx_z ok)
end
