def zzE : Ans := (fun _ => n1, fun _ => n1, fun _ => n1, 0, fun _ => 0)
theorem h00 : hOk zzH := by
  refine ⟨by decide, by decide, by decide, by decide, by decide, by decide, ?_, ?_, ?_, ?_⟩
  · intro b hb; exact absurd hb (Nat.not_lt_zero _)
  · intro b hb; exact absurd hb (Nat.not_lt_zero _)
  · intro b hb; exact absurd hb (Nat.not_lt_zero _)
  · intro b hb; exact absurd hb (Nat.not_lt_zero _)
theorem b00 : bOk zzH zzB := by
  refine ⟨⟨0, by omega, rfl⟩, ?_, ?_⟩
  · intro b hb; exact absurd hb (Nat.not_lt_zero _)
  · intro b p hb hp _
    constructor
    · unfold zzB; rw [if_pos (by omega)]
    · unfold zzB; rw [if_pos (by omega)]
theorem b00_lo {k : Nat} (h : k < 20) : zzB k = 0 := by unfold zzB; rw [if_neg (by omega)]
theorem b00_hi {k : Nat} (h : 20 ≤ k) : zzB k = n1 := by unfold zzB; rw [if_pos h]
theorem ok_gen {I : Nat → Nat → Int32} {L : Nat → Nat → Int64}
  (c1 : (I 4 0 = i32 0 ∧ I 4 6 = i32 0 ∧ I 4 9 = i32 0 ∧ I 4 4 = i32 0 ∧ I 4 14 = i32 3) ∧ (I 26 9 = 0 ∧ I 26 10 = 0 ∧ I 26 11 = 0 ∧ I 26 8 = 0) ∧ I 114 6 = i32 0 ∧ I 4 15 = i32 0 ∧ (I 42 1 = i32 0 ∧ I 42 2 = i32 0) ∧ (I 137 0 = i32 0 ∧ I 137 1 = i32 0) ∧ (I 1 2 = i32 0 ∧ I 1 10 = i32 0) ∧ I 0 14 = i32 0)
  (c2 : (∀ l, l < 6 → I 31 l = 0) ∧ (∀ w, w < 4 → I 32 w = 0) ∧ (∀ b, b < 6 → I 30 b = 0) ∧ (∀ i, i < 72 → I 27 i = n1) ∧ (∀ i, i < 72 → I 28 i = n1) ∧ ∀ b, b < 6 → I 29 b = 0)
  (c4 : (∀ k, k < 3 → I 127 (1 + k) = n1) ∧ (∀ l, l < 6 → I 131 l = n1) ∧ (∀ k, k < 4 → I 108 (7 + k) = n1))
  (c5 : ∀ k, k < 20 → L 3 k = i64 (cB 32 (kwd k)))
  (m1 : (∀ k, k < 5 → I 188 (0 + k) = i32 (zzH k)) ∧ I 188 199 = i32 0 ∧ I 186 24 = i32 0 ∧ (I 196 0 = i32 0 ∧ I 196 1 = i32 0) ∧ (I 186 2 = i32 0 ∧ I 186 10 = i32 0) ∧ I 186 27 = i32 0 ∧ I 186 32 = i32 0 ∧ I 186 39 = i32 0 ∧ I 186 34 = i32 0)
  (m2 : ∀ k, k < 164 → I 188 (0 + 35 + k) = zzB k) : Ok I L := by
  obtain ⟨a1, a2, a3, a4, a5, a6, a7, a8⟩ := c1
  obtain ⟨b1, b2, b3, b4, b5, b6⟩ := c2
  obtain ⟨d1, d2, d3, d4, d5, d6, d7, d8, d9⟩ := m1
  have z0 : ∀ (p : Nat → Prop) k, k < zzH 0 → p k := fun p k hk => absurd hk (Nat.not_lt_zero _)
  have z1 : ∀ (p : Nat → Prop) k, k < zzH 1 → p k := fun p k hk => absurd hk (Nat.not_lt_zero _)
  have z2 : ∀ (p : Nat → Prop) k, k < zzH 2 → p k := fun p k hk => absurd hk (Nat.not_lt_zero _)
  have z3 : ∀ (p : Nat → Prop) k, k < zzH 3 → p k := fun p k hk => absurd hk (Nat.not_lt_zero _)
  refine ⟨(zzH, fun _ => [], zzB, none), fun _ => none, 0, fun _ _ => 0, 0, fun _ => 0, i32 0, zzE, ?_, ?_, ?_⟩
  · refine ⟨⟨⟨a1, z0 _, z0 _, z3 _, z1 _, z2 _, z2 _, z2 _⟩, ⟨z0 _, z1 _, z2 _⟩, ⟨a2, fun l hl => ?_, fun w hw => ?_, fun b hb => ?_, fun i hi => ?_, fun i hi => ?_, fun b hb => ?_⟩, a3, Or.inl a4⟩, ⟨0, by omega, by omega, a5.1, a5.2, fun j hj => absurd hj (Nat.not_lt_zero _)⟩, ?_, ⟨a7.1, by omega, a7.2, fun k hk => absurd hk (Nat.not_lt_zero _), c5⟩, ⟨c4.1, c4.2.1, c4.2.2, a8, by show 0 ≤ 20; omega, fun k hk => absurd hk (Nat.not_lt_zero _)⟩⟩
    · show I 31 l = zzB (4 + l)
      rw [b00_lo (by omega)]; exact b1 l hl
    · show I 32 w = zzB (10 + w)
      rw [b00_lo (by omega)]; exact b2 w hw
    · show I 30 b = zzB (14 + b)
      rw [b00_lo (by omega)]; exact b3 b hb
    · show I 27 i = zzB (20 + i)
      rw [b00_hi (by omega)]; exact b4 i hi
    · show I 28 i = zzB (92 + i)
      rw [b00_hi (by omega)]; exact b5 i hi
    · show I 29 b = i32 (cn zzB b)
      rw [st_c3 b hb]; exact b6 b hb
    · intro k hk
      obtain rfl | rfl : k = 0 ∨ k = 1 := by omega
      · exact a6.1
      · exact a6.2
  · refine ⟨⟨⟨d1, z0 _, z0 _, z3 _, z1 _, z2 _⟩, ⟨z0 _, z1 _, z2 _⟩, m2, d2⟩, ⟨by omega, d3, fun j hj => absurd hj (Nat.not_lt_zero _)⟩, ?_, ⟨d5.1, d5.2, fun k hk => absurd hk (Nat.not_lt_zero _)⟩, ⟨Or.inl ⟨d6, fun _ _ => rfl⟩, Or.inl ⟨d7, fun _ _ => rfl⟩, Or.inl ⟨d8, fun _ _ => rfl⟩, d9, fun k hk => absurd hk (Nat.not_lt_zero _)⟩⟩
    intro k hk
    obtain rfl | rfl : k = 0 ∨ k = 1 := by omega
    · exact d4.1
    · exact d4.2
  · exact ⟨⟨h00, ⟨z0 _, z1 _, z2 _⟩, b00⟩, fun k hk A' z => (by cases z), fun j hj => absurd hj (Nat.not_lt_zero _), fun k hk => absurd hk (Nat.not_lt_zero _)⟩
theorem ok_start : Ok (mI Mst) (mL Mst) := ok_gen st_c1 st_c2 st_c4 st_c5 st_m1 st_m2
theorem mst_z : mZ Mst = 0 := by decide +kernel
theorem r0_mst : R0 false = mR Mst := by
  funext q k
  have rq : Rq q k = mR Mst q k := by
    unfold Rq
    by_cases c : q < 207 ∧ k < 45
    · rw [if_pos c, mst_r q c.1 k c.2]
    · rw [if_neg c]
  unfold R0
  by_cases c : q = 124
  · subst c
    rw [if_pos rfl]
    by_cases c1 : k = 1
    · subst c1; rw [if_pos rfl, mst_r1.1]; rfl
    · rw [if_neg c1]
      by_cases c2 : k = 2
      · subst c2; rw [if_pos rfl, mst_r1.2]; rfl
      · rw [if_neg c2]; exact rq
  · rw [if_neg c]; exact rq
theorem k0_mst : K0 = mK Mst := by
  funext q
  unfold K0
  by_cases c : q < 207
  · rw [if_pos c, mst_k q c]
  · rw [if_neg c]
theorem n0_mst : N0 = mN Mst := by
  funext q
  unfold N0
  by_cases c : q < 207
  · rw [if_pos c, mst_n q c]
  · rw [if_neg c]
theorem mem_eta (M : Mem) (r : Bool) (h1 : R0 r = mR M) (h2 : K0 = mK M) (h3 : N0 = mN M) (h4 : mZ M = 0) : mk (mI M) (mL M) r = M := by
  obtain ⟨a, b, c, d, e, f⟩ := M
  unfold mk
  rw [h1, h2, h3]
  have h4 : f = 0 := h4
  rw [h4]
theorem mk_mst : mk (mI Mst) (mL Mst) false = Mst := mem_eta Mst false r0_mst k0_mst n0_mst mst_z
/-- both made, and where they lie -/
def MstP : Option (Nat × Nat × Nat × Mem) := ((nO M00 10).bind fun (x0_1, M0_1) => ((fX10_init 2000 x0_1 M0_1).bind fun (u4, M4_2) => ((nO M4_2 11).bind fun (x8_3, M8_3) => ((fX11_init 2000 x8_3 M8_3).bind fun (u12, M12_4) => ((nV M12_4 21 1).bind fun (x17_5, M17_5) => some (x0_1, x8_3, x17_5, fg M17_5))))))
theorem mstP_n : MstP.map (fun p => (p.1, p.2.1, p.2.2.1)) = some (0, 186, 206) := by decide +kernel
theorem mstP_O : MstO = MstP.map (fun p => p.2.2.2) := by
  unfold MstO MstP
  generalize nO M00 10 = o1
  cases o1 with
  | none => rfl
  | some p1 =>
    obtain ⟨x1, M1⟩ := p1
    dsimp only [Option.bind]
    generalize fX10_init 2000 x1 M1 = o2
    cases o2 with
    | none => rfl
    | some p2 =>
      obtain ⟨x2, M2⟩ := p2
      dsimp only [Option.bind]
      generalize nO M2 11 = o3
      cases o3 with
      | none => rfl
      | some p3 =>
        obtain ⟨x3, M3⟩ := p3
        dsimp only [Option.bind]
        generalize fX11_init 2000 x3 M3 = o4
        cases o4 with
        | none => rfl
        | some p4 =>
          obtain ⟨x4, M4⟩ := p4
          dsimp only [Option.bind]
          generalize nV M4 21 1 = o5
          cases o5 with
          | none => rfl
          | some p5 => rfl
theorem law_eq {xs : Nat → Int32} {Ls : Nat} : fL_law_ 2000 xs Ls M00 = MstP.bind fun p => fL_law_L 2000 xs Ls p.1 p.2.1 p.2.2.1 2000 0 p.2.2.2 := by
  unfold fL_law_ MstP
  generalize nO M00 10 = o1
  cases o1 with
  | none => rfl
  | some p1 =>
    obtain ⟨x1, M1⟩ := p1
    dsimp only [Option.bind]
    generalize fX10_init 2000 x1 M1 = o2
    cases o2 with
    | none => rfl
    | some p2 =>
      obtain ⟨x2, M2⟩ := p2
      dsimp only [Option.bind]
      generalize nO M2 11 = o3
      cases o3 with
      | none => rfl
      | some p3 =>
        obtain ⟨x3, M3⟩ := p3
        dsimp only [Option.bind]
        generalize fX11_init 2000 x3 M3 = o4
        cases o4 with
        | none => rfl
        | some p4 =>
          obtain ⟨x4, M4⟩ := p4
          dsimp only [Option.bind]
          generalize nV M4 21 1 = o5
          cases o5 with
          | none => rfl
          | some p5 => rfl
theorem mstP_e : MstP = some (0, 186, 206, Mst) := by
  have h1 := mstP_n
  have h2 := mstP_O
  have h3 : Mst = MstO.getD M00 := rfl
  generalize MstO = o at h2 h3
  generalize MstP = p at h1 h2 ⊢
  generalize Mst = q at h3 ⊢
  cases p with
  | none => cases h1
  | some p =>
    obtain ⟨a, b, c, d⟩ := p
    have h1 : some (a, b, c) = some (0, 186, 206) := h1
    cases h1
    rw [h2] at h3
    rw [h3]; rfl
