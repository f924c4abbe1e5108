/-! ===== WHAT STAYS TRUE ===== -/
def bQ (H : Nat → Nat) (B : Nat → Int32) : Prop := (∀ l, l < H 2 → lpd B l = false → ∃ a, a < H 4 ∧ B (4 + l) = i32 a) ∧ (∀ b p, b < 6 → p < 12 → (b < H 0 → H (11 + b) ≤ p) → B (20 + (12 * b + p)) = n1 ∧ B (92 + (12 * b + p)) = n1)
theorem lpd_bit {B : Nat → Int32} {l : Nat} (hl : l < 32) : lpd B l = (B 3).toBitVec.getLsbD l := by
  rw [lpd, sr_bit hl]
  cases (B 3).toBitVec.getLsbD l <;> decide
section
variable {H : Nat → Nat} {B C : Nat → Int32} {I : Nat → Nat → Int32} {L : Nat → Nat → Int64} {r : Bool} {N a : Nat}
theorem lpd_c {l : Nat} (h : C 3 = B 3) : lpd C l = lpd B l := by rw [lpd, lpd, h]
theorem bQ_lo (h : bQ H B) (e3 : C 3 = B 3) (e : ∀ l, l < 6 → C (4 + l) = B (4 + l)) (hO : hOk H) (e2 : ∀ b p, b < 6 → p < 12 → (b < H 0 → H (11 + b) ≤ p) → C (20 + (12 * b + p)) = n1 ∧ C (92 + (12 * b + p)) = n1) : bQ H C := by
  have o2 := hO.2.2.1
  refine ⟨fun l hl h1 => ?_, e2⟩
  rw [lpd_c e3] at h1
  rw [e l (by omega)]; exact h.1 l hl h1
theorem bQ_pw (hO : hOk H) (h : bQ H B) {w b p s : Nat} (hw : w < H 1) (hb : b < H 0) (hp : p < H (11 + b)) : bQ H (pw B w (12 * b + p) s) := by
  have o0 := hO.1; have o1 := hO.2.1; have o2 := hO.2.2.1; have o3 := hO.2.2.2.1; have o4 := hO.2.2.2.2.1; have o5 := hO.2.2.2.2.2.1; have wd_b := hO.2.2.2.2.2.2.1 b (by assumption)
  refine bQ_lo h (by simp (disch := omega) only [up_at, up_off, upL_at, upL_off, if_pos, if_neg, if_true, true_or, or_true, true_and, and_true, pw]) (fun l hl => by simp (disch := omega) only [up_at, up_off, upL_at, upL_off, if_pos, if_neg, if_true, true_or, or_true, true_and, and_true, pw]) hO (fun b' p' hb' hp' hc => ?_)
  have h2 := h.2 b' p' hb' hp' hc
  have hne : 12 * b' + p' ≠ 12 * b + p := by
    intro z
    have e1 : b' = b := by omega
    have e2 : p' = p := by omega
    subst e1; subst e2
    have := hc hb; omega
  refine ⟨?_, ?_⟩
  · simp (disch := omega) only [up_at, up_off, upL_at, upL_off, if_pos, if_neg, if_true, true_or, or_true, true_and, and_true, pw]; exact h2.1
  · simp (disch := omega) only [up_at, up_off, upL_at, upL_off, if_pos, if_neg, if_true, true_or, or_true, true_and, and_true, pw]; exact h2.2
theorem bQ_tr (hO : hOk H) (h : bQ H B) {i : Nat} (hi : i < 72) : bQ H (tr B i) := by
  refine bQ_lo h (by simp (disch := omega) only [up_at, up_off, upL_at, upL_off, if_pos, if_neg, if_true, true_or, or_true, true_and, and_true, tr]) (fun l hl => by simp (disch := omega) only [up_at, up_off, upL_at, upL_off, if_pos, if_neg, if_true, true_or, or_true, true_and, and_true, tr]) hO (fun b' p' hb' hp' hc => ?_)
  have h2 := h.2 b' p' hb' hp' hc
  by_cases e : 12 * b' + p' = i
  · subst e; exact ⟨by simp (disch := omega) only [up_at, up_off, upL_at, upL_off, if_pos, if_neg, if_true, true_or, or_true, true_and, and_true, tr], by simp (disch := omega) only [up_at, up_off, upL_at, upL_off, if_pos, if_neg, if_true, true_or, or_true, true_and, and_true, tr]⟩
  · exact ⟨by simp (disch := omega) only [up_at, up_off, upL_at, upL_off, if_pos, if_neg, if_true, true_or, or_true, true_and, and_true, tr]; exact h2.1, by simp (disch := omega) only [up_at, up_off, upL_at, upL_off, if_pos, if_neg, if_true, true_or, or_true, true_and, and_true, tr]; exact h2.2⟩
theorem bQ_wsh (hO : hOk H) (h : bQ H B) {b : Nat} (hb : b < 6) : bQ H (wsh B b) := by
  refine bQ_lo h (by simp (disch := omega) only [up_at, up_off, upL_at, upL_off, if_pos, if_neg, if_true, true_or, or_true, true_and, and_true, wsh]) (fun l hl => by simp (disch := omega) only [up_at, up_off, upL_at, upL_off, if_pos, if_neg, if_true, true_or, or_true, true_and, and_true, wsh]) hO (fun b' p' hb' hp' hc => ?_)
  have h2 := h.2 b' p' hb' hp' hc
  by_cases e : b' = b
  · subst e; exact ⟨by simp (disch := omega) only [up_at, up_off, upL_at, upL_off, if_pos, if_neg, if_true, true_or, or_true, true_and, and_true, wsh], by simp (disch := omega) only [up_at, up_off, upL_at, upL_off, if_pos, if_neg, if_true, true_or, or_true, true_and, and_true, wsh]⟩
  · exact ⟨by simp (disch := omega) only [up_at, up_off, upL_at, upL_off, if_pos, if_neg, if_true, true_or, or_true, true_and, and_true, wsh]; exact h2.1, by simp (disch := omega) only [up_at, up_off, upL_at, upL_off, if_pos, if_neg, if_true, true_or, or_true, true_and, and_true, wsh]; exact h2.2⟩
theorem bQ_wshs (hO : hOk H) {t : Int32} (h : bQ H B) : ∀ m, m ≤ 6 → bQ H (wshs H t B m) := by
  intro m
  induction m with
  | zero => intro _; exact h
  | succ m ih =>
    intro hm
    have e : wshs H t B (m + 1) = if t < i32 (H (5 + m)) then wshs H t B m else wsh (wshs H t B m) m := rfl
    rw [e]
    split
    · exact ih (by omega)
    · exact bQ_wsh hO (ih (by omega)) (by omega)
/-- a bit is set -/
theorem lpd_or {l k : Nat} (hl : l < 6) (hk : k < 6) (e : C 3 = B 3 ||| (i32 1 <<< (i32 l &&& i32 31))) : lpd C k = (lpd B k || decide (k = l)) := by
  rw [lpd_bit (by omega), lpd_bit (by omega), e, tb_or, BitVec.getLsbD_or, tp_bit (by omega)]
theorem bQ_old (hO : hOk H) (h : bQ H B) {l : Nat} (hl : l < H 2) : bQ H (old H B l) := by
  have o0 := hO.1; have o1 := hO.2.1; have o2 := hO.2.2.1; have o3 := hO.2.2.2.1; have o4 := hO.2.2.2.2.1; have o5 := hO.2.2.2.2.2.1
  rw [old]
  cases h0 : lpd B l with
  | true => exact h
  | false =>
    obtain ⟨a, h1, h2⟩ := h.1 l hl h0
    rw [if_neg (by simp)]
    have z : ∀ (v : Int32) (b p : Nat), b < 6 → p < 12 → (b < H 0 → H (11 + b) ≤ p) → b1 B (4 + l) v (20 + (12 * b + p)) = n1 ∧ b1 B (4 + l) v (92 + (12 * b + p)) = n1 := fun v b p hb hp hc => by
      have h2 := h.2 b p hb hp hc
      exact ⟨by simp (disch := omega) only [up_at, up_off, upL_at, upL_off, if_pos, if_neg, if_true, true_or, or_true, true_and, and_true, b1]; exact h2.1, by simp (disch := omega) only [up_at, up_off, upL_at, upL_off, if_pos, if_neg, if_true, true_or, or_true, true_and, and_true, b1]; exact h2.2⟩
    have z2 : ∀ (v : Int32) (c : Nat), c < H 4 → v = i32 c → bQ H (b1 B (4 + l) v) := fun v c hc hv => by
      refine ⟨fun k hk hp => ?_, z v⟩
      rw [lpd_c (B := B) (by simp (disch := omega) only [up_at, up_off, upL_at, upL_off, if_pos, if_neg, if_true, true_or, or_true, true_and, and_true, b1])] at hp
      by_cases hkl : k = l
      · subst hkl; exact ⟨c, hc, by simp (disch := omega) only [up_at, up_off, upL_at, upL_off, if_pos, if_neg, if_true, true_or, or_true, true_and, and_true, b1]; exact hv⟩
      · obtain ⟨a', h3, h4⟩ := h.1 k hk hp
        exact ⟨a', h3, by simp (disch := omega) only [up_at, up_off, upL_at, upL_off, if_pos, if_neg, if_true, true_or, or_true, true_and, and_true, b1]; exact h4⟩
    split
    · split
      · rename_i hlt
        rw [h2, i_add, i_lt (by omega) (by omega)] at hlt
        exact z2 _ (a + 1) hlt (by rw [h2, i_add])
      · refine ⟨fun k hk hp => ?_, fun b p hb hp hc => ?_⟩
        · rw [lpd_or (B := B) (l := l) (by omega) (by omega) (by simp (disch := omega) only [up_at, up_off, upL_at, upL_off, if_pos, if_neg, if_true, true_or, or_true, true_and, and_true, b1])] at hp
          have hp1 : lpd B k = false := by
            cases e : lpd B k with
            | false => rfl
            | true => rw [e] at hp; simp at hp
          have hkl : ¬ k = l := by
            intro e; rw [hp1] at hp; simp [e] at hp
          obtain ⟨a', h3, h4⟩ := h.1 k hk hp1
          exact ⟨a', h3, by simp (disch := omega) only [up_at, up_off, upL_at, upL_off, if_pos, if_neg, if_true, true_or, or_true, true_and, and_true, b1]; exact h4⟩
        · have := z (B (4 + l) + i32 1) b p hb hp hc
          refine ⟨?_, ?_⟩
          · rw [b1, if_neg (by omega)]; exact this.1
          · rw [b1, if_neg (by omega)]; exact this.2
    · exact z2 _ 0 (by omega) rfl
theorem bQ_olds (hO : hOk H) (h : bQ H B) : ∀ m, m ≤ H 2 → bQ H (olds H B m) := by
  intro m
  induction m with
  | zero => intro _; exact h
  | succ m ih => intro hm; exact bQ_old hO (ih (by omega)) (by omega)
theorem bQ_hr1 (hO : hOk H) (h : bQ H B) {h0 : Nat} : bQ H (hr1 H B h0) := by
  have o0 := hO.1; have o1 := hO.2.1; have o2 := hO.2.2.1; have o3 := hO.2.2.2.1; have o4 := hO.2.2.2.2.1; have o5 := hO.2.2.2.2.2.1
  have h1 := bQ_olds hO (bQ_wshs (t := tdA H h0) hO h (H 0) (by omega)) (H 2) (Nat.le_refl _)
  refine bQ_lo h1 (by simp (disch := omega) only [up_at, up_off, upL_at, upL_off, if_pos, if_neg, if_true, true_or, or_true, true_and, and_true, hr1]) (fun l hl => by simp (disch := omega) only [up_at, up_off, upL_at, upL_off, if_pos, if_neg, if_true, true_or, or_true, true_and, and_true, hr1]) hO (fun b' p' hb' hp' hc => ?_)
  have h2 := h1.2 b' p' hb' hp' hc
  exact ⟨by simp (disch := omega) only [up_at, up_off, upL_at, upL_off, if_pos, if_neg, if_true, true_or, or_true, true_and, and_true, hr1]; exact h2.1, by simp (disch := omega) only [up_at, up_off, upL_at, upL_off, if_pos, if_neg, if_true, true_or, or_true, true_and, and_true, hr1]; exact h2.2⟩
theorem bQ_hrs (hO : hOk H) (h : bQ H B) {h0 : Nat} : ∀ m, bQ H (hrs H B h0 m) := by
  intro m
  induction m with
  | zero => exact h
  | succ m ih => exact bQ_hr1 hO ih
theorem bOk_hrs (hO : hOk H) (h : bOk H B) {h0 m : Nat} (hz : B 0 = i32 h0) (hm : h0 + m ≤ 400) : bOk H (hrs H B h0 m) := ⟨⟨h0 + m, hm, hrs_0 hz m⟩, bQ_hrs hO h.2 m⟩
theorem bQ_wr1 (hO : hOk H) (h : bQ H B) {w b q s : Nat} (hw : w < H 1) (hb : b < H 0) : bQ H (wr1 H w b q s B) := by
  rw [wr1]
  split
  · rename_i hc
    exact bQ_pw hO h hw hb hc.1
  · exact h
theorem bQ_lwB (hO : hOk H) (h : bQ H B) {w l b p : Nat} (hw : w < H 1) (hb : b < H 0) : ∀ m, bQ H (lwB H w l b p B m) := by
  intro m
  induction m with
  | zero => exact h
  | succ m ih => exact bQ_wr1 hO ih hw hb
theorem bQ_td1 (hO : hOk H) (h : bQ H B) {b p : Nat} (hb : b < H 0) (hp : p < 12) : bQ H (td1 H b p B) := by
  have o0 := hO.1; have o1 := hO.2.1; have o2 := hO.2.2.1; have o3 := hO.2.2.2.1; have o4 := hO.2.2.2.2.1; have o5 := hO.2.2.2.2.2.1
  rw [td1]
  split
  · exact bQ_tr hO h (by omega)
  · exact h
theorem bQ_lws (hO : hOk H) {q : Int32 × (Nat → Int32)} (h : bQ H q.2) (h0 : 0 < H 0) : ∀ m, m ≤ H 1 → bQ H (lwsS H q m).2 := by
  intro m
  induction m with
  | zero => intro _; exact h
  | succ m ih => intro hm; exact bQ_lwB hO (ih (by omega)) (by omega) (Nat.mod_lt _ h0) _
theorem bQ_lt (hO : hOk H) {q : Int32 × (Nat → Int32)} (h : bQ H q.2) (h0 : 0 < H 0) : bQ H (ltS H q).2 := bQ_td1 hO h (Nat.mod_lt _ h0) (Nat.mod_lt _ (by omega))
theorem bQ_dhS (hO : hOk H) {q : Int32 × (Nat → Int32)} {h0 : Nat} (h : bQ H q.2) : bQ H (dhS H h0 q).2 := by
  rw [dhS]
  split
  · exact bQ_hr1 hO h
  · split
    · exact bQ_hr1 hO (bQ_lt hO h (by omega))
    · exact bQ_hr1 hO (bQ_lt hO (bQ_lws hO h (by omega) _ (Nat.le_refl _)) (by omega))
theorem bQ_dhs (hO : hOk H) {q : Int32 × (Nat → Int32)} {h0 : Nat} (h : bQ H q.2) : ∀ m, bQ H (dhs H h0 q m).2 := by
  intro m
  induction m with
  | zero => exact h
  | succ m ih => exact bQ_dhS hO ih
theorem bOk_dhs (hO : hOk H) {x : Int32} (h : bOk H B) {h0 m : Nat} (hz : B 0 = i32 h0) (hm : h0 + m ≤ 400) : bOk H (dhs H h0 (x, B) m).2 := by
  have e1 : (dhs H h0 (x, B) m).2 0 = i32 (h0 + m) := dhs_0 (q := (x, B)) hz m
  have e2 : bQ H (dhs H h0 (x, B) m).2 := bQ_dhs (q := (x, B)) hO h.2 m
  generalize (dhs H h0 (x, B) m).2 = z at e1 e2
  exact ⟨⟨h0 + m, hm, e1⟩, e2⟩
/-! a law that has lapsed stays so -/
theorem lp_old (hO : hOk H) {l k : Nat} (hl : l < H 2) (hk : k < H 2) (h : lpd B k = true) : lpd (old H B l) k = true := by
  have o0 := hO.1; have o1 := hO.2.1; have o2 := hO.2.2.1; have o3 := hO.2.2.2.1; have o4 := hO.2.2.2.2.1; have o5 := hO.2.2.2.2.2.1
  rw [old]
  split
  · exact h
  · split
    · split
      · rw [lpd_c (B := B) (by simp (disch := omega) only [up_at, up_off, upL_at, upL_off, if_pos, if_neg, if_true, true_or, or_true, true_and, and_true, b1])]; exact h
      · rw [lpd_or (B := B) (l := l) (by omega) (by omega) (by simp (disch := omega) only [up_at, up_off, upL_at, upL_off, if_pos, if_neg, if_true, true_or, or_true, true_and, and_true, b1]), h]; rfl
    · rw [lpd_c (B := B) (by simp (disch := omega) only [up_at, up_off, upL_at, upL_off, if_pos, if_neg, if_true, true_or, or_true, true_and, and_true, b1])]; exact h
theorem lp_olds (hO : hOk H) {k : Nat} (hk : k < H 2) (h : lpd B k = true) : ∀ m, m ≤ H 2 → lpd (olds H B m) k = true := by
  intro m
  induction m with
  | zero => intro _; exact h
  | succ m ih => intro hm; exact lp_old hO (by omega) hk (ih (by omega))
theorem lp_hr1 (hO : hOk H) {k h0 : Nat} (hk : k < H 2) (h : lpd B k = true) : lpd (hr1 H B h0) k = true := by
  have := lp_olds (B := wshs H (tdA H h0) B (H 0)) hO hk (by rw [lpd_c (B := B) (wshs_0 (by omega) _)]; exact h) (H 2) (Nat.le_refl _)
  rw [lpd_c (B := olds H (wshs H (tdA H h0) B (H 0)) (H 2)) (by simp (disch := omega) only [up_at, up_off, upL_at, upL_off, if_pos, if_neg, if_true, true_or, or_true, true_and, and_true, hr1])]; exact this
theorem wr1_3 (hO : hOk H) {w b q s : Nat} (hw : w < H 1) : wr1 H w b q s B 3 = B 3 := by
  have o0 := hO.1; have o1 := hO.2.1; have o2 := hO.2.2.1; have o3 := hO.2.2.2.1; have o4 := hO.2.2.2.2.1; have o5 := hO.2.2.2.2.2.1
  rw [wr1]; split
  · simp (disch := omega) only [up_at, up_off, upL_at, upL_off, if_pos, if_neg, if_true, true_or, or_true, true_and, and_true, pw]
  · rfl
theorem lwB_3 (hO : hOk H) {w l b p : Nat} (hw : w < H 1) : ∀ m, lwB H w l b p B m 3 = B 3 := by
  intro m
  induction m with
  | zero => rfl
  | succ m ih => exact (wr1_3 hO hw).trans ih
theorem td1_3 {b p : Nat} : td1 H b p B 3 = B 3 := by
  rw [td1]; split
  · simp (disch := omega) only [up_at, up_off, upL_at, upL_off, if_pos, if_neg, if_true, true_or, or_true, true_and, and_true, tr]
  · rfl
theorem lws_3 (hO : hOk H) {q : Int32 × (Nat → Int32)} : ∀ m, m ≤ H 1 → (lwsS H q m).2 3 = q.2 3 := by
  intro m
  induction m with
  | zero => intro _; rfl
  | succ m ih => intro hm; exact (lwB_3 hO (by omega) _).trans (ih (by omega))
theorem lp_dhS (hO : hOk H) {q : Int32 × (Nat → Int32)} {k h0 : Nat} (hk : k < H 2) (h : lpd q.2 k = true) : lpd (dhS H h0 q).2 k = true := by
  rw [dhS]
  split
  · exact lp_hr1 hO hk h
  · split
    · refine lp_hr1 hO hk ?_
      have e := lpd_c (l := k) (B := q.2) (C := (ltS H q).2) td1_3
      rw [e]; exact h
    · refine lp_hr1 hO hk ?_
      have e := lpd_c (l := k) (B := q.2) (C := (ltS H (lwsS H q (H 1))).2) (td1_3.trans (lws_3 hO _ (Nat.le_refl _)))
      rw [e]; exact h
theorem lp_dhs (hO : hOk H) {q : Int32 × (Nat → Int32)} {k h0 m : Nat} (hk : k < H 2) (h : lpd (dhs H h0 q m).2 k = true) : ∀ d, lpd (dhs H h0 q (m + d)).2 k = true := by
  intro d
  induction d with
  | zero => exact h
  | succ d ih => exact lp_dhS hO hk ih
end
section
variable {H : Nat → Nat} {D : Option Say} {g g' : Nat → Int32} {o o' : Nat}
theorem nd_of (e : ∀ k, k < 240 → g' (o' + k) = g (o + k)) : ∀ {f k : Nat} {d : Say}, nd H g o f k d → nd H g' o' f k d := by
  intro f
  induction f with
  | zero => intro k d h; exact h
  | succ f ih =>
    intro k d h
    obtain ⟨hk, h⟩ := h
    have e0 : g' (o' + 4 * k) = g (o + 4 * k) := e _ (by omega)
    have e1 : g' (o' + 4 * k + 1) = g (o + 4 * k + 1) := e (4 * k + 1) (by omega)
    have e2 : g' (o' + 4 * k + 2) = g (o + 4 * k + 2) := e (4 * k + 2) (by omega)
    have e3 : g' (o' + 4 * k + 3) = g (o + 4 * k + 3) := e (4 * k + 3) (by omega)
    refine ⟨hk, ?_⟩
    rw [e0, e1, e2, e3]
    rcases h with ⟨x, d1, h1, h2, h3, h4⟩ | ⟨x, y, d1, d2, h1, h2, h3, h4, h5, h6⟩ | ⟨x, y, d1, d2, h1, h2, h3, h4, h5, h6⟩ | h
    · exact Or.inl ⟨x, d1, h1, h2, ih h3, h4⟩
    · exact Or.inr (Or.inl ⟨x, y, d1, d2, h1, h2, h3, ih h4, ih h5, h6⟩)
    · exact Or.inr (Or.inr (Or.inl ⟨x, y, d1, d2, h1, h2, h3, ih h4, ih h5, h6⟩))
    · exact Or.inr (Or.inr (Or.inr h))
theorem SM_of (e : ∀ k, k < 242 → g' (o' + k) = g (o + k)) (h : SM g o H D) : SM g' o' H D := by
  cases D with
  | none =>
    show g' o' = i32 0
    have := e 0 (by omega)
    rw [Nat.add_zero, Nat.add_zero] at this
    rw [this]; exact h
  | some d =>
    obtain ⟨h1, t, h2, h3⟩ := h
    have := e 0 (by omega)
    rw [Nat.add_zero, Nat.add_zero] at this
    exact ⟨this.trans h1, t, (e 1 (by omega)).trans h2, nd_of (fun k hk => by
      have := e (2 + k) (by omega)
      rw [← Nat.add_assoc, ← Nat.add_assoc] at this; exact this) h3⟩
theorem MH_of (hO : hOk H) (e : ∀ k, k < 35 → g' (o' + k) = g (o + k)) (h : MH g o H) : MH g' o' H := by
  have o0 := hO.1; have o1 := hO.2.1; have o2 := hO.2.2.1; have o3 := hO.2.2.2.1; have o4 := hO.2.2.2.2.1; have o5 := hO.2.2.2.2.2.1
  refine ⟨fun k hk => (e k (by omega)).trans (h.1 k hk), fun b hb => ?_, fun b hb => ?_, fun b hb => ?_, fun b hb => ?_, fun b hb => ?_⟩
  · have := e (5 + b) (by omega); rw [← Nat.add_assoc, ← Nat.add_assoc] at this; exact this.trans (h.2.1 b hb)
  · have := e (11 + b) (by omega); rw [← Nat.add_assoc, ← Nat.add_assoc] at this; exact this.trans (h.2.2.1 b hb)
  · have := e (17 + b) (by omega); rw [← Nat.add_assoc, ← Nat.add_assoc] at this; exact this.trans (h.2.2.2.1 b hb)
  · have := e (25 + b) (by omega); rw [← Nat.add_assoc, ← Nat.add_assoc] at this; exact this.trans (h.2.2.2.2.1 b hb)
  · have := e (29 + b) (by omega); rw [← Nat.add_assoc, ← Nat.add_assoc] at this; exact this.trans (h.2.2.2.2.2 b hb)
theorem NM_of {W : Nat → List Nat} {h h' : Nat → Int64} {p p' : Nat} (hO : hOk H) (e : ∀ k, k < 16 → h' (p' + k) = h (p + k)) (hn : NM h p H W) : NM h' p' H W := by
  have o0 := hO.1; have o1 := hO.2.1; have o2 := hO.2.2.1; have o3 := hO.2.2.2.1; have o4 := hO.2.2.2.2.1; have o5 := hO.2.2.2.2.2.1
  exact ⟨fun b hb => (e b (by omega)).trans (hn.1 b hb), fun b hb => (e (6 + b) (by omega)).trans (hn.2.1 b hb), fun b hb => (e (10 + b) (by omega)).trans (hn.2.2 b hb)⟩
end
section
variable {H : Nat → Nat} {W : Nat → List Nat} {B B' : Nat → Int32} {D : Option Say} {G : Nat → Option Abs} {s s' n : Nat} {P P' : Nat → Nat → Int32} {T : Nat → Nat} {f : Int32} {E : Ans} {I J : Nat → Nat → Int32} {L K : Nat → Nat → Int64} {r : Bool}
theorem WC_act (h : WC (H, W, B, D) G s P n T f E I L) (hb : BR 26 B' J) (hP : PR s' P' J) (e : ∀ q, (q < 26 ∨ 108 ≤ q) → q ≠ 132 → J q = I q) : WC (H, W, B', D) G s' P' n T f E J L := by
  obtain ⟨⟨h1, h2, h3, h4, h9⟩, h5, h6, h7, h8⟩ := h
  exact ⟨⟨RS_of (fun q _ h2 => e q (by omega) (by omega)) h1, h2, hb, SS_of (fun q h1 h2 => e q (by omega) (by omega)) h4, LT_of (e _ (by omega) (by omega)) h9⟩, hP, fun k hk => CG_of hk (fun q h1 h2 => e q (by omega) (by omega)) (fun q _ h2 => rfl) (h6 k hk), CT_of (e 1 (by omega) (by omega)) (e 2 (by omega) (by omega)) rfl h7, CE_of (e _ (by omega) (by omega)) (e _ (by omega) (by omega)) (e _ (by omega) (by omega)) (e _ (by omega) (by omega)) (e _ (by omega) (by omega)) h8⟩
theorem WM_act (h : WM (H, W, B, D) G s P n T f E I L) (hR : MR H B' J) (hP : MP s' P' J) (e : ∀ q, 187 ≤ q → q ≠ 188 → q ≠ 191 → q ≠ 192 → J q = I q) (e0 : ∀ k, k ≠ 0 → k ≠ 24 → k ≠ 35 → J 186 k = I 186 k) (e1 : ∀ k, 199 ≤ k → J 188 k = I 188 k) : WM (H, W, B', D) G s' P' n T f E J L := by
  obtain ⟨⟨h1, h2, h3, h4⟩, h5, h6, h7, h8⟩ := h
  refine ⟨⟨hR.1, h2, hR.2, SM_of (fun k hk => e1 _ (by omega)) h4⟩, hP, ?_, ?_, ?_⟩
  · exact fun k hk => MG_of (e _ (by omega) (by omega) (by omega) (by omega)) (e _ (by omega) (by omega) (by omega) (by omega)) rfl (h6 k hk)
  · unfold MT at *; rw [e 187 (by omega) (by omega) (by omega) (by omega), e0 2 (by omega) (by omega) (by omega), e0 10 (by omega) (by omega) (by omega)]; exact h7
  · unfold ME at *; rw [e 198 (by omega) (by omega) (by omega) (by omega), e 200 (by omega) (by omega) (by omega) (by omega), e 202 (by omega) (by omega) (by omega) (by omega), e 204 (by omega) (by omega) (by omega) (by omega), e0 27 (by omega) (by omega) (by omega), e0 32 (by omega) (by omega) (by omega), e0 31 (by omega) (by omega) (by omega), e0 39 (by omega) (by omega) (by omega), e0 34 (by omega) (by omega) (by omega)]; exact h8
theorem bOk_push {H : Nat → Nat} {s : Nat} {P : Nat → Nat → Int32} {B : Nat → Int32} (h : ∀ j, j < s → bOk H (P j)) (hs : s ≤ 8) (hB : bOk H B) : ∀ j, j < pushN s → bOk H (pushP s P B j) := by
  intro j hj
  rw [pushN] at hj
  rw [pushP]
  by_cases h8 : s = 8
  · rw [if_pos h8] at hj ⊢
    split
    · exact hB
    · exact h _ (by omega)
  · rw [if_neg h8] at hj ⊢
    split
    · exact hB
    · exact h _ (by omega)
end
