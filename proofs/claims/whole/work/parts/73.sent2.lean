section
variable {T : Nat → Nat} {n m : Nat} {t t' : Tok} {o : Oc} {H : Nat → Nat} {W : Nat → List Nat}
def oOk (n : Nat) (o : Oc) : Prop := ∀ t, o = .inr t → tOk n t
theorem nt_k (h9 : n ≤ 940) (hT : ∀ k, k < n → T k < 256) (ht : tOk n t) : tOk n (nt n T m t) := nx_ok h9 ht.2.2.1 hT
theorem oM_k {c : Nat} (h9 : n ≤ 940) (hT : ∀ k, k < n → T k < 256) (h : oOk n o) : oOk n (oM n T m c o) := by
  intro t' ht
  cases o with
  | inl e => cases ht
  | inr t =>
    unfold oM at ht; dsimp only at ht
    split at ht
    · cases ht; exact nt_k h9 hT (h t rfl)
    · cases ht
theorem oN_k {a b : Nat} (h9 : n ≤ 940) (hT : ∀ k, k < n → T k < 256) (h : oOk n o) : oOk n (oN n T m a b o) := by
  intro t' ht
  cases o with
  | inl e => cases ht
  | inr t =>
    unfold oN at ht; dsimp only at ht
    split at ht
    · split at ht
      · cases ht; exact nt_k h9 hT (h t rfl)
      · cases ht
    · cases ht
theorem nfO_k {s : Nat} {Wf : Nat → List Nat} (h9 : n ≤ 940) (hT : ∀ k, k < n → T k < 256) (h : oOk n o) : oOk n (nfO n T m s Wf o) := by
  intro t' ht
  cases o with
  | inl e => cases ht
  | inr t =>
    unfold nfO at ht; dsimp only at ht
    split at ht
    · split at ht
      · cases ht
      · cases ht; exact nt_k h9 hT (h t rfl)
    · cases ht
theorem rlO_k (h9 : n ≤ 940) (hT : ∀ k, k < n → T k < 256) (h : tOk n t) : oOk n (rlO n T m t) := by
  intro t' ht
  unfold rlO at ht
  split at ht
  · cases ht; exact nt_k h9 hT h
  · cases ht
theorem plO_k {q : Nat} (h9 : n ≤ 940) (hT : ∀ k, k < n → T k < 256) (h : tOk n t) : oOk n (plO n T m H W q t) := by
  have h0 : oOk n (.inr t) := fun t' z => by cases z; exact h
  unfold plO
  split
  · exact nfO_k h9 hT h0
  · split
    · exact nfO_k h9 hT h0
    · split
      · exact h0
      · exact oN_k h9 hT (rlO_k h9 hT h)
theorem oX_e {e : Nat × Nat} : (nfO n T m 0 W o = .inl e → True) := fun _ => trivial
theorem oM_e {c : Nat} {e : Nat × Nat} (h : oM n T m c (.inr t) = .inl e) : 1 ≤ e.1 ∧ e.1 ≤ 4 := by
  unfold oM at h; dsimp only at h
  split at h
  · cases h
  · cases h; exact ⟨by dsimp only; omega, by dsimp only; omega⟩
theorem oN_e {a b : Nat} {e : Nat × Nat} (ho : ∀ e, o = .inl e → 1 ≤ e.1 ∧ e.1 ≤ 4) (h : oN n T m a b o = .inl e) : 1 ≤ e.1 ∧ e.1 ≤ 4 := by
  cases o with
  | inl e' => cases h; exact ho e rfl
  | inr t =>
    unfold oN at h; dsimp only at h
    split at h
    · split at h
      · cases h
      · cases h; exact ⟨by dsimp only; omega, by dsimp only; omega⟩
    · cases h; exact ⟨by dsimp only; omega, by dsimp only; omega⟩
theorem nfO_e {s : Nat} {Wf : Nat → List Nat} {e : Nat × Nat} (h : nfO n T m s Wf (.inr t) = .inl e) : 1 ≤ e.1 ∧ e.1 ≤ 4 := by
  unfold nfO at h; dsimp only at h
  split at h
  · split at h
    · cases h; exact ⟨by dsimp only; omega, by dsimp only; omega⟩
    · cases h
  · cases h; exact ⟨by dsimp only; omega, by dsimp only; omega⟩
theorem rlO_e {e : Nat × Nat} (h : rlO n T m t = .inl e) : 1 ≤ e.1 ∧ e.1 ≤ 4 := by
  unfold rlO at h
  split at h
  · cases h
  · cases h; exact ⟨by dsimp only; omega, by dsimp only; omega⟩
theorem plO_e {q : Nat} {e : Nat × Nat} (h : plO n T m H W q t = .inl e) : 1 ≤ e.1 ∧ e.1 ≤ 4 := by
  unfold plO at h
  split at h
  · exact nfO_e h
  · split at h
    · exact nfO_e h
    · split at h
      · cases h
      · exact oN_e (fun e he => rlO_e he) h
theorem pl_at {q : Nat} (hO : hOk H) (hq : 11 ≤ q ∧ q ≤ 19) (h : plO n T m H W q t = .inr t') : atOk H q (plX n T m H W q t) (plY n T m q t) := by
  have o0 := hO.1; have o1 := hO.2.1; have o2 := hO.2.2.1; have o3 := hO.2.2.2.1; have o4 := hO.2.2.2.2.1; have o5 := hO.2.2.2.2.2.1
  unfold plO at h
  unfold plX plY
  by_cases c1 : q = 14
  · rw [if_pos c1] at h ⊢
    rw [if_pos (by omega)]
    have := nfO_R (n := n) (T := T) (m := m) (s := H 2) (Wf := fun i => W (10 + i)) (o := .inr t) (by rw [h]; rfl)
    exact ⟨hq.1, hq.2, fun _ => this, fun z => by omega, fun z => by omega, by omega, by omega⟩
  · rw [if_neg c1] at h ⊢
    by_cases c2 : q = 15
    · rw [if_pos c2] at h ⊢
      rw [if_pos (by omega)]
      have := nfO_R (n := n) (T := T) (m := m) (s := H 1) (Wf := fun i => W (6 + i)) (o := .inr t) (by rw [h]; rfl)
      exact ⟨hq.1, hq.2, fun z => by omega, fun _ => this, fun z => by omega, by omega, by omega⟩
    · rw [if_neg c2] at h ⊢
      by_cases c3 : q < 16
      · rw [if_pos c3, if_pos c3]
        exact ⟨hq.1, hq.2, fun z => by omega, fun z => by omega, fun z => by omega, by omega, by omega⟩
      · rw [if_neg c3] at h ⊢
        rw [if_neg c3]
        have h1 := oN_R (n := n) (T := T) (m := m) (a := 0) (b := 999) (o := rlO n T m t) (by rw [h]; rfl)
        have h2 : 60 ≤ t.2.2.2.2 ∧ t.2.2.2.2 ≤ 62 := by
          have := h1.1
          unfold rlO at this
          split at this
          · rename_i hc; exact hc.2
          · cases this
        exact ⟨hq.1, hq.2, fun z => by omega, fun z => by omega, fun _ => h2, h1.2.2, by omega⟩
theorem pOn_ok (hO : hOk H) (h9 : n ≤ 940) (hT : ∀ k, k < n → T k < 256) : ∀ g k t, tOk n t → psG n H k (pOn n T m H W g k t) := by
  intro g
  induction g with
  | zero =>
    intro k t ht
    rw [pOn]
    split <;> exact ⟨by dsimp only; omega, by dsimp only; omega⟩
  | succ g ih =>
    intro k t ht
    have ht' : tOk n (nt n T m t) := nt_k h9 hT ht
    rw [pOn]
    cases hq : stW t with
    | none => exact ⟨by dsimp only; omega, by dsimp only; omega⟩
    | some q =>
      dsimp only
      have hq' := stW_q hq
      by_cases ck : 20 ≤ k
      · rw [if_pos ck]; exact ⟨by dsimp only; omega, by dsimp only; omega⟩
      · rw [if_neg ck]
        by_cases c10 : q = 10
        · rw [if_pos c10]
          have := ih (k + 1) _ ht'
          cases hx : pOn n T m H W g (k + 1) (nt n T m t) with
          | inl e => rw [hx] at this; exact this
          | inr x =>
            rw [hx] at this
            obtain ⟨a1, a2, a3, a4, a5, a6⟩ := this
            refine ⟨by dsimp only; omega, a2, a3, ?_, fun t ht => ?_, fun B b s => ?_⟩
            · dsimp only; rw [List.length_append]
              show x.2.2.1.length + 1 + 1 ≤ _
              omega
            · rcases List.mem_append.mp ht with ht | ht
              · exact a5 t ht
              · have : t = (10, 0, 0) := by simpa using ht
                rw [this]; exact Or.inr (Or.inr (Or.inl rfl))
            · dsimp only; rw [exL_app, a6]; rfl
        · rw [if_neg c10]
          by_cases c20 : q = 20
          · rw [if_pos c20]
            have := pCo_ok (m := m) (k := k + 1) h9 hT ih ht'
            cases hx : pCo n T m (pOn n T m H W g) (k + 1) (nt n T m t) with
            | inl e => rw [hx] at this; exact this
            | inr x =>
              rw [hx] at this
              obtain ⟨a1, a2, a3, a4, a5, a6⟩ := this
              dsimp only
              cases ho : oM n T m 41 (.inr x.2.1) with
              | inl e => exact oM_e ho
              | inr t2 => exact ⟨by dsimp only; omega, a2, oM_k h9 hT (fun t z => by cases z; exact a3) t2 ho, by dsimp only; omega, a5, a6⟩
          · rw [if_neg c20]
            have hq2 : 11 ≤ q ∧ q ≤ 19 := by
              rcases hq' with ⟨h1, _⟩ | ⟨_, _, h1, h2⟩ <;> omega
            cases ho : plO n T m H W q (nt n T m t) with
            | inl e => exact plO_e ho
            | inr t2 =>
              have at1 := pl_at hO hq2 ho
              refine ⟨by dsimp only; omega, by dsimp only; omega, plO_k h9 hT ht' t2 ho, ?_, fun u hu => ?_, fun B b s => ?_⟩
              · show 1 + 1 ≤ 2 * (k + 1 - k)
                omega
              · have : u = (q, plX n T m H W q (nt n T m t), plY n T m q (nt n T m t)) := by simpa using hu
                rw [this]; exact Or.inr (Or.inr (Or.inr at1))
              · show exS H B b (q, _, _) s = _
                unfold exS
                dsimp only
                rw [if_neg (by omega), if_neg (by omega), if_neg (by omega)]
end
