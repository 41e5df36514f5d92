-- the nearest place: both sides answer what one sentence says
def nd (i a : Nat) : Nat := if i ≤ a then a - i else i - a
def NS (w : Nat → Bool) (a n : Nat) (r : Int32) : Prop := (r = -6 ∧ ∀ i, i < n → w i = false) ∨ ∃ j, j < n ∧ r = nI j ∧ w j = true ∧ ∀ i, i < n → w i = true → nd j a < nd i a ∨ (nd j a = nd i a ∧ j ≤ i)
theorem NS.uniq {w : Nat → Bool} {a n : Nat} {r r' : Int32} (h : NS w a n r) (h' : NS w a n r') : r = r' := by
  rcases h with ⟨e, z⟩ | ⟨j, hj, e, wj, z⟩ <;> rcases h' with ⟨e', z'⟩ | ⟨j', hj', e', wj', z'⟩
  · rw [e, e']
  · rw [z j' hj'] at wj'
    exact absurd wj' (by decide)
  · rw [z' j hj] at wj
    exact absurd wj (by decide)
  · have p := z j' hj' wj'
    have q := z' j hj wj
    have : j = j' := by omega
    rw [e, e', this]
theorem size_nd : ∀ j, j < 12 → ∀ a, a < 12 → pX3_size (nI j - nI a) = nI (nd j a) := by decide +kernel
theorem sub_nd : ∀ a, a < 12 → ∀ v, v < 12 → v ≤ a → nI a - nI v = nI (a - v) := by decide +kernel
theorem sub_neg : ∀ a, a < 12 → ∀ v, v < 12 → a < v → Int32.toInt (nI a - nI v) < 0 := by decide +kernel
theorem near_M {y : SR} {k what : Int32} {w : Nat → Bool} {a : Nat} (ha : a < 12) (hk : pX3_keeperPart k 0 y = nI a) (hw : ∀ i, i < 12 → (pX3_isWanted (nI i) what y = 0 ↔ w i = false)) : ∀ (n i : Nat) (v3 : Int32), i ≤ 12 → 12 - i < n → NS w a i v3 → NS w a 12 (pX3_nearest_L6 k what n v3 (nI i) y) := by
  intro n
  induction n with
  | zero => intro i v3 h1 h2 h3; omega
  | succ n ih =>
    intro i v3 h1 h2 h3
    rw [pX3_nearest_L6]
    by_cases c : i = 12
    · subst c
      rw [if_pos (show (12 : Int32) ≤ nI 12 by decide)]
      exact h3
    · have hi : i < 12 := by omega
      rw [if_neg (lt12 hi).2, nI_1]
      by_cases cw : pX3_isWanted (nI i) what y = 0
      · rw [if_pos cw]
        refine ih (i + 1) v3 (by omega) (by omega) ?_
        have wf := (hw i hi).mp cw
        rcases h3 with ⟨e, z⟩ | ⟨j, hj, e, wj, z⟩
        · refine Or.inl ⟨e, fun q hq => ?_⟩
          by_cases hqi : q = i
          · rw [hqi]; exact wf
          · exact z q (by omega)
        · refine Or.inr ⟨j, by omega, e, wj, fun q hq wq => ?_⟩
          by_cases hqi : q = i
          · rw [hqi, wf] at wq
            exact absurd wq (by decide)
          · exact z q (by omega) wq
      · rw [if_neg cw]
        have wt : w i = true := by
          cases hwi : w i
          · exact absurd ((hw i hi).mpr hwi) cw
          · rfl
        rcases h3 with ⟨e, z⟩ | ⟨j, hj, e, wj, z⟩
        · rw [if_pos e]
          refine ih (i + 1) _ (by omega) (by omega) (Or.inr ⟨i, by omega, rfl, wt, fun q hq wq => ?_⟩)
          by_cases hqi : q = i
          · exact Or.inr ⟨by rw [hqi], by omega⟩
          · rw [z q (by omega)] at wq
            exact absurd wq (by decide)
        · have hne : ¬ v3 = -6 := by
            rw [e]
            intro q
            have q2 := congrArg Int32.toInt q
            rw [nI_toInt (by omega), show Int32.toInt (-6) = -6 from rfl] at q2
            omega
          rw [if_neg hne, hk, e, size_nd j (by omega) a ha, size_nd i hi a ha]
          have hnd : ∀ q, q < 12 → nd q a < 12 := fun q hq => by
            unfold nd
            split <;> omega
          by_cases cs : nI (nd j a) ≤ nI (nd i a)
          · rw [if_pos cs]
            rw [nI_leI (by have := hnd j (by omega); omega) (by have := hnd i hi; omega)] at cs
            refine ih (i + 1) _ (by omega) (by omega) (Or.inr ⟨j, by omega, rfl, wj, fun q hq wq => ?_⟩)
            by_cases hqi : q = i
            · rw [hqi]
              omega
            · exact z q (by omega) wq
          · rw [if_neg cs]
            rw [nI_leI (by have := hnd j (by omega); omega) (by have := hnd i hi; omega)] at cs
            refine ih (i + 1) _ (by omega) (by omega) (Or.inr ⟨i, by omega, rfl, wt, fun q hq wq => ?_⟩)
            by_cases hqi : q = i
            · exact Or.inr ⟨by rw [hqi], by omega⟩
            · have := z q (by omega) wq
              omega
theorem near_C {M : Int32} {a : Nat} (ha : a < 12) : ∀ (n v : Nat), v ≤ 12 → 12 - v < n → (∀ i, i < 12 → bt M i = true → v ≤ nd i a) → NS (bt M) a 12 (pX1_nearest_L9 M (nI a) n (nI v)) := by
  intro n
  induction n with
  | zero => intro v h1 h2 h3; omega
  | succ n ih =>
    intro v h1 h2 h3
    rw [pX1_nearest_L9]
    by_cases c : v = 12
    · subst c
      rw [if_pos (show (12 : Int32) ≤ nI 12 by decide)]
      refine Or.inl ⟨rfl, fun i hi => ?_⟩
      cases hb : bt M i
      · rfl
      · have := h3 i hi hb
        unfold nd at this
        split at this <;> omega
    · have hv : v < 12 := by omega
      rw [if_neg (lt12 hv).2, nI_1]
      have win : ∀ j, j < 12 → nd j a = v → bt M j = true → (∀ i, i < 12 → bt M i = true → nd i a = v → j ≤ i) → NS (bt M) a 12 (nI j) := fun j hj e wj tie => by
        refine Or.inr ⟨j, hj, rfl, wj, fun i hi wi => ?_⟩
        have q := h3 i hi wi
        by_cases e2 : nd i a = v
        · exact Or.inr ⟨by omega, tie i hi wi e2⟩
        · left
          omega
      by_cases c1 : pX2_has M (nI a - nI v) = 0
      · rw [if_pos c1]
        have f1 : ∀ i, i < 12 → bt M i = true → nd i a = v → i ≤ a → False := fun i hi wi e hle => by
          unfold nd at e
          rw [if_pos hle] at e
          rw [sub_nd a ha v hv (by omega), has0 M (show a - v < 12 by omega), show a - v = i by omega, wi] at c1
          exact absurd c1 (by decide)
        by_cases c2 : pX2_has M (nI a + nI v) = 0
        · rw [if_pos c2]
          refine ih (v + 1) (by omega) (by omega) (fun i hi wi => ?_)
          have q := h3 i hi wi
          by_cases e : nd i a = v
          · exfalso
            by_cases hle : i ≤ a
            · exact f1 i hi wi e hle
            · unfold nd at e
              rw [if_neg hle] at e
              rw [nI_add, has0 M (show a + v < 12 by omega), show a + v = i by omega, wi] at c2
              exact absurd c2 (by decide)
          · omega
        · rw [if_neg c2, nI_add]
          have hlt : a + v < 12 := by
            by_cases hl : a + v < 12
            · exact hl
            · exfalso
              apply c2
              rw [nI_add]
              apply has_no
              intro hin
              have := (vp_in_iff.mp hin).2
              rw [nI_toInt (by omega)] at this
              omega
          rw [nI_add, has0 M hlt] at c2
          have wt : bt M (a + v) = true := by
            cases hb : bt M (a + v)
            · exact absurd hb c2
            · rfl
          refine win (a + v) hlt ?_ wt (fun i hi wi e => ?_)
          · unfold nd
            split <;> omega
          · by_cases hle : i ≤ a
            · exact (f1 i hi wi e hle).elim
            · unfold nd at e
              rw [if_neg hle] at e
              omega
      · rw [if_neg c1]
        have hle : v ≤ a := by
          by_cases hl : v ≤ a
          · exact hl
          · exfalso
            apply c1
            apply has_no
            intro hin
            have p1 := (vp_in_iff.mp hin).1
            have p2 := sub_neg a ha v hv (by omega)
            omega
        rw [sub_nd a ha v hv hle] at c1 ⊢
        rw [has0 M (show a - v < 12 by omega)] at c1
        have wt : bt M (a - v) = true := by
          cases hb : bt M (a - v)
          · exact absurd hb c1
          · rfl
        refine win (a - v) (by omega) ?_ wt (fun i hi wi e => ?_)
        · unfold nd
          rw [if_pos (by omega)]
          omega
        · unfold nd at e
          split at e <;> omega
theorem near_eq {y : SR} {k what M : Int32} {a : Nat} (ha : a < 12) (hk : pX3_keeperPart k 0 y = nI a) (hw : ∀ i, i < 12 → (pX3_isWanted (nI i) what y = 0 ↔ bt M i = false)) (hb : ∀ i, 12 ≤ i → bt M i = false) : pX3_nearest k what y = pX1_nearest M (nI a) := by
  have h1 := near_M ha hk hw 13 0 (-6) (by decide) (by decide) (Or.inl ⟨rfl, fun i hi => absurd hi (by omega)⟩)
  rw [nI_0] at h1
  rw [pX3_nearest]
  refine h1.uniq ?_
  rw [pX1_nearest]
  by_cases z : M = 0
  · rw [if_pos z]
    exact Or.inl ⟨rfl, fun i hi => by rw [z, b_0]⟩
  · rw [if_neg z]
    have h2 := near_C (M := M) ha 13 0 (by decide) (by decide) (fun i _ _ => Nat.zero_le _)
    rw [nI_0] at h2
    exact h2
