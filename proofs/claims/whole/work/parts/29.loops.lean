-- to dry all and then to play all is to dry and play one by one
theorem up_id {α : Type} (f : Nat → α) (k : Nat) : up f k (f k) = f := by
  funext j
  by_cases h : j = k
  · rw [h, up_same]
  · rw [up_ne _ _ h]
theorem up_up {α : Type} (f : Nat → α) (k : Nat) (a b : α) : up (up f k a) k b = up f k b := by
  funext j
  by_cases h : j = k
  · rw [h, up_same, up_same]
  · rw [up_ne _ _ h, up_ne _ _ h, up_ne _ _ h]
theorem up_cm {α : Type} (f : Nat → α) {k l : Nat} (a b : α) (h : k ≠ l) : up (up f k a) l b = up (up f l b) k a := by
  funext j
  by_cases h1 : j = k
  · subst h1
    rw [up_same, up_ne _ _ h, up_same]
  · by_cases h2 : j = l
    · subst h2
      rw [up_same, up_ne _ _ h1, up_same]
    · rw [up_ne _ _ h2, up_ne _ _ h1, up_ne _ _ h1, up_ne _ _ h2]
def opn (x : SR) (p : Nat) : Bool := bt (x.1 0) p && !bt (x.1 2) p
theorem has_opn (x : SR) {i : Nat} (hi : i < 12) : pX2_has (pX1_openOnes x) (nI i) = if opn x i = true then 1 else 0 := open_bt x hi
def dD (i : Nat) (x : SR) (p : Nat) : Int32 := if i ≤ p ∧ p < 12 ∧ opn x p = true then mx 0 (x.2 2 p - x.2 0 2) else x.2 2 p
def dA (i : Nat) (x : SR) : SR := (x.1, up x.2 2 (dD i x))
theorem dA_id {i : Nat} {x : SR} (h : dD i x = x.2 2) : dA i x = x := by
  unfold dA
  rw [h, up_id]
theorem dA_12 (x : SR) : dA 12 x = x := dA_id (funext fun p => if_neg (fun z => by omega))
theorem dA_no {i : Nat} {x : SR} (h : ¬ opn x i = true) : dA i x = dA (i + 1) x := by
  unfold dA
  have e : dD i x = dD (i + 1) x := by
    funext p
    unfold dD
    by_cases c : i + 1 ≤ p ∧ p < 12 ∧ opn x p = true
    · rw [if_pos c, if_pos ⟨by omega, c.2⟩]
    · rw [if_neg c, if_neg]
      intro z
      apply c
      refine ⟨?_, z.2⟩
      by_cases e : i = p
      · subst e
        exact absurd z.2.2 h
      · omega
  rw [e]
theorem dA_yes {i : Nat} {x : SR} (hi : i < 12) (h : opn x i = true) : dA i x = dA (i + 1) (dryA x (nI i)) := by
  unfold dA
  have hx : (dryA x (nI i)).2 = up x.2 2 (up (x.2 2) i (mx 0 (x.2 2 i - x.2 0 2))) := by
    unfold dryA pR
    rw [show ix (nI i) = i from ix_nI (by omega), show ix 2 = 2 from rfl]
  have e : dD i x = dD (i + 1) (dryA x (nI i)) := by
    funext p
    unfold dD
    have ho : opn (dryA x (nI i)) p = opn x p := rfl
    rw [ho, hx, up_same, up_ne _ _ (show 0 ≠ 2 by decide)]
    by_cases ep : p = i
    · subst ep
      rw [if_pos ⟨Nat.le_refl _, hi, h⟩, if_neg (fun z => by omega), up_same]
    · rw [up_ne _ _ ep]
      by_cases c : i + 1 ≤ p ∧ p < 12 ∧ opn x p = true
      · rw [if_pos c, if_pos ⟨by omega, c.2⟩]
      · rw [if_neg c, if_neg]
        intro z
        exact c ⟨by omega, z.2⟩
  rw [e, hx, up_up]
  rfl
theorem dry_eq : ∀ (n i : Nat) (x : SR), i ≤ 12 → 12 - i < n → pX1_letPianosDry_L2 n (nI i) x = dA i x := by
  intro n
  induction n with
  | zero => intro i x h1 h2; omega
  | succ n ih =>
    intro i x h1 h2
    rw [pX1_letPianosDry_L2]
    by_cases c : i = 12
    · subst c
      rw [if_pos (show (12 : Int32) ≤ nI 12 by decide), dA_12]
    · have hi : i < 12 := by omega
      rw [if_neg (lt12 hi).2, has_opn x hi, nI_1]
      by_cases ho : opn x i = true
      · rw [if_pos ho, if_neg (by decide), ih (i + 1) _ (by omega) (by omega), dA_yes hi ho]
        rfl
      · rw [if_neg ho, if_pos rfl, ih (i + 1) _ (by omega) (by omega), dA_no ho]
theorem pl_dA (i : Nat) (x : SR) : plA (dA (i + 1) x) (nI i) = dA (i + 1) (plA x (nI i)) := by
  have e : dD (i + 1) (plA x (nI i)) = dD (i + 1) x := by
    funext p
    unfold dD
    have ho : opn (plA x (nI i)) p = opn x p := rfl
    have h2 : (plA x (nI i)).2 2 = x.2 2 := rfl
    have h0 : (plA x (nI i)).2 0 = x.2 0 := rfl
    rw [ho, h2, h0]
  unfold dA
  rw [e]
  refine Prod.ext rfl ?_
  show up (up (up x.2 2 _) 3 _) 1 _ = up (up (up x.2 3 _) 1 _) 2 _
  rw [up_cm (up x.2 3 _) (k := 1) (l := 2) _ _ (by decide), up_cm x.2 (k := 3) (l := 2) _ _ (by decide)]
  rfl
def fz (pl : Bool) : Nat → Nat → SR → SR
  | 0, _, x => x
  | n + 1, i, x => if 12 ≤ i then x else if opn x i = true then if pl = true ∧ ¬ 50 ≤ (dryA x (nI i)).2 2 i then fz pl n (i + 1) (plA (dryA x (nI i)) (nI i)) else fz pl n (i + 1) (dryA x (nI i)) else fz pl n (i + 1) x
theorem fz_dry : ∀ (n i : Nat) (x : SR), i ≤ 12 → 12 - i < n → dA i x = fz false n i x := by
  intro n
  induction n with
  | zero => intro i x h1 h2; omega
  | succ n ih =>
    intro i x h1 h2
    rw [fz]
    by_cases c : 12 ≤ i
    · rw [if_pos c, show i = 12 by omega, dA_12]
    · rw [if_neg c]
      by_cases ho : opn x i = true
      · rw [if_pos ho, if_neg (fun z => absurd z.1 (by decide)), ← ih (i + 1) _ (by omega) (by omega), dA_yes (by omega) ho]
      · rw [if_neg ho, ← ih (i + 1) _ (by omega) (by omega), dA_no ho]
theorem fz_play (v1 : Int32) : ∀ (n i : Nat) (x : SR), i ≤ 12 → 12 - i < n → pX1_letPianosBePlayed_L23 n v1 (nI i) (dA i x) = fz true n i x := by
  intro n
  induction n with
  | zero => intro i x h1 h2; omega
  | succ n ih =>
    intro i x h1 h2
    rw [fz, pX1_letPianosBePlayed_L23]
    by_cases c : i = 12
    · subst c
      rw [if_pos (show (12 : Int32) ≤ nI 12 by decide), if_pos (by omega), dA_12]
    · have hi : i < 12 := by omega
      rw [if_neg (lt12 hi).2, if_neg (show ¬ 12 ≤ i by omega), has_opn _ hi, show opn (dA i x) i = opn x i from rfl, nI_1]
      by_cases ho : opn x i = true
      · rw [if_pos ho, if_pos ho, if_neg (by decide), dA_yes hi ho]
        have hix : ix (nI i) = i := ix_nI (by omega)
        have e2 : (dA (i + 1) (dryA x (nI i))).2 2 i = (dryA x (nI i)).2 2 i := by
          show up (dryA x (nI i)).2 2 (dD (i + 1) (dryA x (nI i))) 2 i = _
          rw [up_same]
          exact if_neg (fun z => by omega)
        rw [hix, e2]
        by_cases c5 : 50 ≤ (dryA x (nI i)).2 2 i
        · rw [if_pos c5, if_neg (fun z => z.2 c5)]
          exact ih (i + 1) _ (by omega) (by omega)
        · rw [if_neg c5, if_pos ⟨rfl, c5⟩]
          have hp := pl_dA i (dryA x (nI i))
          unfold plA at hp
          rw [hix] at hp
          rw [hp]
          have q := ih (i + 1) (plA (dryA x (nI i)) (nI i)) (by omega) (by omega)
          unfold plA at q ⊢
          rw [hix] at q ⊢
          exact q
      · rw [if_neg ho, if_neg ho, if_pos rfl, dA_no ho]
        exact ih (i + 1) _ (by omega) (by omega)
theorem fz_h (pl : Bool) : ∀ (n i : Nat) (x : SR), (fz pl n i x).1 5 = x.1 5 ∧ (fz pl n i x).2 0 = x.2 0 := by
  intro n
  induction n with
  | zero => intro i x; exact ⟨rfl, rfl⟩
  | succ n ih =>
    intro i x
    rw [fz]
    by_cases c : 12 ≤ i
    · rw [if_pos c]
      exact ⟨rfl, rfl⟩
    · rw [if_neg c]
      by_cases ho : opn x i = true
      · rw [if_pos ho]
        by_cases c2 : pl = true ∧ ¬ 50 ≤ (dryA x (nI i)).2 2 i
        · rw [if_pos c2]
          exact ih (i + 1) _
        · rw [if_neg c2]
          exact ih (i + 1) _
      · rw [if_neg ho]
        exact ih (i + 1) _
