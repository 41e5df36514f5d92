-- an hour on both sides
def fE (v1 : Int32) (x : SR) : SR := if 22 ≤ v1 then (pR (pX3_thieves x) 0 7 (((pX3_thieves x).2 0 (ix 7)) + 1))
  else if 5 < v1 then (pR x 0 7 ((x.2 0 (ix 7)) + 1))
  else (pR (pX3_thieves x) 0 7 (((pX3_thieves x).2 0 (ix 7)) + 1))
def fzS (pl : Bool) (x : SR) (i : Nat) : SR := if pl = true ∧ ¬ 50 ≤ (dryA x (nI i)).2 2 i then plA (dryA x (nI i)) (nI i) else dryA x (nI i)
theorem fz_yes (pl : Bool) (n i : Nat) (x : SR) (hi : i < 12) (ho : opn x i = true) : fz pl (n + 1) i x = fz pl n (i + 1) (fzS pl x i) := by
  rw [fz, if_neg (show ¬ 12 ≤ i by omega), if_pos ho]
  unfold fzS
  by_cases c : pl = true ∧ ¬ 50 ≤ (dryA x (nI i)).2 2 i
  · rw [if_pos c, if_pos c]
  · rw [if_neg c, if_neg c]
theorem opn_b0 {x : SR} {i : Nat} (ho : opn x i = true) : bt (x.1 0) i = true := by
  unfold opn at ho
  cases h : bt (x.1 0) i
  · rw [h, Bool.false_and] at ho
    exact absurd ho (by decide)
  · rfl
theorem dries_eq {x y : SR} (h : RS x (y.2 0)) {i : Nat} (hi : i < 12) (hb : bt (x.1 0) i = true) (v1 : Int32) (pl : Bool) (hpl : pl = true ↔ ¬ pX3_within v1 8 21 = 0) : RS (fzS pl x i) ((pX3_dries (nI i) v1 y).2 0) ∧ F2 y (pX3_dries (nI i) v1 y) := by
  obtain ⟨a1, a2⟩ := dries_1 h hi hb
  rw [pX3_dries]
  generalize pX3_setPiano (nI i) 2 (pX3_held ((pX3_pianoPart (nI i) 2 y) - (y.2 0 (ix 2)))) y = Y at a1 a2 ⊢
  unfold fzS
  have hb1 : bt ((dryA x (nI i)).1 0) i = true := hb
  have e2 := ((a1.2.2.1 i hi).2.2.2.2.1 hb1).2.1
  rw [show pX3_pianoPart (nI i) 2 Y = Y.2 0 (12 + 6 * i + 2) from pP 2 hi (by decide) Y, ← e2]
  by_cases cw : pX3_within v1 8 21 = 0
  · rw [if_pos cw, if_neg (fun z => hpl.mp z.1 cw)]
    exact ⟨a1, a2⟩
  · rw [if_neg cw]
    by_cases c5 : 50 ≤ (dryA x (nI i)).2 2 i
    · rw [if_pos c5, if_neg (fun z => z.2 c5)]
      exact ⟨a1, a2⟩
    · rw [if_neg c5, if_pos ⟨hpl.mpr cw, c5⟩]
      obtain ⟨b1, b2⟩ := plays_1 a1 hi hb1 _ rfl
      exact ⟨b1, a2.trans b2⟩
/-- the coins of one piano -/
theorem fzS_coins {x y : SR} (h : RS x (y.2 0)) {i : Nat} (hi : i < 12) (hb : bt (x.1 0) i = true) (pl : Bool) : ∃ d : Nat, d ≤ 50 ∧ (fzS pl x i).1 6 = x.1 6 + nI d := by
  unfold fzS
  by_cases c : pl = true ∧ ¬ 50 ≤ (dryA x (nI i)).2 2 i
  · rw [if_pos c]
    have i1 := ((h.2.2.1 i hi).2.2.2.2.1 hb).2.2.2.2.1
    have ic := coin_in (a := x.2 0 4) (b := x.2 1 i) (by have := h.2.1.2.2.2.2.1; rw [h.st 4 (by decide)] at this; exact this) i1
    obtain ⟨d, hd, ed⟩ := vp_in_of (n := 51) (vp_in_iff.mpr ⟨ic.1, by have := ic.2; omega⟩) (by decide)
    refine ⟨d, by omega, ?_⟩
    rw [← ed]
    have hix : ix (nI i) = i := ix_nI (by omega)
    show x.1 6 + (x.2 0 (ix 4) * x.2 1 (ix (nI i))) / 100 = _
    rw [hix]
    rfl
  · rw [if_neg c]
    exact ⟨0, by omega, (Int32.add_zero _).symm⟩
theorem dry_loop (v1 : Int32) (pl : Bool) (hpl : pl = true ↔ ¬ pX3_within v1 8 21 = 0) : ∀ (n i : Nat) (x y : SR), RS x (y.2 0) → i ≤ 12 → 12 - i < n → ∃ z, pX3_hour_L23 n v1 0 (nI i) y = fE v1 z ∧ RS (fz pl n i x) (z.2 0) ∧ F2 y z ∧ ∃ d : Nat, d ≤ 50 * (12 - i) ∧ (fz pl n i x).1 6 = x.1 6 + nI d := by
  intro n
  induction n with
  | zero => intro i x y h h1 h2; omega
  | succ n ih =>
    intro i x y h h1 h2
    rw [pX3_hour_L23]
    by_cases c : i = 12
    · subst c
      rw [if_pos (show (12 : Int32) ≤ nI 12 by decide), show fz pl (n + 1) 12 x = x from by rw [fz, if_pos (Nat.le_refl 12)]]
      exact ⟨y, rfl, h, F2.refl y, 0, by omega, (Int32.add_zero _).symm⟩
    · have hi : i < 12 := by omega
      rw [if_neg (lt12 hi).2, isOpen3 hi (h.2.2.1 i hi), has_opn x hi, nI_1, if_pos rfl]
      by_cases ho : opn x i = true
      · rw [if_pos ho, if_neg (by decide), fz_yes pl n i x hi ho]
        obtain ⟨a1, a2⟩ := dries_eq h hi (opn_b0 ho) v1 pl hpl
        obtain ⟨z, b1, b2, b3, d, hd, ed⟩ := ih (i + 1) _ _ a1 (by omega) (by omega)
        obtain ⟨d2, hd2, ed2⟩ := fzS_coins h hi (opn_b0 ho) pl
        refine ⟨z, b1, b2, a2.trans b3, d2 + d, by omega, ?_⟩
        rw [ed, ed2, Int32.add_assoc, nI_add]
      · rw [if_neg ho, if_pos rfl, fz, if_neg (show ¬ 12 ≤ i by omega), if_neg ho]
        obtain ⟨z, b1, b2, b3, d, hd, ed⟩ := ih (i + 1) x y h (by omega) (by omega)
        exact ⟨z, b1, b2, b3, d, by omega, ed⟩
theorem rain_loop (v1 v2 : Int32) (hv : ¬ v2 = 0) : ∀ (n i : Nat) (x y : SR), RS x (y.2 0) → i ≤ 12 → 12 - i < n → ∃ z, pX3_hour_L23 n v1 v2 (nI i) y = fE v1 z ∧ RS (pX1_letRainFall_L2 n (nI i) x) (z.2 0) ∧ F2 y z ∧ (pX1_letRainFall_L2 n (nI i) x).1 = x.1 := by
  intro n
  induction n with
  | zero => intro i x y h h1 h2; omega
  | succ n ih =>
    intro i x y h h1 h2
    rw [pX3_hour_L23, pX1_letRainFall_L2]
    by_cases c : i = 12
    · subst c
      rw [if_pos (show (12 : Int32) ≤ nI 12 by decide), if_pos (show (12 : Int32) ≤ nI 12 by decide)]
      exact ⟨y, rfl, h, F2.refl y, rfl⟩
    · have hi : i < 12 := by omega
      rw [if_neg (lt12 hi).2, if_neg (lt12 hi).2, isOpen3 hi (h.2.2.1 i hi), has_opn x hi, nI_1, if_neg hv]
      by_cases ho : opn x i = true
      · rw [if_pos ho, if_neg (by decide), if_neg (by decide)]
        obtain ⟨a1, -, a2⟩ := rains_on h hi (opn_b0 ho)
        obtain ⟨z, b1, b2, b3, b4⟩ := ih (i + 1) _ _ a1 (by omega) (by omega)
        exact ⟨z, b1, b2, a2.trans b3, b4⟩
      · rw [if_neg ho, if_pos rfl, if_pos rfl]
        exact ih (i + 1) x y h (by omega) (by omega)
theorem thief_loop (a b : Int32) : ∀ (n i : Nat) (x y : SR), RS x (y.2 0) → i ≤ 12 → 12 - i < n → RS (pX1_letThievesCome_L46 n a (x.2 0 (ix 6)) b (nI i) x) ((pX3_thieves_L2 n (nI i) y).2 0) ∧ F2 y (pX3_thieves_L2 n (nI i) y) := by
  intro n
  induction n with
  | zero => intro i x y h h1 h2; omega
  | succ n ih =>
    intro i x y h h1 h2
    rw [pX1_letThievesCome_L46, pX3_thieves_L2]
    by_cases c : i = 12
    · subst c
      rw [if_pos (show (12 : Int32) ≤ nI 12 by decide), if_pos (show (12 : Int32) ≤ nI 12 by decide)]
      exact ⟨h, F2.refl y⟩
    · have hi : i < 12 := by omega
      have hP := h.2.2.1 i hi
      rw [if_neg (lt12 hi).2, if_neg (lt12 hi).2, isPiano3 hi hP, cov3 hi hP, keepersAt_eq h.1 h.2.2.2.1, h.1.e7, h.1.e6, has_bt _ hi, nI_1]
      have skip := ih (i + 1) x y h (by omega) (by omega)
      by_cases c0 : bt (x.1 0) i = true
      · rw [if_pos c0, if_neg (show ¬ (1 : Int32) = 0 by decide)]
        by_cases c1 : bt (x.1 1) i = true
        · have c2 : ¬ bt (x.1 2) i = true := fun z => absurd (c1.symm.trans (hP.2.2.2.1 z).2) (by decide)
          rw [if_pos c1, if_neg c2, if_pos rfl, if_neg (show ¬ (1 : Int32) = 0 by decide)]
          by_cases ck : pX1_keepersAt (nI i) x = 0
          · rw [if_pos ck, if_pos ck]
            by_cases cm : (((7 * (x.1 5)) + (3 * nI i)) - ((7 * (x.1 5)) + (3 * nI i)) / (x.2 0 (ix 6)) * (x.2 0 (ix 6))) = 0
            · rw [if_pos cm, if_pos cm]
              have s1 : bt ((x.1 1) &&& (((1 : Int32) <<< (nI i &&& 31)) ^^^ (-1))) i = false := bclr_eq _ (by omega)
              have h2 := h.cov (x' := pS x 1 ((x.1 1) &&& ((1 <<< (nI i &&& 31)) ^^^ (-1)))) hi c0 rfl rfl (fun j hj => up_ne _ _ (by omega)) (fun q hq => bclr_ne (x.1 1) (by omega) hq) (fun q hq => rfl) 0 (((if_neg c2).trans (if_neg (fun z => absurd (s1.symm.trans z) (by decide)))).symm) (fun _ => s1)
              have h3 := h2.num (f := 7) (c := 10) (by omega) (x.1 7 + 1)
              have em : pR (pX3_setPiano (nI i) 3 0 y) 0 10 (((pX3_setPiano (nI i) 3 0 y).2 0 (ix 10)) + 1) = mW (mW y (12 + 6 * i + 3) 0) 10 (x.1 7 + 1) := by
                rw [show pX3_setPiano (nI i) 3 0 y = mW y (12 + 6 * i + 3) 0 from sW 3 hi (by decide) 0 y, mW_0, show ix 10 = 10 from rfl, up_ne _ _ (by omega), ← (show x.1 7 = y.2 0 10 from h.1.2.2.2.2.1)]
                rfl
              rw [em]
              have r := ih (i + 1) _ (mW (mW y (12 + 6 * i + 3) 0) 10 (x.1 7 + 1)) (by rw [mW_0, mW_0]; exact h3) (by omega) (by omega)
              exact ⟨r.1, ((F2_mW _ _ _).trans (F2_mW _ _ _)).trans r.2⟩
            · rw [if_neg cm, if_neg cm]
              exact skip
          · rw [if_neg ck, if_neg ck, ite_self]
            exact skip
        · rw [if_neg c1, if_pos (show (0 : Int32) = 0 from rfl), ite_self]
          by_cases c2 : bt (x.1 2) i = true
          · rw [if_pos c2, if_neg (show ¬ (2 : Int32) = 1 by decide)]
            exact skip
          · rw [if_neg c2, if_neg (show ¬ (0 : Int32) = 1 by decide)]
            exact skip
      · have c1 : ¬ bt (x.1 1) i = true := fun z => c0 (hP.2.2.1 z)
        rw [if_neg c0, if_neg c1, if_pos (show (0 : Int32) = 0 from rfl), if_pos (show (0 : Int32) = 0 from rfl), ite_self]
        exact skip
