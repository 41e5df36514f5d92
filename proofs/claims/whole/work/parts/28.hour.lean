-- rain on one piano
def rnA (x : SR) (v : Int32) : SR := pR (pR (pR x 2 v (mn 100 ((x.2 2 (ix v)) + (x.2 0 (ix 1))))) 1 v (mx 0 ((x.2 1 (ix v)) - (x.2 0 (ix 3))))) 4 v ((x.2 4 (ix v)) + 1)
def dryA (x : SR) (v : Int32) : SR := pR x 2 v (mx 0 ((x.2 2 (ix v)) - (x.2 0 (ix 2))))
def plA (x : SR) (v : Int32) : SR := pR (pS (pR x 3 v ((x.2 3 (ix v)) + (((x.2 0 (ix 4)) * (x.2 1 (ix v))) / 100))) 6 ((x.1 6) + (((x.2 0 (ix 4)) * (x.2 1 (ix v))) / 100))) 1 v (mx 0 ((x.2 1 (ix v)) - 1))
theorem inI_le {v : Int32} {a b c d : Int} (h : inI v a b) (h1 : c ≤ a) (h2 : b ≤ d) : inI v c d := ⟨by have := h.1; omega, by have := h.2; omega⟩
theorem RS.st {x : SR} {m : Nat → Int32} (h : RS x m) (j : Nat) (hj : j < 7) : m j = x.2 0 j := (h.1.1 j hj).symm
theorem rains_on {x y : SR} (h : RS x (y.2 0)) {i : Nat} (hi : i < 12) (hb : bt (x.1 0) i = true) : RS (rnA x (nI i)) ((pX3_rainsOn (nI i) y).2 0) ∧ (pX3_rainsOn (nI i) y).1 = y.1 ∧ F2 y (pX3_rainsOn (nI i) y) := by
  obtain ⟨e1, e2, e4, e5, i1, i2⟩ := (h.2.2.1 i hi).2.2.2.2.1 hb
  have s1 : ∀ v Y, pX3_setPiano (nI i) 1 v Y = mW Y (12 + 6 * i + 1) v := fun v Y => sW 1 hi (by decide) v Y
  have s2 : ∀ v Y, pX3_setPiano (nI i) 2 v Y = mW Y (12 + 6 * i + 2) v := fun v Y => sW 2 hi (by decide) v Y
  have s5 : ∀ v Y, pX3_setPiano (nI i) 5 v Y = mW Y (12 + 6 * i + 5) v := fun v Y => sW 5 hi (by decide) v Y
  have p1 : ∀ Y, pX3_pianoPart (nI i) 1 Y = Y.2 0 (12 + 6 * i + 1) := fun Y => pP 1 hi (by decide) Y
  have p2 : ∀ Y, pX3_pianoPart (nI i) 2 Y = Y.2 0 (12 + 6 * i + 2) := fun Y => pP 2 hi (by decide) Y
  have p5 : ∀ Y, pX3_pianoPart (nI i) 5 Y = Y.2 0 (12 + 6 * i + 5) := fun Y => pP 5 hi (by decide) Y
  rw [pX3_rainsOn]
  simp only [s1, s2, s5, p1, p2, p5, mW_0]
  rw [show ix 1 = 1 from rfl, show ix 3 = 3 from rfl]
  have f1 : (up (y.2 0) (12 + 6 * i + 2) (pX3_held (y.2 0 (12 + 6 * i + 2) + y.2 0 1))) (12 + 6 * i + 1) = x.2 1 i := by
    rw [up_ne _ _ (by omega), e1]
  have f3 : (up (y.2 0) (12 + 6 * i + 2) (pX3_held (y.2 0 (12 + 6 * i + 2) + y.2 0 1))) 3 = x.2 0 3 := by
    rw [up_ne _ _ (by omega), h.st 3 (by decide)]
  rw [f1, f3, up_ne _ _ (show 12 + 6 * i + 5 ≠ 12 + 6 * i + 1 by omega), up_ne _ _ (show 12 + 6 * i + 5 ≠ 12 + 6 * i + 2 by omega), ← e2, ← e5, h.st 1 (by decide)]
  obtain ⟨g1, g2⟩ := held_add (v := x.2 2 i) (w := x.2 0 1) i2 (by have := h.2.1.2.1; rw [h.st 1 (by decide)] at this; exact inI_le this (by decide) (by decide))
  obtain ⟨g3, g4⟩ := held_sub (v := x.2 1 i) (w := x.2 0 3) i1 (by have := h.2.1.2.2.2.1; rw [h.st 3 (by decide)] at this; exact inI_le this (by decide) (by decide))
  rw [g1, g3]
  refine ⟨?_, rfl, ((F2_mW _ _ _).trans (F2_mW _ _ _)).trans (F2_mW _ _ _)⟩
  unfold rnA
  rw [show ix (nI i) = i from ix_nI (by omega), show ix 1 = 1 from rfl, show ix 3 = 3 from rfl]
  exact ((h.row (r := 2) (c := 2) hi hb (by omega) _ (fun _ => g2)).row (r := 1) (c := 1) hi hb (by omega) _ (fun _ => g4)).row (r := 4) (c := 5) hi hb (by omega) _ (fun q => absurd q (by decide))
/-- the model dries one piano -/
theorem dries_1 {x y : SR} (h : RS x (y.2 0)) {i : Nat} (hi : i < 12) (hb : bt (x.1 0) i = true) : RS (dryA x (nI i)) ((pX3_setPiano (nI i) 2 (pX3_held ((pX3_pianoPart (nI i) 2 y) - (y.2 0 (ix 2)))) y).2 0) ∧ F2 y (pX3_setPiano (nI i) 2 (pX3_held ((pX3_pianoPart (nI i) 2 y) - (y.2 0 (ix 2)))) y) := by
  obtain ⟨e1, e2, e4, e5, i1, i2⟩ := (h.2.2.1 i hi).2.2.2.2.1 hb
  rw [show ∀ v, pX3_setPiano (nI i) 2 v y = mW y (12 + 6 * i + 2) v from fun v => sW 2 hi (by decide) v y, show pX3_pianoPart (nI i) 2 y = y.2 0 (12 + 6 * i + 2) from pP 2 hi (by decide) y, mW_0, ← e2, show ix 2 = 2 from rfl, h.st 2 (by decide)]
  obtain ⟨g3, g4⟩ := held_sub (v := x.2 2 i) (w := x.2 0 2) i2 (by have := h.2.1.2.2.1; rw [h.st 2 (by decide)] at this; exact inI_le this (by decide) (by decide))
  rw [g3]
  refine ⟨?_, F2_mW _ _ _⟩
  unfold dryA
  rw [show ix (nI i) = i from ix_nI (by omega), show ix 2 = 2 from rfl]
  exact h.row (r := 2) (c := 2) hi hb (by omega) _ (fun _ => g4)
theorem coin_in {a b : Int32} (ha : inI a 0 50) (hb : inI b 0 100) : inI ((a * b) / 100) 0 50 := by
  obtain ⟨a1, a2⟩ := ha
  obtain ⟨b1, b2⟩ := hb
  have m1 : 0 ≤ Int32.toInt a * Int32.toInt b := Int.mul_nonneg a1 b1
  have m2 : Int32.toInt a * Int32.toInt b ≤ 50 * 100 := Int.mul_le_mul a2 b2 b1 (by decide)
  have e : Int32.toInt (a * b) = Int32.toInt a * Int32.toInt b := by
    rw [Int32.toInt_mul, Int.bmod_eq_of_le] <;> omega
  unfold inI
  rw [Int32.toInt_div_of_ne_right _ _ (by decide), e, show Int32.toInt 100 = 100 from rfl, Int.tdiv_eq_ediv_of_nonneg m1]
  omega
/-- the model plays one piano -/
theorem plays_1 {x y : SR} (h : RS x (y.2 0)) {i : Nat} (hi : i < 12) (hb : bt (x.1 0) i = true) (Z : SR) (hZ : Z = pX3_setPiano (nI i) 4 ((pX3_pianoPart (nI i) 4 y) + (((y.2 0 (ix 4)) * (pX3_pianoPart (nI i) 1 y)) / 100)) y) : RS (plA x (nI i)) ((pR (pX3_setPiano (nI i) 1 (pX3_held ((pX3_pianoPart (nI i) 1 Z) - 1)) Z) 0 9 (((pX3_setPiano (nI i) 1 (pX3_held ((pX3_pianoPart (nI i) 1 Z) - 1)) Z).2 0 (ix 9)) + (((y.2 0 (ix 4)) * (pX3_pianoPart (nI i) 1 y)) / 100))).2 0) ∧ F2 y (pR (pX3_setPiano (nI i) 1 (pX3_held ((pX3_pianoPart (nI i) 1 Z) - 1)) Z) 0 9 (((pX3_setPiano (nI i) 1 (pX3_held ((pX3_pianoPart (nI i) 1 Z) - 1)) Z).2 0 (ix 9)) + (((y.2 0 (ix 4)) * (pX3_pianoPart (nI i) 1 y)) / 100))) := by
  obtain ⟨e1, e2, e4, e5, i1, i2⟩ := (h.2.2.1 i hi).2.2.2.2.1 hb
  have s1 : ∀ v Y, pX3_setPiano (nI i) 1 v Y = mW Y (12 + 6 * i + 1) v := fun v Y => sW 1 hi (by decide) v Y
  have p1 : ∀ Y, pX3_pianoPart (nI i) 1 Y = Y.2 0 (12 + 6 * i + 1) := fun Y => pP 1 hi (by decide) Y
  have hZ2 : Z = mW y (12 + 6 * i + 4) (y.2 0 (12 + 6 * i + 4) + (((y.2 0 4) * (y.2 0 (12 + 6 * i + 1))) / 100)) := by
    rw [hZ, show ∀ v, pX3_setPiano (nI i) 4 v y = mW y (12 + 6 * i + 4) v from fun v => sW 4 hi (by decide) v y, show pX3_pianoPart (nI i) 4 y = y.2 0 (12 + 6 * i + 4) from pP 4 hi (by decide) y, p1]
    rfl
  have w9 : ∀ (Y : SR) (v : Int32), pR Y 0 9 v = mW Y 9 v := fun Y v => rfl
  subst hZ2
  simp only [s1, p1, w9, mW_0]
  rw [show ix 9 = 9 from rfl, show ix 4 = 4 from rfl, up_ne _ _ (show 9 ≠ 12 + 6 * i + 1 by omega), up_ne _ _ (show 9 ≠ 12 + 6 * i + 4 by omega), up_ne _ _ (show 12 + 6 * i + 1 ≠ 12 + 6 * i + 4 by omega), ← e1, ← e4, h.st 4 (by decide), ← (show x.1 6 = y.2 0 9 from h.1.2.2.2.1)]
  have ic := coin_in (a := x.2 0 4) (b := x.2 1 i) (by have := h.2.1.2.2.2.2.1; rw [h.st 4 (by decide)] at this; exact this) i1
  obtain ⟨g3, g4⟩ := held_sub (v := x.2 1 i) (w := 1) i1 (by unfold inI; decide)
  rw [g3]
  refine ⟨?_, ((F2_mW _ _ _).trans (F2_mW _ _ _)).trans (F2_mW _ _ _)⟩
  unfold plA
  rw [show ix (nI i) = i from ix_nI (by omega), show ix 4 = 4 from rfl]
  exact ((h.row (r := 3) (c := 4) hi hb (by omega) _ (fun q => absurd q (by decide))).row (r := 1) (c := 1) hi hb (by omega) _ (fun _ => g4)).num (f := 6) (c := 9) (by omega) _
