-- an open piano's hour, on both sides
theorem addm {v w : Int32} (hv : inI v 0 100) (hw : inI w 0 50) : (if v + w ≤ 100 then v + w else 100) = mn 100 (v + w) ∧ inI (mn 100 (v + w)) 0 100 := by
  unfold inI at hv hw ⊢
  have e := t_add (a := v) (b := w) (by omega)
  have e1 : Int32.toInt 100 = 100 := rfl
  unfold mn
  by_cases c : v + w < 100
  · have c2 := c
    rw [Int32.lt_iff_toInt_lt, e, e1] at c2
    rw [if_pos c, if_pos (show v + w ≤ 100 by rw [Int32.le_iff_toInt_le, e, e1]; omega), e]
    exact ⟨rfl, by omega, by omega⟩
  · have c2 := c
    rw [Int32.lt_iff_toInt_lt, e, e1] at c2
    rw [if_neg c]
    refine ⟨?_, by rw [e1]; omega, by rw [e1]; omega⟩
    by_cases q : v + w ≤ 100
    · rw [if_pos q]
      rw [Int32.le_iff_toInt_le, e, e1] at q
      exact Int32.toInt_inj.mp (by rw [e, e1]; omega)
    · rw [if_neg q]
theorem subm {v w : Int32} (hv : inI v 0 100) (hw : inI w 0 50) : (if w ≤ v then v - w else 0) = mx 0 (v - w) ∧ inI (mx 0 (v - w)) 0 100 := by
  unfold inI at hv hw ⊢
  have e := t_sub (a := v) (b := w) (by omega)
  have e0 : Int32.toInt 0 = 0 := rfl
  unfold mx
  by_cases c : 0 < v - w
  · have c2 := c
    rw [Int32.lt_iff_toInt_lt, e, e0] at c2
    rw [if_pos c, if_pos (show w ≤ v by rw [Int32.le_iff_toInt_le]; omega), e]
    exact ⟨rfl, by omega, by omega⟩
  · have c2 := c
    rw [Int32.lt_iff_toInt_lt, e, e0] at c2
    rw [if_neg c]
    refine ⟨?_, by rw [e0]; omega, by rw [e0]; omega⟩
    by_cases q : w ≤ v
    · rw [if_pos q]
      rw [Int32.le_iff_toInt_le] at q
      exact Int32.toInt_inj.mp (by rw [e, e0]; omega)
    · rw [if_neg q]
section RQH
variable {B : Int} {d : Int32} {x y : SR}
theorem RQ.s1 (h : RQ B d x y) : inI (x.2 0 1) 0 50 := by
  have := h.2.1.2.1
  rw [h.st (j := 1) (by decide)] at this
  exact inI_le this (by decide) (by decide)
theorem RQ.s2 (h : RQ B d x y) : inI (x.2 0 2) 0 50 := by
  have := h.2.1.2.2.1
  rw [h.st (j := 2) (by decide)] at this
  exact inI_le this (by decide) (by decide)
theorem RQ.s3 (h : RQ B d x y) : inI (x.2 0 3) 0 50 := by
  have := h.2.1.2.2.2.1
  rw [h.st (j := 3) (by decide)] at this
  exact inI_le this (by decide) (by decide)
theorem RQ.s4 (h : RQ B d x y) : inI (x.2 0 4) 0 50 := by
  have := h.2.1.2.2.2.2.1
  rw [h.st (j := 4) (by decide)] at this
  exact this
theorem rainL (h : RQ B d x y) {p : Nat} (hp : p < 12) (hb : bt (x.1 0) p = true) : RQ B d (rnS x p) (pR (pR (pR y 1 ((5 * nI p) + 1) (pL_hour_J444s0 (nI p) y)) 1 (5 * nI p) (pL_hour_J470s0 (nI p) y)) 1 ((5 * nI p) + 4) (((pR (pR y 1 ((5 * nI p) + 1) (pL_hour_J444s0 (nI p) y)) 1 (5 * nI p) (pL_hour_J470s0 (nI p) y)).2 1 (ix ((5 * nI p) + 4))) + 1)) := by
  obtain ⟨e0, e1, e2, e3, e4, i1, i2⟩ := (h.2.2.1 p hp).1 hb
  have q0 : ix (5 * nI p) = 5 * p := ix5 (by omega)
  have q1 : ix ((5 * nI p) + 1) = 5 * p + 1 := ix5a (j := 1) (by omega) (by decide)
  have q4 : ix ((5 * nI p) + 4) = 5 * p + 4 := ix5a (j := 4) (by omega) (by decide)
  have qp : ix (nI p) = p := ix_nI (by omega)
  obtain ⟨a1, a2⟩ := addm i2 h.s1
  obtain ⟨b1, b2⟩ := subm i1 h.s3
  have eA : pL_hour_J444s0 (nI p) y = mn 100 (x.2 2 p + x.2 0 1) := by
    rw [pL_hour_J444s0, q1, e1, show y.2 0 (ix 1) = x.2 0 1 from h.st (j := 1) (by decide)]
    exact a1
  have eB : pL_hour_J470s0 (nI p) y = mx 0 (x.2 1 p - x.2 0 3) := by
    rw [pL_hour_J470s0, pR_off (Or.inr (by rw [q0, q1]; omega)), q0, e0, show y.2 0 (ix 3) = x.2 0 3 from h.st (j := 3) (by decide)]
    exact b1
  rw [eA, eB, pR_off (Or.inr (by rw [q4, q0]; omega)), pR_off (Or.inr (by rw [q4, q1]; omega)), q4, e4]
  unfold rnS rnA
  rw [qp, show ix 1 = 1 from rfl, show ix 3 = 3 from rfl]
  exact ((h.row (r := 2) (c := 1) hp hb (by omega) _ (fun _ => a2) q1).row (r := 1) (c := 0) hp hb (by omega) _ (fun _ => b2) q0).row (r := 4) (c := 4) hp hb (by omega) _ (fun z => absurd z (by decide)) q4
theorem dryL (h : RQ B d x y) {p : Nat} (hp : p < 12) (hb : bt (x.1 0) p = true) : RQ B d (dryA x (nI p)) (pR y 1 ((5 * nI p) + 1) (pL_hour_J515s0 (nI p) y)) := by
  obtain ⟨e0, e1, e2, e3, e4, i1, i2⟩ := (h.2.2.1 p hp).1 hb
  have q1 : ix ((5 * nI p) + 1) = 5 * p + 1 := ix5a (j := 1) (by omega) (by decide)
  have qp : ix (nI p) = p := ix_nI (by omega)
  obtain ⟨b1, b2⟩ := subm i2 h.s2
  have eA : pL_hour_J515s0 (nI p) y = mx 0 (x.2 2 p - x.2 0 2) := by
    rw [pL_hour_J515s0, q1, e1, show y.2 0 (ix 2) = x.2 0 2 from h.st (j := 2) (by decide)]
    exact b1
  rw [eA]
  unfold dryA
  rw [qp, show ix 2 = 2 from rfl]
  exact h.row (r := 2) (c := 1) hp hb (by omega) _ (fun _ => b2) q1
theorem by_in (h : RQ B d x y) {p : Nat} (hp : p < 12) (hb : bt (x.1 0) p = true) : inI (((x.2 0 4) * (x.2 1 p)) / 100) 0 50 := coin_in h.s4 ((h.2.2.1 p hp).1 hb).2.2.2.2.2.1
/-- it is played; y is the row behind the drying, whose own last part is J589's -/
theorem playL (h : RQ B d x y) {p : Nat} (hp : p < 12) (hb : bt (x.1 0) p = true) (w : Int32) (hw : w = if (x.2 1 p) ≤ 0 then 0 else 1) : RQ B (d + (((x.2 0 4) * (x.2 1 p)) / 100)) (plA x (nI p)) (pR (pR y 1 ((5 * nI p) + 3) ((y.2 1 (ix ((5 * nI p) + 3))) + (((y.2 0 (ix 4)) * (y.2 1 (ix (5 * nI p)))) / 100))) 1 (5 * nI p) (((pR y 1 ((5 * nI p) + 3) ((y.2 1 (ix ((5 * nI p) + 3))) + (((y.2 0 (ix 4)) * (y.2 1 (ix (5 * nI p)))) / 100))).2 1 (ix (5 * nI p))) - w)) := by
  obtain ⟨e0, e1, e2, e3, e4, i1, i2⟩ := (h.2.2.1 p hp).1 hb
  have q0 : ix (5 * nI p) = 5 * p := ix5 (by omega)
  have q3 : ix ((5 * nI p) + 3) = 5 * p + 3 := ix5a (j := 3) (by omega) (by decide)
  have qp : ix (nI p) = p := ix_nI (by omega)
  obtain ⟨b1, b2⟩ := subm (w := 1) i1 (by unfold inI; decide)
  have eM : x.2 1 p - w = mx 0 (x.2 1 p - 1) := by
    rw [hw, ← b1]
    obtain ⟨i1a, i1b⟩ := i1
    by_cases c : x.2 1 p ≤ 0
    · rw [if_pos c]
      rw [Int32.le_iff_toInt_le, show Int32.toInt 0 = 0 from rfl] at c
      have z : x.2 1 p = 0 := Int32.toInt_inj.mp (by rw [show Int32.toInt 0 = 0 from rfl]; omega)
      rw [z]
      decide
    · rw [if_neg c]
      rw [Int32.le_iff_toInt_le, show Int32.toInt 0 = 0 from rfl] at c
      rw [if_pos (show (1 : Int32) ≤ x.2 1 p by rw [Int32.le_iff_toInt_le, show Int32.toInt 1 = 1 from rfl]; omega)]
  rw [pR_off (show (1 : Nat) ≠ 1 ∨ ix (5 * nI p) ≠ ix ((5 * nI p) + 3) from Or.inr (by rw [q0, q3]; omega)), q0, e0, q3, e3, show y.2 0 (ix 4) = x.2 0 4 from h.st (j := 4) (by decide), eM]
  unfold plA
  rw [qp, show ix 4 = 4 from rfl]
  exact ((h.row (r := 3) (c := 3) hp hb (by omega) _ (fun z => absurd z (by decide)) q3).coin (((x.2 0 4) * (x.2 1 p)) / 100)).row (r := 1) (c := 0) hp hb (by omega) _ (fun _ => b2) q0
theorem opn_iff {p : Nat} : opn x p = true ↔ bt (x.1 0) p = true ∧ bt (x.1 2) p = false := by
  unfold opn
  cases bt (x.1 0) p <;> cases bt (x.1 2) p <;> decide
/-- weather on an open piano -/
theorem weatherL (h : RQ B d x y) {p : Nat} (hp : p < 12) (ho : opn x p = true) (w4 w5 : Int32) : RQ B (pL_hour_J591v7 w4 w5 d (nI p) y) (if w4 = 0 then fzS (inPl w5) x p else rnS x p) (pL_hour_J591xq w4 w5 (nI p) y) ∧ (pL_hour_J591xq w4 w5 (nI p) y).2 0 = y.2 0 ∧ ∃ e : Nat, e ≤ 50 ∧ pL_hour_J591v7 w4 w5 d (nI p) y = d + nI e := by
  have hb := (opn_iff.mp ho).1
  have q0 : ix (5 * nI p) = 5 * p := ix5 (by omega)
  have q1 : ix ((5 * nI p) + 1) = 5 * p + 1 := ix5a (j := 1) (by omega) (by decide)
  have q3 : ix ((5 * nI p) + 3) = 5 * p + 3 := ix5a (j := 3) (by omega) (by decide)
  rw [pL_hour_J591v7, pL_hour_J591xq]
  by_cases c4 : w4 = 0
  · rw [if_pos c4, if_pos c4, if_pos c4]
    have hd := dryL h hp hb
    have hb1 : bt ((dryA x (nI p)).1 0) p = true := hb
    obtain ⟨f0, f1, f2, f3, f4, j1, j2⟩ := (hd.2.2.1 p hp).1 hb1
    have k5 : (50 ≤ ((pR y 1 ((5 * nI p) + 1) (pL_hour_J515s0 (nI p) y)).2 1 (ix ((5 * nI p) + 1)))) ↔ 50 ≤ (dryA x (nI p)).2 2 p := by rw [q1, f1]
    have dz : (pR y 1 ((5 * nI p) + 1) (pL_hour_J515s0 (nI p) y)).2 0 = y.2 0 := pR_or (by decide)
    have no : inPl w5 = false ∨ 50 ≤ (dryA x (nI p)).2 2 p → fzS (inPl w5) x p = dryA x (nI p) := fun z => by
      unfold fzS
      rw [if_neg]
      intro q
      rcases z with z | z
      · rw [z] at q
        exact absurd q.1 (by decide)
      · exact q.2 z
    by_cases c5 : w5 < 8
    · rw [if_pos c5, if_pos c5, no (Or.inl (by unfold inPl; rw [if_pos c5]))]
      exact ⟨hd, dz, 0, by decide, (Int32.add_zero d).symm⟩
    · rw [if_neg c5, if_neg c5]
      by_cases c6 : 22 ≤ w5
      · have n21 : ¬ w5 ≤ 21 := by
          rw [Int32.le_iff_toInt_le, show Int32.toInt 22 = 22 from rfl] at c6
          rw [Int32.le_iff_toInt_le, show Int32.toInt 21 = 21 from rfl]
          omega
        rw [if_pos c6, if_pos c6, no (Or.inl (by unfold inPl; rw [if_neg c5, if_neg n21]))]
        exact ⟨hd, dz, 0, by decide, (Int32.add_zero d).symm⟩
      · have y21 : w5 ≤ 21 := by
          rw [Int32.le_iff_toInt_le, show Int32.toInt 22 = 22 from rfl] at c6
          rw [Int32.le_iff_toInt_le, show Int32.toInt 21 = 21 from rfl]
          omega
        rw [if_neg c6, if_neg c6]
        by_cases c7 : 50 ≤ (dryA x (nI p)).2 2 p
        · rw [if_pos (k5.mpr c7), if_pos (k5.mpr c7), no (Or.inr c7)]
          exact ⟨hd, dz, 0, by decide, (Int32.add_zero d).symm⟩
        · rw [if_neg (fun z => c7 (k5.mp z)), if_neg (fun z => c7 (k5.mp z))]
          have ep : fzS (inPl w5) x p = plA (dryA x (nI p)) (nI p) := by
            unfold fzS
            rw [if_pos ⟨by unfold inPl; rw [if_neg c5, if_pos y21], c7⟩]
          have ew : pL_hour_J589s0 (nI p) y = if ((dryA x (nI p)).2 1 p) ≤ 0 then 0 else 1 := by
            rw [pL_hour_J589s0, pR_off (show (1 : Nat) ≠ 1 ∨ ix (5 * nI p) ≠ ix ((5 * nI p) + 3) from Or.inr (by rw [q0, q3]; omega)), q0, f0]
          have r := playL hd hp hb1 _ ew
          have eby : ((y.2 0 (ix 4)) * ((pR y 1 ((5 * nI p) + 1) (pL_hour_J515s0 (nI p) y)).2 1 (ix (5 * nI p)))) / 100 = (((dryA x (nI p)).2 0 4) * ((dryA x (nI p)).2 1 p)) / 100 := by
            rw [q0, f0, show y.2 0 (ix 4) = (dryA x (nI p)).2 0 4 from h.st (j := 4) (by decide)]
          rw [show (pR y 1 ((5 * nI p) + 1) (pL_hour_J515s0 (nI p) y)).2 0 (ix 4) = y.2 0 (ix 4) from congrFun dz _] at r
          rw [ep, eby]
          rw [eby] at r
          obtain ⟨e, he, ee⟩ := vp_in_of (n := 51) (vp_in_iff.mpr ⟨(by_in hd hp hb1).1, by have := (by_in hd hp hb1).2; omega⟩) (by decide)
          refine ⟨r, ?_, e, by omega, by rw [ee]⟩
          rw [pR_or (by decide), pR_or (by decide)]
          exact dz
  · rw [if_neg c4, if_neg c4, if_neg c4]
    exact ⟨rainL h hp hb, by rw [pR_or (by decide), pR_or (by decide), pR_or (by decide)], 0, by decide, (Int32.add_zero d).symm⟩
/-- a thief -/
theorem thfL (h : RQ B d x y) {p : Nat} (hp : p < 12) (h1 : bt (x.1 1) p = true) : RQ B d (thC x p) (thf y (nI p)) := by
  obtain ⟨bv, bn, b1, b2⟩ := h.2.2.1 p hp
  have c2 : bt (x.1 2) p = false := by
    cases hc : bt (x.1 2) p
    · rfl
    · exact absurd (h1.symm.trans (b2 hc).2) (by decide)
  have s1 : bt ((x.1 1) &&& (((1 : Int32) <<< (nI p &&& 31)) ^^^ (-1))) p = false := bclr_eq _ (by omega)
  have q2 : ix ((5 * nI p) + 2) = 5 * p + 2 := ix5a (j := 2) (by omega) (by decide)
  have r := h.cov (x' := pS x 1 ((x.1 1) &&& ((1 <<< (nI p &&& 31)) ^^^ (-1)))) hp (b1 h1) rfl rfl (fun j hj => up_ne _ _ (by omega)) (fun q hq => bclr_ne (x.1 1) (by omega) hq) (fun q hq => rfl) 0 (((if_neg (fun z => absurd (c2.symm.trans z) (by decide))).trans (if_neg (fun z => absurd (s1.symm.trans z) (by decide)))).symm) (fun _ => s1) q2
  have r2 := r.stole
  rw [show (pR y 1 ((5 * nI p) + 2) 0).2 0 (ix 10) = y.2 0 (ix 10) from congrFun (pR_or (by decide)) _] at r2
  exact r2
/-- the law's thieves, at an open piano -/
theorem thiefL (h : RQ B d x y) {p : Nat} (hp : p < 12) (ho : opn x p = true) (w5 w8 : Int32) (hk : bt w8 p = false ↔ pX1_keepersAt (nI p) x = 0) (z : SR) (hz : z = if w5 < 6 then if (y.2 1 (ix ((5 * nI p) + 2))) = 1 then if ((w8 >>> (nI p &&& 31)) &&& 1) = 0 then if (((7 * (y.2 0 (ix 7))) + (3 * nI p)) - ((7 * (y.2 0 (ix 7))) + (3 * nI p)) / (y.2 0 (ix 6)) * (y.2 0 (ix 6))) = 0 then thf y (nI p) else y else y else y
    else if w5 ≤ 21 then y else if (y.2 1 (ix ((5 * nI p) + 2))) = 1 then if ((w8 >>> (nI p &&& 31)) &&& 1) = 0 then if (((7 * (y.2 0 (ix 7))) + (3 * nI p)) - ((7 * (y.2 0 (ix 7))) + (3 * nI p)) / (y.2 0 (ix 6)) * (y.2 0 (ix 6))) = 0 then thf y (nI p) else y else y else y) : RQ B d (thN w5 (x.2 0 (ix 6)) x p) z ∧ z.2 0 9 = y.2 0 9 := by
  have hb := (opn_iff.mp ho).1
  have c2 := (opn_iff.mp ho).2
  obtain ⟨e0, e1, e2, e3, e4, i1, i2⟩ := (h.2.2.1 p hp).1 hb
  have q2 : ix ((5 * nI p) + 2) = 5 * p + 2 := ix5a (j := 2) (by omega) (by decide)
  rw [c2, if_neg (show ¬ false = true by decide)] at e2
  rw [q2, e2, h.e7, show y.2 0 (ix 6) = x.2 0 (ix 6) from h.st (j := 6) (by decide)] at hz
  have one : RQ B d (tS (x.2 0 (ix 6)) x p) (if (if bt (x.1 1) p = true then (1 : Int32) else 0) = 1 then if ((w8 >>> (nI p &&& 31)) &&& 1) = 0 then if (((7 * (x.1 5)) + (3 * nI p)) - ((7 * (x.1 5)) + (3 * nI p)) / (x.2 0 (ix 6)) * (x.2 0 (ix 6))) = 0 then thf y (nI p) else y else y else y) ∧ (if (if bt (x.1 1) p = true then (1 : Int32) else 0) = 1 then if ((w8 >>> (nI p &&& 31)) &&& 1) = 0 then if (((7 * (x.1 5)) + (3 * nI p)) - ((7 * (x.1 5)) + (3 * nI p)) / (x.2 0 (ix 6)) * (x.2 0 (ix 6))) = 0 then thf y (nI p) else y else y else y).2 0 9 = y.2 0 9 := by
    have t9 : (thf y (nI p)).2 0 9 = y.2 0 9 := by
      unfold thf
      rw [pR_off (Or.inr (show (9 : Nat) ≠ ix 10 by decide)), pR_or (by decide)]
    unfold tS
    by_cases c1 : bt (x.1 1) p = true
    · simp only [if_pos c1, if_true]
      by_cases ck : pX1_keepersAt (nI p) x = 0
      · rw [if_pos ((sh31 (by omega) w8).mpr (hk.mpr ck)), if_pos ck]
        by_cases cm : (((7 * (x.1 5)) + (3 * nI p)) - ((7 * (x.1 5)) + (3 * nI p)) / (x.2 0 (ix 6)) * (x.2 0 (ix 6))) = 0
        · rw [if_pos cm, if_pos cm]
          exact ⟨thfL h hp c1, t9⟩
        · rw [if_neg cm, if_neg cm]
          exact ⟨h, rfl⟩
      · rw [if_neg (fun q => ck (hk.mp ((sh31 (by omega) w8).mp q))), if_neg ck, ite_self]
        exact ⟨h, rfl⟩
    · simp only [if_neg c1, ite_self]
      rw [if_neg (show ¬ (0 : Int32) = 1 by decide)]
      exact ⟨h, rfl⟩
  rw [hz]
  unfold thN
  by_cases c6 : w5 < 6
  · rw [if_pos c6, if_pos c6]
    exact one
  · rw [if_neg c6, if_neg c6]
    by_cases c21 : w5 ≤ 21
    · rw [if_pos c21, if_pos c21]
      exact ⟨h, rfl⟩
    · rw [if_neg c21, if_neg c21]
      exact one
theorem J660_eq (w4 w5 w8 v9 : Int32) (y : SR) : pL_hour_J660xq w4 w5 w8 v9 y = if w5 < 6 then if ((pL_hour_J591xq w4 w5 v9 y).2 1 (ix ((5 * v9) + 2))) = 1 then if ((w8 >>> (v9 &&& 31)) &&& 1) = 0 then if (((7 * ((pL_hour_J591xq w4 w5 v9 y).2 0 (ix 7))) + (3 * v9)) - ((7 * ((pL_hour_J591xq w4 w5 v9 y).2 0 (ix 7))) + (3 * v9)) / ((pL_hour_J591xq w4 w5 v9 y).2 0 (ix 6)) * ((pL_hour_J591xq w4 w5 v9 y).2 0 (ix 6))) = 0 then thf (pL_hour_J591xq w4 w5 v9 y) v9 else (pL_hour_J591xq w4 w5 v9 y) else (pL_hour_J591xq w4 w5 v9 y) else (pL_hour_J591xq w4 w5 v9 y)
    else if w5 ≤ 21 then (pL_hour_J591xq w4 w5 v9 y) else if ((pL_hour_J591xq w4 w5 v9 y).2 1 (ix ((5 * v9) + 2))) = 1 then if ((w8 >>> (v9 &&& 31)) &&& 1) = 0 then if (((7 * ((pL_hour_J591xq w4 w5 v9 y).2 0 (ix 7))) + (3 * v9)) - ((7 * ((pL_hour_J591xq w4 w5 v9 y).2 0 (ix 7))) + (3 * v9)) / ((pL_hour_J591xq w4 w5 v9 y).2 0 (ix 6)) * ((pL_hour_J591xq w4 w5 v9 y).2 0 (ix 6))) = 0 then thf (pL_hour_J591xq w4 w5 v9 y) v9 else (pL_hour_J591xq w4 w5 v9 y) else (pL_hour_J591xq w4 w5 v9 y) else (pL_hour_J591xq w4 w5 v9 y) := by
  rw [pL_hour_J660xq]
  rfl
end RQH
def wst (w4 w5 : Int32) (x : SR) (i : Nat) : SR := if w4 = 0 then fzS (inPl w5) x i else rnS x i
theorem Wt_wst (w4 w5 : Int32) : Wt (wst w4 w5) := by
  by_cases c : w4 = 0
  · have e : wst w4 w5 = fzS (inPl w5) := by
      funext x i
      unfold wst
      rw [if_pos c]
    rw [e]
    exact Wt_fz _
  · have e : wst w4 w5 = rnS := by
      funext x i
      unfold wst
      rw [if_neg c]
    rw [e]
    exact Wt_rn
theorem thN_k (v1 s : Int32) (x : SR) (i : Nat) : (thN v1 s x i).1 3 = x.1 3 ∧ (thN v1 s x i).2 = x.2 := by
  have t : (tS s x i).1 3 = x.1 3 ∧ (tS s x i).2 = x.2 := by
    unfold tS
    by_cases c1 : (((7 * (x.1 5)) + (3 * nI i)) - ((7 * (x.1 5)) + (3 * nI i)) / s * s) = 0
    · rw [if_pos c1]
      by_cases c2 : bt (x.1 1) i = true
      · rw [if_pos c2]
        by_cases c3 : pX1_keepersAt (nI i) x = 0
        · rw [if_pos c3]
          exact ⟨rfl, rfl⟩
        · rw [if_neg c3]
          exact ⟨rfl, rfl⟩
      · rw [if_neg c2]
        exact ⟨rfl, rfl⟩
    · rw [if_neg c1]
      exact ⟨rfl, rfl⟩
  unfold thN
  by_cases c6 : v1 < 6
  · rw [if_pos c6]
    exact t
  · rw [if_neg c6]
    by_cases c21 : v1 ≤ 21
    · rw [if_pos c21]
      exact ⟨rfl, rfl⟩
    · rw [if_neg c21]
      exact t
theorem thN_no {v1 s : Int32} {x : SR} {i : Nat} (h : bt (x.1 1) i = false) : thN v1 s x i = x := by
  have t : tS s x i = x := by
    unfold tS
    rw [if_neg (show ¬ bt (x.1 1) i = true by rw [h]; decide), ite_self]
  unfold thN
  rw [t, ite_self, ite_self]
theorem mz_L {B : Int} (w4 w5 w8 s : Int32) : ∀ (n i D : Nat) (x y : SR), RQ B (nI D) x y → s = x.2 0 (ix 6) → (∀ p, p < 12 → (bt w8 p = false ↔ pX1_keepersAt (nI p) x = 0)) → i ≤ 12 → 12 - i < n → RQ B (pL_hour_L371 w4 w5 w8 n (nI D) (nI i) y).1 (mz (wst w4 w5) (thN w5 s) n i x) (pL_hour_L371 w4 w5 w8 n (nI D) (nI i) y).2 ∧ (pL_hour_L371 w4 w5 w8 n (nI D) (nI i) y).2.2 0 9 = y.2 0 9 ∧ ∃ D', D' ≤ D + 50 * (12 - i) ∧ (pL_hour_L371 w4 w5 w8 n (nI D) (nI i) y).1 = nI D' := by
  intro n
  induction n with
  | zero => intro i D x y h hs hk h1 h2; omega
  | succ n ih =>
    intro i D x y h hs hk h1 h2
    rw [pL_hour_L371, mz]
    by_cases c : i = 12
    · subst c
      rw [if_pos (show (12 : Int32) ≤ nI 12 by decide), if_pos (Nat.le_refl 12)]
      exact ⟨h, rfl, D, by omega, rfl⟩
    · have hi : i < 12 := by omega
      obtain ⟨bv, bn, b1, b2⟩ := h.2.2.1 i hi
      have q0 : ix (5 * nI i) = 5 * i := ix5 (by omega)
      have q2 : ix ((5 * nI i) + 2) = 5 * i + 2 := ix5a (j := 2) (by omega) (by decide)
      rw [if_neg (lt12 hi).2, if_neg (show ¬ 12 ≤ i by omega), nI_1, q0, q2]
      by_cases o : opn x i = true
      · obtain ⟨c0, c2⟩ := opn_iff.mp o
        obtain ⟨e0, e1, e2, e3, e4, i1, i2⟩ := bv c0
        rw [if_pos o, e0, if_neg (show ¬ x.2 1 i < 0 by
          rw [Int32.lt_iff_toInt_lt, show Int32.toInt 0 = 0 from rfl]
          have := i1.1
          omega), e2, c2, if_neg (show ¬ false = true by decide)]
        have n2 : ¬ (if bt (x.1 1) i = true then (1 : Int32) else 0) = 2 := by
          by_cases c1 : bt (x.1 1) i = true
          · rw [if_pos c1]
            decide
          · rw [if_neg c1]
            decide
        rw [if_neg n2]
        obtain ⟨r1, r0, e, he, ee⟩ := weatherL h hi o w4 w5
        obtain ⟨w1, w2, w3, -⟩ := Wt_wst w4 w5 x i
        have o2 : opn (wst w4 w5 x i) i = true := by
          rw [opn_iff, w1 0 (by decide), w1 2 (by decide)]
          exact ⟨c0, c2⟩
        have ck : ∀ p, pX1_keepersAt (nI p) (wst w4 w5 x i) = pX1_keepersAt (nI p) x := fun p => keepersAt_cg (w1 3 (by decide)) (w3 5 (by decide)) _
        have r1' : RQ B (pL_hour_J591v7 w4 w5 (nI D) (nI i) y) (wst w4 w5 x i) (pL_hour_J591xq w4 w5 (nI i) y) := r1
        obtain ⟨g1, g9⟩ := thiefL r1' hi o2 w5 w8 (by rw [ck]; exact hk i hi) _ (J660_eq w4 w5 w8 (nI i) y)
        rw [ee, nI_add] at g1 ⊢
        rw [show (wst w4 w5 x i).2 0 (ix 6) = s by rw [w2, ← hs]] at g1
        obtain ⟨k3, k2⟩ := thN_k w5 s (wst w4 w5 x i) i
        obtain ⟨a1, a2, D', hD', a3⟩ := ih (i + 1) (D + e) _ _ g1 (by rw [k2, w2]; exact hs) (fun p hp => by rw [keepersAt_cg k3 (by rw [k2]), ck]; exact hk p hp) (by omega) (by omega)
        exact ⟨a1, a2.trans (g9.trans (congrFun r0 _)), D', by omega, a3⟩
      · rw [if_neg o]
        have skip := ih (i + 1) D x y h hs hk (by omega) (by omega)
        have fin : RQ B (pL_hour_L371 w4 w5 w8 n (nI D) (nI (i + 1)) y).1 (mz (wst w4 w5) (thN w5 s) n (i + 1) x) (pL_hour_L371 w4 w5 w8 n (nI D) (nI (i + 1)) y).2 ∧ (pL_hour_L371 w4 w5 w8 n (nI D) (nI (i + 1)) y).2.2 0 9 = y.2 0 9 ∧ ∃ D', D' ≤ D + 50 * (12 - i) ∧ (pL_hour_L371 w4 w5 w8 n (nI D) (nI (i + 1)) y).1 = nI D' := by
          obtain ⟨a1, a2, D', hD', a3⟩ := skip
          exact ⟨a1, a2, D', by omega, a3⟩
        by_cases c0 : bt (x.1 0) i = true
        · obtain ⟨e0, e1, e2, e3, e4, i1, i2⟩ := bv c0
          have c2 : bt (x.1 2) i = true := by
            cases hc : bt (x.1 2) i
            · exact absurd (opn_iff.mpr ⟨c0, hc⟩) o
            · rfl
          rw [thN_no (b2 c2).2, e0, if_neg (show ¬ x.2 1 i < 0 by
            rw [Int32.lt_iff_toInt_lt, show Int32.toInt 0 = 0 from rfl]
            have := i1.1
            omega), e2, if_pos c2, if_pos rfl]
          exact fin
        · have f0 := Bool.eq_false_iff.mpr c0
          rw [thN_no (Bool.eq_false_iff.mpr (fun z => c0 (b1 z))), bn f0, if_pos (by decide)]
          exact fin
-- the places where keepers are
theorem kept_L {x y : SR} : ∀ (n i : Nat) (v : Int32) (p : Nat), (∀ k, k < 5 → inI (y.2 2 (5 * k)) 0 11) → Int32.toInt (y.2 0 11) ≤ 5 → p < 12 → i ≤ 5 → 5 - i < n → (bt (pL_hour_L340 n v (nI i) y) p = true ↔ bt v p = true ∨ ∃ k, i ≤ k ∧ (k : Int) < Int32.toInt (y.2 0 11) ∧ y.2 2 (5 * k) = nI p) := by
  intro n
  induction n with
  | zero => intro i v p hy h5 hp h1 h2; omega
  | succ n ih =>
    intro i v p hy h5 hp h1 h2
    rw [pL_hour_L340]
    by_cases c : (y.2 0 (ix 11)) ≤ nI i
    · rw [if_pos c]
      rw [show ix 11 = 11 from rfl, nI_lev (by omega)] at c
      exact ⟨fun z => Or.inl z, fun z => z.elim id (fun ⟨k, q1, q2, _⟩ => by omega)⟩
    · rw [if_neg c]
      rw [show ix 11 = 11 from rfl, nI_lev (by omega)] at c
      have hi : i < 5 := by omega
      obtain ⟨z1, z2⟩ := hy i hi
      obtain ⟨a, ha, ea⟩ := vp_in_of (x := y.2 2 (5 * i)) (n := 12) (vp_in_iff.mpr ⟨z1, by omega⟩) (by decide)
      rw [nI_1, show ix (5 * nI i) = 5 * i from ix5 (by omega), ea, ih (i + 1) _ p hy h5 hp (by omega) (by omega)]
      by_cases q : p = a
      · subst q
        rw [bset_eq v (by omega)]
        exact ⟨fun _ => Or.inr ⟨i, Nat.le_refl _, by omega, ea⟩, fun _ => Or.inl rfl⟩
      · rw [bset_ne v (by omega) q]
        refine ⟨fun z => z.imp id (fun ⟨k, q1, q2, q3⟩ => ⟨k, by omega, q2, q3⟩), fun z => z.imp id (fun ⟨k, q1, q2, q3⟩ => ⟨k, ?_, q2, q3⟩)⟩
        by_cases e : k = i
        · subst e
          rw [ea, nI_eq (by omega) (by omega)] at q3
          exact absurd q3.symm q
        · omega
theorem keptN_L {x : SR} {a : Int32} : ∀ (n i V : Nat), Int32.toInt (x.1 3) ≤ 5 → i ≤ 5 → 5 - i < n → ∃ c : Nat, c ≤ 5 - i ∧ pX1_keepersAt_L4 a n (nI V) (nI i) x = nI (V + c) ∧ (c = 0 ↔ ∀ k : Nat, i ≤ k → (k : Int) < Int32.toInt (x.1 3) → ¬ x.2 5 k = a) := by
  intro n
  induction n with
  | zero => intro i V h5 h1 h2; omega
  | succ n ih =>
    intro i V h5 h1 h2
    rw [pX1_keepersAt_L4]
    by_cases c : x.1 3 ≤ nI i
    · rw [if_pos c]
      rw [nI_lev (by omega)] at c
      exact ⟨0, by omega, rfl, fun _ k q1 q2 => by omega, fun _ => rfl⟩
    · rw [if_neg c]
      rw [nI_lev (by omega)] at c
      rw [if_neg (show ¬ (4 : Int32) < nI i by
        rw [show (4 : Int32) = nI 4 from rfl, nI_ltI (by omega) (by omega)]
        omega), nI_1, nI_1, show ix (nI i) = i from ix_nI (by omega)]
      by_cases q : x.2 5 i = a
      · rw [if_pos q]
        obtain ⟨k, hk, e1, -⟩ := ih (i + 1) (V + 1) h5 (by omega) (by omega)
        refine ⟨k + 1, by omega, by rw [e1, show V + 1 + k = V + (k + 1) by omega], fun z => by omega, fun z => absurd q (z i (Nat.le_refl _) (by omega))⟩
      · rw [if_neg q]
        obtain ⟨k, hk, e1, e2⟩ := ih (i + 1) V h5 (by omega) (by omega)
        refine ⟨k, by omega, e1, e2.trans ⟨fun z j q1 q2 => ?_, fun z j q1 q2 => z j (by omega) q2⟩⟩
        by_cases e : j = i
        · rw [e]
          exact q
        · exact z j (by omega) q2
theorem kept_eq {B : Int} {d : Int32} {x y : SR} (h : RQ B d x y) {p : Nat} (hp : p < 12) : bt (pL_hour_L340 6 0 0 y) p = false ↔ pX1_keepersAt (nI p) x = 0 := by
  have e11 : y.2 0 11 = x.1 3 := h.e11
  have h5 := h.2.2.2.1.1.2
  have a := kept_L (x := x) 6 0 0 p (fun k hk => (h.2.2.2.1.2 k hk).1) h5 hp (by decide) (by decide)
  obtain ⟨c, hc, e1, e2⟩ := keptN_L (x := x) (a := nI p) 6 0 0 (by rw [← e11]; exact h5) (by decide) (by decide)
  rw [nI_0] at a e1
  rw [b_0] at a
  have ek : pX1_keepersAt (nI p) x = nI c := by
    rw [pX1_keepersAt, e1, Nat.zero_add]
  have z0 : nI c = 0 ↔ c = 0 := by rw [← nI_0, nI_eq (by omega) (by omega)]
  rw [ek, z0, e2]
  constructor
  · intro hf k _ hk hx
    have hk' : (k : Int) < Int32.toInt (y.2 0 11) := by rw [e11]; exact hk
    have ey : y.2 2 (5 * k) = x.2 5 k := h.kv hk' (j := 0) (by decide)
    have := a.mpr (Or.inr ⟨k, Nat.zero_le _, hk', ey.trans hx⟩)
    rw [hf] at this
    exact absurd this (by decide)
  · intro hn
    cases hb : bt (pL_hour_L340 6 0 0 y) p
    · rfl
    · rcases a.mp hb with z | ⟨k, q1, q2, q3⟩
      · exact absurd z (by decide)
      · have ey : y.2 2 (5 * k) = x.2 5 k := h.kv q2 (j := 0) (by decide)
        exact absurd (ey.symm.trans q3) (hn k (Nat.zero_le _) (by rw [← e11]; exact q2))
-- the hour
theorem hourL {B : Int} {x y : SR} (h : RQ B 0 x y) (hB : B ≤ 1000000) : RQ (B + 1) 0 (cHour x) (pL_hour y).2 ∧ (cHour x).1 6 = x.1 6 + (pL_hour y).1 ∧ ∃ D : Nat, D ≤ 600 ∧ (pL_hour y).1 = nI D := by
  have kf := acts_Kf x
  have hA := actsL h hB
  have e5 : (pX1_letKeepersAct x).1 5 = x.1 5 := kf.1 5 (by decide)
  have r0 : pX1_rainsAfter 0 (pX1_letKeepersAct x) = pX1_rainsAfter 0 x := by
    rw [pX1_rainsAfter, pX1_rainsAfter, kf.1 4 (by decide), kf.1 5 (by decide)]
  have eW4 : pL_rains (y.2 0 (ix 7)) y = pX1_rainsAfter 0 x := rains0L h
  have eW5 : (y.2 0 (ix 7)) - (y.2 0 (ix 7)) / 24 * 24 = (x.1 5) - (x.1 5) / 24 * 24 := by rw [h.e7]
  have s6 : 1 ≤ (pX1_letKeepersAct x).2 0 (ix 6) := by
    have q := hA.2.1.2.2.2.2.2.2.1
    rw [hA.st (j := 6) (by decide)] at q
    rw [Int32.le_iff_toInt_le]
    exact q
  -- the class: weather and thieves in one go
  have eC : cHour x = pS (mz (wst (pX1_rainsAfter 0 x) ((x.1 5) - (x.1 5) / 24 * 24)) (thN ((x.1 5) - (x.1 5) / 24 * 24) ((pX1_letKeepersAct x).2 0 (ix 6))) 13 0 (pX1_letKeepersAct x)) 5 ((mz (wst (pX1_rainsAfter 0 x) ((x.1 5) - (x.1 5) / 24 * 24)) (thN ((x.1 5) - (x.1 5) / 24 * 24) ((pX1_letKeepersAct x).2 0 (ix 6))) 13 0 (pX1_letKeepersAct x)).1 5 + 1) := by
    have key : ∀ st, Wt st → hEnd (wz st 13 0 (pX1_letKeepersAct x)) = pS (mz st (thN ((x.1 5) - (x.1 5) / 24 * 24) ((pX1_letKeepersAct x).2 0 (ix 6))) 13 0 (pX1_letKeepersAct x)) 5 ((mz st (thN ((x.1 5) - (x.1 5) / 24 * 24) ((pX1_letKeepersAct x).2 0 (ix 6))) 13 0 (pX1_letKeepersAct x)).1 5 + 1) := by
      intro st hst
      unfold hEnd
      rw [thieves_mz hst _ s6, e5]
    unfold cHour
    rw [r0]
    by_cases c : pX1_rainsAfter 0 x = 0
    · have ew : wst (pX1_rainsAfter 0 x) ((x.1 5) - (x.1 5) / 24 * 24) = fzS (inPl ((x.1 5) - (x.1 5) / 24 * 24)) := by
        funext X i
        unfold wst
        rw [if_pos c]
      rw [if_pos c, ew, play_dry, e5, fz_wz, key _ (Wt_fz _)]
    · have ew : wst (pX1_rainsAfter 0 x) ((x.1 5) - (x.1 5) / 24 * 24) = rnS := by
        funext X i
        unfold wst
        rw [if_neg c]
      rw [if_neg c, ew, pX1_letRainFall, ← nI_0, rain_wz _ _ _ (by decide), key _ Wt_rn]
  obtain ⟨m1, m2, D, hD, m3⟩ := mz_L (pX1_rainsAfter 0 x) ((x.1 5) - (x.1 5) / 24 * 24) (pL_hour_E340 y) ((pX1_letKeepersAct x).2 0 (ix 6)) 13 0 0 (pX1_letKeepersAct x) (pL_hour_E38 y) (by rw [nI_0]; exact hA) rfl (fun p hp => by rw [pL_hour_E340]; exact kept_eq hA hp) (by decide) (by decide)
  rw [nI_0] at m1 m2 m3
  have eE : pL_hour_E371 y = pL_hour_L371 (pX1_rainsAfter 0 x) ((x.1 5) - (x.1 5) / 24 * 24) (pL_hour_E340 y) 13 0 0 (pL_hour_E38 y) := by
    rw [pL_hour_E371, eW4, eW5]
  rw [← eE] at m1 m2 m3
  rw [pL_hour]
  dsimp only
  have q9 := m1.paid
  have q7 := q9.hr hB
  rw [eC]
  generalize mz (wst (pX1_rainsAfter 0 x) ((x.1 5) - (x.1 5) / 24 * 24)) (thN ((x.1 5) - (x.1 5) / 24 * 24) ((pX1_letKeepersAct x).2 0 (ix 6))) 13 0 (pX1_letKeepersAct x) = Z at m1 q9 q7 ⊢
  refine ⟨q7, ?_, D, by omega, m3⟩
  show Z.1 6 = _
  rw [m1.1.2.2.2.1, m2]
  have h6 := hA.1.2.2.2.1
  rw [Int32.add_zero] at h6
  rw [← h6, kf.1 6 (by decide)]
