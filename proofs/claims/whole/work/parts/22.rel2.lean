theorem RH.e7 {x y : SR} (h : RH x (y.2 0)) : y.2 0 (ix 7) = x.1 5 := h.2.1.symm
theorem RH.e8 {x y : SR} (h : RH x (y.2 0)) : y.2 0 (ix 8) = x.1 4 := h.2.2.1.symm
theorem RH.e11 {x y : SR} (h : RH x (y.2 0)) : y.2 0 (ix 11) = x.1 3 := h.2.2.2.2.2.symm
theorem RH.e0 {x y : SR} (h : RH x (y.2 0)) : y.2 0 (ix 0) = x.2 0 (ix 0) := (h.1 0 (by decide)).symm
theorem RH.e5 {x y : SR} (h : RH x (y.2 0)) : y.2 0 (ix 5) = x.2 0 (ix 5) := (h.1 5 (by decide)).symm
theorem RH.e6 {x y : SR} (h : RH x (y.2 0)) : y.2 0 (ix 6) = x.2 0 (ix 6) := (h.1 6 (by decide)).symm
theorem rains_eq {x y : SR} (h : RH x (y.2 0)) (a : Int32) : pX3_rainsIn a y = pX1_rainsAfter a x := by
  rw [pX1_rainsAfter, pX3_rainsIn, h.e7, h.e8]
  by_cases hc : (ush (x.1 4) (((x.1 5) + a) - ((x.1 5) + a) / 24 * 24) &&& 1) = 1
  · rw [if_pos hc, if_pos ((sh_eq _ _).mp hc)]
  · rw [if_neg hc, if_neg (fun e => hc ((sh_eq _ _).mpr e))]
theorem rains_b (a : Int32) (x : SR) : pX1_rainsAfter a x = 0 ∨ pX1_rainsAfter a x = 1 := by
  rw [pX1_rainsAfter]
  by_cases hc : (ush (x.1 4) (((x.1 5) + a) - ((x.1 5) + a) / 24 * 24) &&& 1) = 1
  · rw [if_pos hc]
    exact Or.inr rfl
  · rw [if_neg hc]
    exact Or.inl rfl
theorem nI_ltv {v : Int32} {i : Nat} (hi : i < 2147483648) : (v < nI i) ↔ Int32.toInt v < (i : Int) := by
  rw [Int32.lt_iff_toInt_lt, nI_toInt (by omega)]
theorem nI_lev {v : Int32} {i : Nat} (hi : i < 2147483648) : (v ≤ nI i) ↔ Int32.toInt v ≤ (i : Int) := by
  rw [Int32.le_iff_toInt_le, nI_toInt (by omega)]
theorem ahead_A (y : SR) (hw : Int32.toInt (y.2 0 (ix 0)) ≤ 12) : ∀ (n v : Nat), v ≤ 13 → 13 - v < n → pX3_isRainAhead_L4 n 1 (nI v) y = 1 := by
  intro n
  induction n with
  | zero => intro v h1 h2; omega
  | succ n ih =>
    intro v h1 h2
    rw [pX3_isRainAhead_L4]
    by_cases c : y.2 0 (ix 0) < nI v
    · rw [if_pos c]
    · rw [if_neg c, if_neg (by decide), nI_1]
      have t := mt (nI_ltv (v := y.2 0 (ix 0)) (i := v) (by omega)).mpr c
      exact ih (v + 1) (by omega) (by omega)
theorem ahead_B {x y : SR} (h : RH x (y.2 0)) (hw : inI (y.2 0 (ix 0)) 0 12) : ∀ (n2 n1 v : Nat), v ≤ 13 → 13 - v < n2 → 13 - v < n1 → pX3_isRainAhead_L4 n2 0 (nI v) y = pX1_rainIsAhead_L2 n1 (nI v) x := by
  intro n2
  induction n2 with
  | zero => intro n1 v h0 h1 h2; omega
  | succ n2 ih =>
    intro n1 v h0 h1 h2
    cases n1 with
    | zero => omega
    | succ n1 =>
      have hw2 := hw.2
      rw [pX3_isRainAhead_L4, pX1_rainIsAhead_L2, h.e0]
      by_cases c : x.2 0 (ix 0) < nI v
      · rw [if_pos c, if_pos c]
      · rw [if_neg c, if_neg c, if_pos rfl]
        have t := mt (nI_ltv (v := x.2 0 (ix 0)) (i := v) (by omega)).mpr c
        rw [h.e0] at hw2
        have h24 : ¬ (24 : Int32) ≤ nI v := by
          rw [show (24 : Int32) = nI 24 from rfl, nI_leI (by omega) (by omega)]
          omega
        rw [if_neg h24, rains_eq h, nI_1]
        by_cases r : pX1_rainsAfter (nI v) x = 0
        · rw [if_pos r, if_pos r]
          exact ih n1 (v + 1) (by omega) (by omega) (by omega)
        · rw [if_neg r, if_neg r]
          exact ahead_A y (by rw [h.e0]; exact hw2) n2 (v + 1) (by omega) (by omega)
theorem ahead_eq {x y : SR} (h : RH x (y.2 0)) (hw : inI (y.2 0 (ix 0)) 0 12) : pX3_isRainAhead y = pX1_rainIsAhead x := by
  rw [pX3_isRainAhead, pX1_rainIsAhead]
  exact ahead_B h hw 14 25 0 (by decide) (by decide) (by decide)
-- keepers
theorem kp_i {k j : Nat} (hk : k < 5) (hj : j < 5) : ix (((84 : Int32) + (5 * nI k)) + nI j) = 84 + 5 * k + j := by
  rw [kp_nI, ix_nI (by omega)]
theorem kP {k : Nat} (j : Nat) (hk : k < 5) (hj : j < 5) (y : SR) : pX3_keeperPart (nI k) (nI j) y = y.2 0 (84 + 5 * k + j) := by
  rw [pX3_keeperPart, kp_i hk hj]
theorem aP {k : Nat} (j : Nat) (hk : k < 5) (hj : j < 5) (v : Int32) (y : SR) : pX3_adds (nI k) (nI j) v y = (y.1, up y.2 0 (up (y.2 0) (84 + 5 * k + j) (y.2 0 (84 + 5 * k + j) + v))) := by
  rw [pX3_adds]
  unfold pR
  rw [kp_i hk hj]
theorem keepersAt_B {x y : SR} (h : RH x (y.2 0)) (hk : RK x (y.2 0)) (a : Int32) : ∀ (n2 n1 i : Nat) (v : Int32), i ≤ 5 → 5 - i < n2 → 5 - i < n1 → pX3_keepersAt_L4 a n2 v (nI i) y = pX1_keepersAt_L4 a n1 v (nI i) x := by
  intro n2
  induction n2 with
  | zero => intro n1 i v h0 h1 h2; omega
  | succ n2 ih =>
    intro n1 i v h0 h1 h2
    cases n1 with
    | zero => omega
    | succ n1 =>
      rw [pX3_keepersAt_L4, pX1_keepersAt_L4, h.e11]
      by_cases c : x.1 3 ≤ nI i
      · rw [if_pos c, if_pos c]
      · have t := mt (nI_lev (v := x.1 3) (i := i) (by omega)).mpr c
        have h5 : Int32.toInt (x.1 3) ≤ 5 := by
          rw [h.2.2.2.2.2]
          exact hk.1.2
        have hi : i < 5 := by omega
        have h4 : ¬ (4 : Int32) < nI i := by
          rw [show (4 : Int32) = nI 4 from rfl, nI_ltI (by omega) (by omega)]
          omega
        have kk := hk.2 i (by rw [← h.2.2.2.2.2]; omega)
        have e : pX3_keeperPart (nI i) 0 y = x.2 5 (ix (nI i)) := by
          rw [show pX3_keeperPart (nI i) 0 y = y.2 0 (84 + 5 * i + 0) from kP 0 hi (by decide) y, ix_nI (by omega)]
          exact (kk.1 0 (by decide)).symm
        rw [if_neg c, if_neg c, if_neg h4, e, nI_1]
        by_cases ce : x.2 5 (ix (nI i)) = a
        · rw [if_pos ce, if_pos ce]
          exact ih n1 (i + 1) _ (by omega) (by omega) (by omega)
        · rw [if_neg ce, if_neg ce, Int32.add_zero]
          exact ih n1 (i + 1) _ (by omega) (by omega) (by omega)
theorem keepersAt_eq {x y : SR} (h : RH x (y.2 0)) (hk : RK x (y.2 0)) (a : Int32) : pX3_keepersAt a y = pX1_keepersAt a x := by
  rw [pX3_keepersAt, pX1_keepersAt]
  exact keepersAt_B h hk a 6 6 0 0 (by decide) (by decide) (by decide)
