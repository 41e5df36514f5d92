-- the reads agree
theorem pl_cases (a : Int32) : (∃ i, i < 12 ∧ a = nI i) ∨ ¬ vp_in a 12 := by
  by_cases h : vp_in a 12
  · exact Or.inl (vp_in_of h (by decide))
  · exact Or.inr h
theorem isPl_no {a : Int32} (h : ¬ vp_in a 12) : pX3_isPlace a = 0 := by
  rw [pX3_isPlace, pX3_within]
  by_cases h1 : a < 0
  · rw [if_pos h1]
  · rw [if_neg h1]
    by_cases h2 : (11 : Int32) < a
    · rw [if_pos h2]
    · exfalso
      apply h
      rw [Int32.lt_iff_toInt_lt] at h1 h2
      have e0 : Int32.toInt 0 = 0 := rfl
      have e1 : Int32.toInt 11 = 11 := rfl
      exact vp_in_iff.mpr ⟨by omega, by omega⟩
theorem isPi_no {a : Int32} (h : ¬ vp_in a 12) (y : SR) : pX3_isPiano a y = 0 := by
  rw [pX3_isPiano, isPl_no h, if_pos rfl]
theorem isPl_C (a : Int32) : pX2_isPlace a = pX3_isPlace a := by
  rcases pl_cases a with ⟨i, hi, rfl⟩ | h
  · rw [isPl3 hi, pX2_isPlace, if_neg (lt12 hi).1, if_neg (lt12 hi).2]
  · rw [isPl_no h, pX2_isPlace]
    by_cases h1 : a < 0
    · rw [if_pos h1]
    · rw [if_neg h1]
      by_cases h2 : (12 : Int32) ≤ a
      · rw [if_pos h2]
      · exfalso
        apply h
        rw [Int32.lt_iff_toInt_lt] at h1
        rw [Int32.le_iff_toInt_le] at h2
        have e0 : Int32.toInt 0 = 0 := rfl
        have e1 : Int32.toInt 12 = 12 := rfl
        exact vp_in_iff.mpr ⟨by omega, by omega⟩
theorem isPi_eq {x y : SR} (h : RS x (y.2 0)) (a : Int32) : pX3_isPiano a y = pX2_has (x.1 0) a := by
  rcases pl_cases a with ⟨i, hi, rfl⟩ | hn
  · rw [isPiano3 hi (h.2.2.1 i hi), has_bt _ hi]
  · rw [isPi_no hn, has_no _ hn]
/-- a piano that is there -/
theorem pi_there {x : SR} {a : Int32} (h : ¬ pX2_has (x.1 0) a = 0) : ∃ i, i < 12 ∧ a = nI i ∧ bt (x.1 0) i = true := by
  rcases pl_cases a with ⟨i, hi, rfl⟩ | hn
  · refine ⟨i, hi, rfl, ?_⟩
    rw [has_bt _ hi] at h
    by_cases c : bt (x.1 0) i = true
    · exact c
    · rw [if_neg c] at h
      exact absurd rfl h
  · exact absurd (has_no _ hn) h
theorem win_no {a lo hi : Int32} (h : a < lo ∨ hi < a) : pX3_within a lo hi = 0 := by
  rw [pX3_within]
  by_cases c : a < lo
  · rw [if_pos c]
  · rw [if_neg c, if_pos (h.resolve_left c)]
theorem win_in {a : Int32} {n : Nat} (hi : Int32) (hn : n < 2147483647) (e : hi = nI n) (h : ¬ pX3_within a 0 hi = 0) : ∃ j, j < n + 1 ∧ a = nI j := by
  subst e
  rw [pX3_within] at h
  by_cases c : a < 0
  · rw [if_pos c] at h
    exact absurd rfl h
  · rw [if_neg c] at h
    by_cases d : nI n < a
    · rw [if_pos d] at h
      exact absurd rfl h
    · rw [Int32.lt_iff_toInt_lt] at c d
      rw [nI_toInt (by omega)] at d
      have e0 : Int32.toInt 0 = 0 := rfl
      exact vp_in_of (vp_in_iff.mpr ⟨by omega, by omega⟩) (by omega)
theorem of_eq {t : TV} {y : SR} (h : RS (t.1 0) (y.2 0)) (a b : Int32) : pX2_of a b t = pX3_of a b y := by
  rw [pX2_of, pX3_of, isPi_eq h]
  by_cases c : pX2_has ((t.1 0).1 0) a = 0
  · rw [if_pos c, if_pos c]
  · rw [if_neg c, if_neg c]
    obtain ⟨i, hi, rfl, hb⟩ := pi_there c
    obtain ⟨e1, e2, e4, e5, -, -⟩ := (h.2.2.1 i hi).2.2.2.2.1 hb
    have hix : ix (nI i) = i := ix_nI (by omega)
    by_cases c5 : b = 5
    · subst c5
      rw [if_neg (by decide), if_neg (by decide), if_neg (by decide), if_neg (by decide), if_neg (by decide), if_pos rfl, if_pos rfl, keepersAt_eq h.1 h.2.2.2.1]
    · rw [if_neg c5, if_neg c5]
      by_cases cw : pX3_within b 0 4 = 0
      · rw [if_pos cw]
        have n0 : ¬ b = 0 := fun e => by subst e; exact absurd cw (by decide)
        have n1 : ¬ b = 1 := fun e => by subst e; exact absurd cw (by decide)
        have n2 : ¬ b = 2 := fun e => by subst e; exact absurd cw (by decide)
        have n3 : ¬ b = 3 := fun e => by subst e; exact absurd cw (by decide)
        have n4 : ¬ b = 4 := fun e => by subst e; exact absurd cw (by decide)
        rw [if_neg n0, if_neg n1, if_neg n2, if_neg n3, if_neg n4]
      · rw [if_neg cw]
        obtain ⟨j, hj, rfl⟩ := win_in (n := 4) 4 (by decide) rfl cw
        rw [hix]
        have pp : ∀ k : Nat, k < 6 → pX3_pianoPart (nI i) (nI k) y = y.2 0 (12 + 6 * i + k) := fun k hk => pP k hi hk y
        rw [nI_1, pp (j + 1) (by omega)]
        rcases (show j = 0 ∨ j = 1 ∨ j = 2 ∨ j = 3 ∨ j = 4 by omega) with rfl | rfl | rfl | rfl | rfl
        · rw [if_pos (by decide)]
          exact e1
        · rw [if_neg (by decide), if_pos (by decide)]
          exact e2
        · rw [if_neg (by decide), if_neg (by decide), if_pos (by decide), pX1_coverAt, has_bt _ hi, has_bt _ hi]
          rw [(h.2.2.1 i hi).2.1]
          by_cases c2 : bt ((t.1 0).1 2) i = true
          · rw [if_pos c2, if_neg (by decide), if_pos c2]
          · rw [if_neg c2, if_pos rfl, if_neg c2]
            by_cases c1 : bt ((t.1 0).1 1) i = true
            · rw [if_pos c1, if_neg (by decide)]
            · rw [if_neg c1, if_pos rfl]
        · rw [if_neg (by decide), if_neg (by decide), if_neg (by decide), if_pos (by decide)]
          exact e4
        · rw [if_neg (by decide), if_neg (by decide), if_neg (by decide), if_neg (by decide), if_pos (by decide)]
          exact e5
theorem ofKeeper_eq {t : TV} {y : SR} (h : RS (t.1 0) (y.2 0)) (h4 : Int32.toInt (y.2 0 11) ≤ 4) (a b : Int32) : pX2_ofKeeper a b t = pX3_ofKeeper a b y := by
  have e11 : (t.1 0).1 3 = y.2 0 11 := h.1.2.2.2.2.2
  have k0 := h.2.2.2.1.1.1
  obtain ⟨m, hm, em⟩ := vp_in_of (n := 5) (vp_in_iff.mpr ⟨k0, by omega⟩) (by decide)
  rw [pX2_ofKeeper, pX3_ofKeeper, h.1.e11, e11, em, pX3_within]
  have e0 : Int32.toInt 0 = 0 := rfl
  have em1 : Int32.toInt (nI m - 1) = (m : Int) - 1 := by
    rw [t_sub (by rw [nI_toInt (by omega), show Int32.toInt 1 = 1 from rfl]; omega), nI_toInt (by omega)]
    rfl
  have emt : Int32.toInt (nI m) = m := nI_toInt (by omega)
  by_cases c : a < 0
  · rw [if_pos c, if_pos c, if_pos rfl]
  · rw [if_neg c, if_neg c]
    by_cases d : nI m ≤ a
    · rw [if_pos d, if_pos (show nI m - 1 < a by
        rw [Int32.le_iff_toInt_le, emt] at d
        rw [Int32.lt_iff_toInt_lt, em1]
        omega), if_pos rfl]
    · rw [if_neg d, if_neg (show ¬ nI m - 1 < a by
        rw [Int32.le_iff_toInt_le, emt] at d
        rw [Int32.lt_iff_toInt_lt, em1]
        omega), if_neg (show ¬ (1 : Int32) = 0 by decide)]
      rw [Int32.lt_iff_toInt_lt] at c
      rw [Int32.le_iff_toInt_le, emt] at d
      obtain ⟨k, hk, rfl⟩ := vp_in_of (x := a) (n := m) (vp_in_iff.mpr ⟨by omega, by omega⟩) (by omega)
      rw [if_pos (show nI k < 4 by rw [show (4 : Int32) = nI 4 from rfl, nI_ltI (by omega) (by omega)]; omega)]
      have kv : ∀ j, j < 5 → pX3_keeperPart (nI k) (nI j) y = (t.1 0).2 (5 + j) (ix (nI k)) := fun j hj => by
        rw [kP j (by omega) hj]
        exact h.kv (by rw [em, emt]; omega) j hj
      by_cases cw : pX3_within b 0 4 = 0
      · rw [if_pos cw]
        have n0 : ¬ b = 0 := fun e => by subst e; exact absurd cw (by decide)
        have n1 : ¬ b = 1 := fun e => by subst e; exact absurd cw (by decide)
        have n2 : ¬ b = 2 := fun e => by subst e; exact absurd cw (by decide)
        have n3 : ¬ b = 3 := fun e => by subst e; exact absurd cw (by decide)
        have n4 : ¬ b = 4 := fun e => by subst e; exact absurd cw (by decide)
        rw [if_neg n0, if_neg n1, if_neg n2, if_neg n3, if_neg n4]
      · rw [if_neg cw]
        obtain ⟨j, hj, rfl⟩ := win_in (n := 4) 4 (by decide) rfl cw
        rw [kv j hj]
        rcases (show j = 0 ∨ j = 1 ∨ j = 2 ∨ j = 3 ∨ j = 4 by omega) with rfl | rfl | rfl | rfl | rfl
        · rw [if_pos (by decide)]
        · rw [if_neg (by decide), if_pos (by decide)]
        · rw [if_neg (by decide), if_neg (by decide), if_pos (by decide)]
        · rw [if_neg (by decide), if_neg (by decide), if_neg (by decide), if_pos (by decide)]
        · rw [if_neg (by decide), if_neg (by decide), if_neg (by decide), if_neg (by decide), if_pos (by decide)]
theorem why_eq {t : TV} {y : SR} (h : RS (t.1 0) (y.2 0)) (a : Int32) : pX2_why a t = pX3_why a y := by
  rw [pX2_why, pX3_why, isPi_eq h, h.1.e11, ahead_eq h.1 (show inI (y.2 0 (ix 0)) 0 12 from h.2.1.1), keepersAt_eq h.1 h.2.2.2.1]
  by_cases c : pX2_has ((t.1 0).1 0) a = 0
  · rw [if_pos c, if_pos c]
  · rw [if_neg c, if_neg c]
    obtain ⟨i, hi, rfl, hb⟩ := pi_there c
    have hP := h.2.2.1 i hi
    rw [cov3 hi hP, has_bt _ hi, has_bt _ hi]
    by_cases c2 : bt ((t.1 0).1 2) i = true
    · rw [if_pos c2, if_neg (by decide), if_pos c2, if_neg (by decide), if_pos rfl]
    · rw [if_neg c2, if_pos rfl, if_neg c2]
      by_cases c1 : bt ((t.1 0).1 1) i = true
      · rw [if_pos c1, if_neg (by decide), if_pos rfl]
      · rw [if_neg c1, if_pos rfl, if_neg (by decide), if_neg (by decide)]
theorem worst_L {t : TV} {y : SR} (h : RS (t.1 0) (y.2 0)) : ∀ (n i : Nat) (v1 v2 : Int32), i ≤ 12 → 12 - i < n → (v1 = -6 ∨ ∃ j, j < 12 ∧ v1 = nI j ∧ v2 = pX3_worth (nI j) y) → pX2_worst_L7 n v1 v2 (nI i) t = pX3_worst_L5 n v1 (nI i) y := by
  intro n
  induction n with
  | zero => intro i v1 v2 h1 h2; omega
  | succ n ih =>
    intro i v1 v2 h1 h2 hv
    rw [pX2_worst_L7, pX3_worst_L5]
    by_cases c : i = 12
    · subst c
      rw [if_pos (show (12 : Int32) ≤ nI 12 by decide), if_pos (show (12 : Int32) ≤ nI 12 by decide)]
    · have hi : i < 12 := by omega
      rw [if_neg (lt12 hi).2, if_neg (lt12 hi).2, isPi_eq h, nI_1]
      by_cases c0 : pX2_has ((t.1 0).1 0) (nI i) = 0
      · rw [if_pos c0, if_pos c0]
        exact ih (i + 1) _ _ (by omega) (by omega) hv
      · rw [if_neg c0, if_neg c0]
        obtain ⟨i', hi', e', hb⟩ := pi_there c0
        have ei : i = i' := (nI_eq (by omega) (by omega)).mp e'
        subst ei
        obtain ⟨e1, e2, -, -, -, -⟩ := (h.2.2.1 i hi).2.2.2.2.1 hb
        have ew : ((t.1 0).2 1 (ix (nI i))) - ((t.1 0).2 2 (ix (nI i))) = pX3_worth (nI i) y := by
          rw [pX3_worth, show ix (nI i) = i from ix_nI (by omega), e1, e2]
          rw [show pX3_pianoPart (nI i) 1 y = y.2 0 (12 + 6 * i + 1) from pP 1 hi (by decide) y, show pX3_pianoPart (nI i) 2 y = y.2 0 (12 + 6 * i + 2) from pP 2 hi (by decide) y]
        rw [ew]
        by_cases c6 : v1 = -6
        · rw [if_pos c6, if_pos c6]
          exact ih (i + 1) _ _ (by omega) (by omega) (Or.inr ⟨i, hi, rfl, rfl⟩)
        · rw [if_neg c6, if_neg c6]
          obtain ⟨j, hj, rfl, rfl⟩ := hv.resolve_left c6
          by_cases cl : pX3_worth (nI j) y ≤ pX3_worth (nI i) y
          · rw [if_pos cl, if_pos cl]
            exact ih (i + 1) _ _ (by omega) (by omega) (Or.inr ⟨j, hj, rfl, rfl⟩)
          · rw [if_neg cl, if_neg cl]
            exact ih (i + 1) _ _ (by omega) (by omega) (Or.inr ⟨i, hi, rfl, rfl⟩)
theorem worst_eq {t : TV} {y : SR} (h : RS (t.1 0) (y.2 0)) : pX2_worst t = pX3_worst y := by
  rw [pX2_worst, pX3_worst, ← nI_0]
  exact worst_L h 13 0 (-6) (nI 0) (by decide) (by decide) (Or.inl rfl)
theorem rainIn_L {x y : SR} (h : RH x (y.2 0)) : ∀ (k n : Nat), k < 24 → k + 1 < n → pX3_rainIn_L6 n (pX1_hoursUntilRain_L2 (24 - k) (nI (k + 1)) x) (nI k) y = pX1_hoursUntilRain_L2 25 (nI 0) x := by
  intro k
  induction k with
  | zero =>
    intro n h1 h2
    cases n with
    | zero => omega
    | succ n =>
      cases n with
      | zero => omega
      | succ n =>
        have e : pX1_hoursUntilRain_L2 25 (nI 0) x = if pX1_rainsAfter (nI 0) x = 0 then pX1_hoursUntilRain_L2 24 (nI 1) x else nI 0 := by
          rw [pX1_hoursUntilRain_L2, if_neg (show ¬ (24 : Int32) ≤ nI 0 by decide), nI_1]
        rw [pX3_rainIn_L6, if_neg (by decide), rains_eq h, e]
        by_cases c : pX1_rainsAfter (nI 0) x = 0
        · rw [if_pos c, if_pos c, pX3_rainIn_L6, if_pos (by decide)]
        · rw [if_neg c, if_neg c, pX3_rainIn_L6, if_pos (by decide)]
  | succ k ih =>
    intro n h1 h2
    cases n with
    | zero => omega
    | succ n =>
      have e1 : nI (k + 1) + (-1) = nI k := by
        rw [← nI_pred k, Int32.sub_eq_add_neg]
      rw [pX3_rainIn_L6, if_neg (nI_pos (by omega)), rains_eq h, e1]
      have r := ih n (by omega) (by omega)
      have e : pX1_hoursUntilRain_L2 (24 - k) (nI (k + 1)) x = if pX1_rainsAfter (nI (k + 1)) x = 0 then pX1_hoursUntilRain_L2 (24 - (k + 1)) (nI (k + 1 + 1)) x else nI (k + 1) := by
        rw [show 24 - k = (24 - (k + 1)) + 1 by omega, pX1_hoursUntilRain_L2, if_neg (show ¬ (24 : Int32) ≤ nI (k + 1) by
          rw [show (24 : Int32) = nI 24 from rfl, nI_leI (by omega) (by omega)]
          omega), nI_1]
      rw [e] at r
      by_cases c : pX1_rainsAfter (nI (k + 1)) x = 0
      · rw [if_pos c] at r ⊢
        exact r
      · rw [if_neg c] at r ⊢
        exact r
theorem rainIn_eq {t : TV} {y : SR} (h : RS (t.1 0) (y.2 0)) : pX2_rainIn t = pX3_rainIn y := by
  rw [pX2_rainIn, pX3_rainIn, pX1_hoursUntilRain, ← nI_0, ← rainIn_L h.1 23 25 (by decide) (by decide)]
  rfl
theorem count_eq {t : TV} {y : SR} (h : RS (t.1 0) (y.2 0)) (h17 : t.2.1.1 0 = y.1 1) (h18 : t.2.2.1 = y.1 0) (a : Int32) : pX2_count a t = pX3_count a y := by
  have e7 : (t.1 0).1 5 = y.2 0 (ix 7) := h.1.2.1
  have e8 : (t.1 0).1 4 = y.2 0 (ix 8) := h.1.2.2.1
  have e9 : (t.1 0).1 6 = y.2 0 (ix 9) := h.1.2.2.2.1
  have e10 : (t.1 0).1 7 = y.2 0 (ix 10) := h.1.2.2.2.2.1
  have e11 : (t.1 0).1 3 = y.2 0 (ix 11) := h.1.2.2.2.2.2
  rw [pX2_count, pX3_count, with0 h, with1 h, with2 h, ahead_eq h.1 (show inI (y.2 0 (ix 0)) 0 12 from h.2.1.1), rains_eq h.1, e7, e8, e9, e10, e11, h17, h18, pX3_within]
  by_cases c : a < 10
  · rw [if_pos c, if_pos c, if_pos rfl]
  · rw [if_neg c, if_neg c]
    by_cases d : 17 ≤ a
    · rw [if_pos d, if_pos (show 16 < a by
        rw [Int32.le_iff_toInt_le, show Int32.toInt 17 = 17 from rfl] at d
        rw [Int32.lt_iff_toInt_lt, show Int32.toInt 16 = 16 from rfl]
        omega), if_pos rfl]
    · rw [if_neg d, if_neg (show ¬ 16 < a by
        rw [Int32.le_iff_toInt_le, show Int32.toInt 17 = 17 from rfl] at d
        rw [Int32.lt_iff_toInt_lt, show Int32.toInt 16 = 16 from rfl]
        omega), if_neg (by decide)]
      rw [Int32.lt_iff_toInt_lt, show Int32.toInt 10 = 10 from rfl] at c
      rw [Int32.le_iff_toInt_le, show Int32.toInt 17 = 17 from rfl] at d
      have ea : Int32.toInt (a - 10) = Int32.toInt a - 10 := t_sub (by rw [show Int32.toInt 10 = 10 from rfl]; omega)
      obtain ⟨j, hj, ej⟩ := vp_in_of (x := a - 10) (n := 7) (vp_in_iff.mpr ⟨by omega, by omega⟩) (by decide)
      rw [ej, show ix (nI j) = j from ix_nI (by omega)]
      exact h.1.1 j hj
