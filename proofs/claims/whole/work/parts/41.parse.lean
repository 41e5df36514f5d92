-- the two readers of a text, step by step
def RA (q y : SR) (L a : Nat) : Prop := L ≤ 80 ∧ a ≤ L ∧ q.1 0 = nI L ∧ y.1 1 = nI L ∧ (∀ j, j < L → q.2 0 j = y.2 5 j) ∧ q.1 1 = nI a ∧ y.1 3 = nI a
theorem nx_lt {q y : SR} {L a : Nat} (h : RA q y L a) (ha : a < L) : pX0_next q = q.2 0 a ∧ pX3_character (y.1 3) y = q.2 0 a := by
  obtain ⟨hL, -, e0, e1, ec, ea, ey⟩ := h
  have hix : ix (nI a) = a := ix_nI (by omega)
  refine ⟨?_, ?_⟩
  · rw [pX0_next, e0, ea, if_neg (nI_pos (by omega)), if_neg (by rw [nI_leI (by omega) (by omega)]; omega), if_neg (by rw [show (80 : Int32) = nI 80 from rfl, nI_leI (by omega) (by omega)]; omega), hix]
  · rw [pX3_character, e1, ey, if_neg (by rw [nI_leI (by omega) (by omega)]; omega), hix, ec a ha]
theorem nx_eq {q y : SR} {L a : Nat} (h : RA q y L a) (ha : ¬ a < L) : pX0_next q = 0 ∧ pX3_character (y.1 3) y = -1 := by
  obtain ⟨hL, hl, e0, e1, ec, ea, ey⟩ := h
  refine ⟨?_, ?_⟩
  · rw [pX0_next, e0, ea, if_neg (nI_pos (by omega)), if_pos (by rw [nI_leI (by omega) (by omega)]; omega)]
  · rw [pX3_character, e1, ey, if_pos (by rw [nI_leI (by omega) (by omega)]; omega)]
theorem nx_is {q y : SR} {L a : Nat} (h : RA q y L a) {v : Int32} (h0 : ¬ v = 0) (h1 : ¬ v = -1) : (pX0_next q = v ↔ pX3_character (y.1 3) y = v) ∧ (pX0_next q = v → a < L) := by
  by_cases ha : a < L
  · obtain ⟨e1, e2⟩ := nx_lt h ha
    rw [e1, e2]
    exact ⟨Iff.rfl, fun _ => ha⟩
  · obtain ⟨e1, e2⟩ := nx_eq h ha
    rw [e1, e2]
    exact ⟨⟨fun z => absurd z.symm h0, fun z => absurd z.symm h1⟩, fun z => absurd z.symm h0⟩
/-- what reading leaves -/
def FQ (q q' : SR) : Prop := q'.2 = q.2 ∧ ∀ i, (i = 0 ∨ 7 ≤ i) → q'.1 i = q.1 i
def FY (y y' : SR) : Prop := y'.2 = y.2 ∧ ∀ i, i < 3 → y'.1 i = y.1 i
theorem FQ.rf (q : SR) : FQ q q := ⟨rfl, fun _ _ => rfl⟩
theorem FY.rf (y : SR) : FY y y := ⟨rfl, fun _ _ => rfl⟩
theorem FQ.tr {p q r : SR} (h : FQ p q) (g : FQ q r) : FQ p r := ⟨g.1.trans h.1, fun i hi => (g.2 i hi).trans (h.2 i hi)⟩
theorem FY.tr {p q r : SR} (h : FY p q) (g : FY q r) : FY p r := ⟨g.1.trans h.1, fun i hi => (g.2 i hi).trans (h.2 i hi)⟩
theorem FQ_S (q : SR) {i : Nat} (v : Int32) (h : 1 ≤ i ∧ i < 7) : FQ q (pS q i v) := ⟨rfl, fun j hj => up_ne _ _ (by omega)⟩
theorem FY_S (y : SR) {i : Nat} (v : Int32) (h : 3 ≤ i) : FY y (pS y i v) := ⟨rfl, fun j hj => up_ne _ _ (by omega)⟩
theorem RA.mv {q y q' y' : SR} {L a a' : Nat} (h : RA q y L a) (fq : FQ q q') (fy : FY y y') (ha : a' ≤ L) (e1 : q'.1 1 = nI a') (e3 : y'.1 3 = nI a') : RA q' y' L a' := by
  obtain ⟨hL, -, e0, ey1, ec, -, -⟩ := h
  refine ⟨hL, ha, by rw [fq.2 0 (Or.inl rfl)]; exact e0, by rw [fy.2 1 (by decide)]; exact ey1, fun j hj => by rw [fq.1, fy.1]; exact ec j hj, e1, e3⟩
theorem dig_eq {q y : SR} {L a : Nat} (h : RA q y L a) : pX0_isDigit (pX0_next q) = pX3_isDigit y := by
  rw [pX3_isDigit, pX0_isDigit, pX3_within]
  by_cases ha : a < L
  · obtain ⟨e1, e2⟩ := nx_lt h ha
    rw [e1, e2]
  · obtain ⟨e1, e2⟩ := nx_eq h ha
    rw [e1, e2]
    decide
theorem dig_in {v : Int32} (h : ¬ pX0_isDigit v = 0) : 48 ≤ Int32.toInt v ∧ Int32.toInt v ≤ 57 := by
  rw [pX0_isDigit] at h
  by_cases c : v < 48
  · rw [if_pos c] at h
    exact absurd rfl h
  · rw [if_neg c] at h
    by_cases d : 57 < v
    · rw [if_pos d] at h
      exact absurd rfl h
    · rw [Int32.lt_iff_toInt_lt] at c d
      rw [show Int32.toInt 48 = 48 from rfl] at c
      rw [show Int32.toInt 57 = 57 from rfl] at d
      omega
theorem skip_eq {q y : SR} {L a : Nat} (h : RA q y L a) {v : Int32} (h0 : ¬ v = 0) (h1 : ¬ v = -1) : FQ q (pX0_skip v q).2 ∧ FY y (pX3_isNext v y).2 ∧ (∀ i, i ≠ 1 → (pX0_skip v q).2.1 i = q.1 i) ∧ (∀ i, i ≠ 3 → (pX3_isNext v y).2.1 i = y.1 i) ∧ (((pX0_skip v q).1 = 1 ∧ (pX3_isNext v y).1 = 1 ∧ a < L ∧ RA (pX0_skip v q).2 (pX3_isNext v y).2 L (a + 1)) ∨ ((pX0_skip v q).1 = 0 ∧ (pX3_isNext v y).1 = 0 ∧ RA (pX0_skip v q).2 (pX3_isNext v y).2 L a)) := by
  obtain ⟨n1, n2⟩ := nx_is h h0 h1
  have hh := h
  obtain ⟨hL, hl, e0, e1, ec, ea, ey⟩ := h
  rw [pX0_skip, pX3_isNext]
  by_cases c : pX0_next q = v
  · rw [if_pos c, if_pos (n1.mp c), ea, ey, nI_1]
    have ha := n2 c
    have fq := FQ_S q (i := 1) (nI (a + 1)) (by decide)
    have fy := FY_S y (i := 3) (nI (a + 1)) (by decide)
    exact ⟨fq, fy, fun i hi => up_ne _ _ hi, fun i hi => up_ne _ _ hi, Or.inl ⟨rfl, rfl, ha, hh.mv fq fy (by omega) (pS_at _ 1 _) (pS_at _ 3 _)⟩⟩
  · rw [if_neg c, if_neg (fun z => c (n1.mpr z))]
    have fy := FY_S y (i := 3) (y.1 3 + 0) (by decide)
    refine ⟨FQ.rf q, fy, fun i hi => rfl, fun i hi => up_ne _ _ hi, Or.inr ⟨rfl, rfl, hh.mv (FQ.rf q) fy hl ea ?_⟩⟩
    show up y.1 3 (y.1 3 + 0) 3 = _
    rw [up_same, Int32.add_zero]
    exact ey
theorem num_eq {q y : SR} {L a : Nat} (h : RA q y L a) (lim : Int32) : FQ q (pX0_readNumber lim q).2 ∧ FY y (pX3_takeNumber lim y).2 ∧ (∀ i, i ≠ 1 → i ≠ 3 → (pX0_readNumber lim q).2.1 i = q.1 i) ∧ (∀ i, i ≠ 3 → (pX3_takeNumber lim y).2.1 i = y.1 i) ∧ (((pX0_readNumber lim q).1 = 0 ∧ (pX3_takeNumber lim y).1 < 0 ∧ RA (pX0_readNumber lim q).2 (pX3_takeNumber lim y).2 L a) ∨ ((pX0_readNumber lim q).1 = 1 ∧ ¬ (pX3_takeNumber lim y).1 < 0 ∧ (pX0_readNumber lim q).2.1 3 = (pX3_takeNumber lim y).1 ∧ ∃ a', a < a' ∧ RA (pX0_readNumber lim q).2 (pX3_takeNumber lim y).2 L a')) := by
  have hh := h
  obtain ⟨hL, hl, e0, e1, ec, ea, ey⟩ := h
  rw [pX0_readNumber, pX3_takeNumber, ← dig_eq hh]
  by_cases c : pX0_isDigit (pX0_next q) = 0
  · rw [if_pos c, if_pos c]
    exact ⟨FQ.rf q, FY.rf y, fun i _ _ => rfl, fun i _ => rfl, Or.inl ⟨rfl, (show (-1 : Int32) < 0 by decide), hh⟩⟩
  · rw [if_neg c, if_neg c]
    have ha : a < L := by
      rcases Nat.lt_or_ge a L with z | z
      · exact z
      · rw [(nx_eq hh (by omega)).1] at c
        exact absurd rfl c
    obtain ⟨n1, n2⟩ := nx_lt hh ha
    rw [n1] at c
    rw [n1, n2, ea, ey, nI_1]
    obtain ⟨d1, d2⟩ := dig_in c
    have t48 : Int32.toInt (q.2 0 a - 48) = Int32.toInt (q.2 0 a) - 48 := t_sub (by rw [show Int32.toInt 48 = 48 from rfl]; omega)
    -- one digit
    generalize hD : q.2 0 a - 48 = D at t48
    have fq1 : FQ q (pS (pS q 3 D) 1 (nI (a + 1))) := (FQ_S q (i := 3) D (by decide)).tr (FQ_S _ (i := 1) _ (by decide))
    have fy1 : FY y (pS y 3 (nI (a + 1))) := FY_S y (i := 3) _ (by decide)
    have r1 : RA (pS (pS q 3 D) 1 (nI (a + 1))) (pS y 3 (nI (a + 1))) L (a + 1) := hh.mv fq1 fy1 (by omega) (pS_at _ 1 _) (pS_at _ 3 _)
    have one : FQ q (pS (pS q 3 D) 1 (nI (a + 1))) ∧ FY y (pS y 3 (nI (a + 1))) ∧ (∀ i, i ≠ 1 → i ≠ 3 → (pS (pS q 3 D) 1 (nI (a + 1))).1 i = q.1 i) ∧ (∀ i, i ≠ 3 → (pS y 3 (nI (a + 1))).1 i = y.1 i) ∧ (((1 : Int32) = 0 ∧ D < 0 ∧ RA (pS (pS q 3 D) 1 (nI (a + 1))) (pS y 3 (nI (a + 1))) L a) ∨ ((1 : Int32) = 1 ∧ ¬ D < 0 ∧ (pS (pS q 3 D) 1 (nI (a + 1))).1 3 = D ∧ ∃ a', a < a' ∧ RA (pS (pS q 3 D) 1 (nI (a + 1))) (pS y 3 (nI (a + 1))) L a')) := by
      refine ⟨fq1, fy1, fun i h1 h3 => ?_, fun i hi => up_ne _ _ hi, Or.inr ⟨rfl, ?_, rfl, a + 1, by omega, r1⟩⟩
      · show up (up q.1 3 D) 1 _ i = _
        rw [up_ne _ _ h1, up_ne _ _ h3]
      · rw [Int32.lt_iff_toInt_lt, t48, show Int32.toInt 0 = 0 from rfl]
        omega
    by_cases cz : D ≤ 0
    · rw [if_pos cz, if_pos cz]
      exact one
    · rw [if_neg cz, if_neg cz, ← dig_eq r1]
      by_cases c2 : pX0_isDigit (pX0_next (pS (pS q 3 D) 1 (nI (a + 1)))) = 0
      · rw [if_pos c2, if_pos c2]
        exact one
      · rw [if_neg c2, if_neg c2]
        have ha1 : a + 1 < L := by
          rcases Nat.lt_or_ge (a + 1) L with z | z
          · exact z
          · rw [(nx_eq r1 (by omega)).1] at c2
            exact absurd rfl c2
        obtain ⟨m1, m2⟩ := nx_lt r1 ha1
        have m2' : pX3_character (nI (a + 1)) (pS y 3 (nI (a + 1))) = (pS (pS q 3 D) 1 (nI (a + 1))).2 0 (a + 1) := m2
        rw [m1] at c2
        obtain ⟨d3, d4⟩ := dig_in c2
        rw [m1, m2', nI_1]
        generalize hC : (pS (pS q 3 D) 1 (nI (a + 1))).2 0 (a + 1) = C at d3 d4
        have t10 : Int32.toInt (10 * D) = 10 * (Int32.toInt (q.2 0 a) - 48) := by
          rw [Int32.toInt_mul, show Int32.toInt 10 = 10 from rfl, t48, Int.bmod_eq_of_le] <;> omega
        have tE : Int32.toInt (((10 * D) + C) - 48) = 10 * (Int32.toInt (q.2 0 a) - 48) + Int32.toInt C - 48 := by
          rw [t_sub (by rw [t_add (by rw [t10]; omega), t10, show Int32.toInt 48 = 48 from rfl]; omega), t_add (by rw [t10]; omega), t10, show Int32.toInt 48 = 48 from rfl]
        by_cases cl : lim < (((10 * D) + C) - 48)
        · rw [if_pos cl, if_pos cl]
          exact one
        · rw [if_neg cl, if_neg cl]
          have fq2 : FQ q (pS (pS (pS (pS q 3 D) 1 (nI (a + 1))) 3 (((10 * D) + C) - 48)) 1 (nI (a + 1 + 1))) := (fq1.tr (FQ_S _ (i := 3) _ (by decide))).tr (FQ_S _ (i := 1) _ (by decide))
          have fy2 : FY y (pS (pS y 3 (nI (a + 1))) 3 (nI (a + 1 + 1))) := fy1.tr (FY_S _ (i := 3) _ (by decide))
          refine ⟨fq2, fy2, fun i h1 h3 => ?_, fun i hi => ?_, Or.inr ⟨rfl, ?_, rfl, a + 1 + 1, by omega, hh.mv fq2 fy2 (by omega) (pS_at _ 1 _) (pS_at _ 3 _)⟩⟩
          · show up (up (up (up q.1 3 D) 1 _) 3 _) 1 _ i = _
            rw [up_ne _ _ h1, up_ne _ _ h3, up_ne _ _ h1, up_ne _ _ h3]
          · show up (up y.1 3 _) 3 _ i = _
            rw [up_ne _ _ hi, up_ne _ _ hi]
          · rw [Int32.lt_iff_toInt_lt, tE, show Int32.toInt 0 = 0 from rfl]
            rw [Int32.le_iff_toInt_le, t48, show Int32.toInt 0 = 0 from rfl] at cz
            omega
