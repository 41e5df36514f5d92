def EQ (x y : SR) : Prop := x.1 1 = y.1 1 ∧ x.1 3 = y.1 3 ∧ x.2 5 = y.2 5
theorem EQ_S {x y : SR} (h : EQ x y) {q : Nat} (v w : Int32) (h1 : q ≠ 1) (h3 : q ≠ 3) : EQ (pS x q v) (pS y q w) := by
  unfold EQ
  rw [pS_ne _ _ (Ne.symm h1), pS_ne _ _ (Ne.symm h1), pS_ne _ _ (Ne.symm h3), pS_ne _ _ (Ne.symm h3)]
  exact h
theorem EQ_A {x y : SR} (h : EQ x y) {v w : Int32} (e : v = w) : EQ (pS x 3 v) (pS y 3 w) := by
  subst e
  unfold EQ
  rw [pS_ne _ _ (show (1 : Nat) ≠ 3 by decide), pS_ne _ _ (show (1 : Nat) ≠ 3 by decide), pS_at, pS_at]
  exact ⟨h.1, rfl, h.2.2⟩
theorem E_char {x y : SR} (h : EQ x y) (a : Int32) : pX3_character a x = pX3_character a y := by
  rw [pX3_character, pX3_character, h.1, h.2.2]
theorem E_char' {x y : SR} (h : EQ x y) : pX3_character (x.1 3) x = pX3_character (y.1 3) y := by
  rw [E_char h, h.2.1]
theorem E_isNext {x y : SR} (h : EQ x y) (c : Int32) : (pX3_isNext c x).1 = (pX3_isNext c y).1 ∧ EQ (pX3_isNext c x).2 (pX3_isNext c y).2 := by
  rw [pX3_isNext, pX3_isNext, E_char' h]
  by_cases h1 : pX3_character (y.1 3) y = c
  · rw [if_pos h1, if_pos h1]
    exact ⟨rfl, EQ_A h (by rw [h.2.1])⟩
  · rw [if_neg h1, if_neg h1]
    exact ⟨rfl, EQ_A h (by rw [h.2.1])⟩
theorem E_isDigit {x y : SR} (h : EQ x y) : pX3_isDigit x = pX3_isDigit y := by
  rw [pX3_isDigit, pX3_isDigit, E_char' h]
theorem E_takeNumber {x y : SR} (h : EQ x y) (a1 : Int32) : (pX3_takeNumber a1 x).1 = (pX3_takeNumber a1 y).1 ∧ EQ (pX3_takeNumber a1 x).2 (pX3_takeNumber a1 y).2 := by
  have h2 : EQ (pS x 3 (x.1 3 + 1)) (pS y 3 (y.1 3 + 1)) := EQ_A h (by rw [h.2.1])
  have h3 : EQ (pS (pS x 3 (x.1 3 + 1)) 3 ((x.1 3 + 1) + 1)) (pS (pS y 3 (y.1 3 + 1)) 3 ((y.1 3 + 1) + 1)) := EQ_A h2 (by rw [h.2.1])
  have e1 := E_isDigit h
  have e2 := E_char' h
  have e3 := E_isDigit h2
  have e4 : pX3_character (x.1 3 + 1) (pS x 3 (x.1 3 + 1)) = pX3_character (y.1 3 + 1) (pS y 3 (y.1 3 + 1)) := by
    rw [E_char h2, h.2.1]
  rw [pX3_takeNumber, pX3_takeNumber, e1, e2, e3, e4]
  by_cases d1 : pX3_isDigit y = 0
  · simp only [if_pos d1]
    exact ⟨trivial, h⟩
  · simp only [if_neg d1]
    by_cases d2 : (pX3_character (y.1 3) y) - 48 ≤ 0
    · simp only [if_pos d2]
      exact ⟨trivial, h2⟩
    · simp only [if_neg d2]
      by_cases d3 : pX3_isDigit (pS y 3 (y.1 3 + 1)) = 0
      · simp only [if_pos d3]
        exact ⟨trivial, h2⟩
      · simp only [if_neg d3]
        by_cases d4 : a1 < (((10 * ((pX3_character (y.1 3) y) - 48)) + (pX3_character ((y.1 3) + 1) (pS y 3 ((y.1 3) + 1)))) - 48)
        · simp only [if_pos d4]
          exact ⟨trivial, h2⟩
        · simp only [if_neg d4]
          exact ⟨trivial, h3⟩
theorem E_takesNumber {x y : SR} (h : EQ x y) : (pX3_takesNumber x).1 = (pX3_takesNumber y).1 ∧ EQ (pX3_takesNumber x).2 (pX3_takesNumber y).2 := by
  have k := E_takeNumber h 99
  rw [pX3_takesNumber, pX3_takesNumber, k.1]
  by_cases d : (pX3_takeNumber 99 y).1 < 0
  · simp only [if_pos d]
    exact ⟨trivial, EQ_S k.2 _ _ (by decide) (by decide)⟩
  · simp only [if_neg d]
    exact ⟨trivial, EQ_S k.2 _ _ (by decide) (by decide)⟩
theorem E_takesHours_L : ∀ (n : Nat) (v1 : Int32) (x y : SR), EQ x y → (pX3_takesHours_L23 n v1 x).1 = (pX3_takesHours_L23 n v1 y).1 ∧ EQ (pX3_takesHours_L23 n v1 x).2 (pX3_takesHours_L23 n v1 y).2 := by
  intro n
  induction n with
  | zero => intro v1 x y h; rw [pX3_takesHours_L23, pX3_takesHours_L23]; exact ⟨rfl, h⟩
  | succ n ih =>
    intro v1 x y h
    rw [pX3_takesHours_L23, pX3_takesHours_L23]
    have k0 : EQ (pS x 5 ((x.1 5) ||| (1 <<< (v1 &&& 31)))) (pS y 5 ((y.1 5) ||| (1 <<< (v1 &&& 31)))) := EQ_S h _ _ (by decide) (by decide)
    have k1 := E_isNext k0 44
    by_cases d1 : v1 < 0
    · simp only [if_pos d1]
      exact ⟨trivial, h⟩
    · simp only [if_neg d1]
      rw [k1.1]
      by_cases d2 : (pX3_isNext 44 (pS y 5 ((y.1 5) ||| (1 <<< (v1 &&& 31))))).1 = 0
      · simp only [if_pos d2]
        exact ⟨trivial, k1.2⟩
      · simp only [if_neg d2]
        have k2 := E_takeNumber k1.2 23
        rw [k2.1]
        exact ih _ _ _ k2.2
theorem E_takesHours {x y : SR} (h : EQ x y) : (pX3_takesHours x).1 = (pX3_takesHours y).1 ∧ EQ (pX3_takesHours x).2 (pX3_takesHours y).2 := by
  have k1 := E_isNext (EQ_S h (q := 5) 0 0 (by decide) (by decide)) 45
  have k2 := E_takeNumber k1.2 23
  rw [pX3_takesHours, pX3_takesHours, k1.1, k2.1]
  by_cases d : (pX3_isNext 45 (pS y 5 0)).1 = 0
  · simp only [if_pos d]
    exact E_takesHours_L _ _ _ _ k2.2
  · simp only [if_neg d]
    exact ⟨trivial, k1.2⟩
theorem E_readsOrder {x y : SR} (h : EQ x y) : (pX3_readsOrder x).1 = (pX3_readsOrder y).1 ∧ EQ (pX3_readsOrder x).2 (pX3_readsOrder y).2 := by
  have e := E_char' h
  have M : EQ (pS (pS (pS x 4 (pX3_character (y.1 3) y)) 6 0) 3 ((x.1 3) + 1)) (pS (pS (pS y 4 (pX3_character (y.1 3) y)) 6 0) 3 ((y.1 3) + 1)) := EQ_A (EQ_S (EQ_S h _ _ (by decide) (by decide)) _ _ (by decide) (by decide)) (by rw [h.2.1])
  have kn := E_takesNumber M
  have kh := E_takesHours M
  have kc := E_isNext kn.2 99
  rw [pX3_readsOrder, pX3_readsOrder, e, kn.1, kc.1]
  by_cases d_1 : (pX3_character (y.1 3) y) = 99
  · simp only [if_pos d_1]
    exact ⟨trivial, kn.2⟩
  · simp only [if_neg d_1]
    by_cases d_2 : (pX3_character (y.1 3) y) = 107
    · simp only [if_pos d_2]
      exact ⟨trivial, kn.2⟩
    · simp only [if_neg d_2]
      by_cases d_3 : (pX3_character (y.1 3) y) = 112
      · simp only [if_pos d_3]
        by_cases d_4 : ((pX3_takesNumber (pS (pS (pS y 4 (pX3_character (y.1 3) y)) 6 0) 3 ((y.1 3) + 1))).1) = 0
        · simp only [if_pos d_4]
          exact ⟨trivial, EQ_S kn.2 _ _ (by decide) (by decide)⟩
        · simp only [if_neg d_4]
          by_cases d_5 : ((pX3_isNext 99 (pX3_takesNumber (pS (pS (pS y 4 (pX3_character (y.1 3) y)) 6 0) 3 ((y.1 3) + 1))).2).1) = 0
          · simp only [if_pos d_5]
            exact ⟨trivial, EQ_S kc.2 _ _ (by decide) (by decide)⟩
          · simp only [if_neg d_5]
            exact ⟨trivial, EQ_S kc.2 _ _ (by decide) (by decide)⟩
      · simp only [if_neg d_3]
        by_cases d_6 : (pX3_character (y.1 3) y) = 114
        · simp only [if_pos d_6]
          exact kh
        · simp only [if_neg d_6]
          by_cases d_7 : (pX3_character (y.1 3) y) = 116
          · simp only [if_pos d_7]
            exact ⟨trivial, kn.2⟩
          · simp only [if_neg d_7]
            exact ⟨trivial, EQ_A M (by rw [h.2.1])⟩
theorem E_L5 : ∀ (n : Nat) (x y : SR), EQ x y → (pX3_findFault_L5 n x).1 = (pX3_findFault_L5 n y).1 := by
  intro n
  induction n with
  | zero => intro x y h; rw [pX3_findFault_L5, pX3_findFault_L5]
  | succ n ih =>
    intro x y h
    have k := E_readsOrder h
    have k1 := E_isNext k.2 59
    rw [pX3_findFault_L5, pX3_findFault_L5, k.1, k.2.1, k.2.2.1, k1.1, k1.2.2.1]
    by_cases d1 : (pX3_readsOrder y).1 = 0
    · simp only [if_pos d1]
    · simp only [if_neg d1]
      by_cases d2 : (pX3_readsOrder y).2.1 3 = (pX3_readsOrder y).2.1 1
      · simp only [if_pos d2]
      · simp only [if_neg d2]
        by_cases d3 : (pX3_isNext 59 (pX3_readsOrder y).2).1 = 0
        · simp only [if_pos d3]
        · simp only [if_neg d3]
          exact ih _ _ k1.2
-- what the reader leaves as it is
def FR (x y : SR) : Prop := y.2 = x.2 ∧ ∀ q, q < 3 → y.1 q = x.1 q
theorem FR.rf (x : SR) : FR x x := ⟨rfl, fun _ _ => rfl⟩
theorem FR.tr {x y z : SR} (h1 : FR x y) (h2 : FR y z) : FR x z := ⟨h2.1.trans h1.1, fun q hq => (h2.2 q hq).trans (h1.2 q hq)⟩
theorem FR_S (x : SR) {q : Nat} (v : Int32) (h : 3 ≤ q) : FR x (pS x q v) := ⟨rfl, fun k hk => pS_ne _ _ (by omega)⟩
theorem F_isNext (c : Int32) (x : SR) : FR x (pX3_isNext c x).2 := by
  rw [pX3_isNext]
  by_cases d : pX3_character (x.1 3) x = c
  · rw [if_pos d]; exact FR_S _ _ (by decide)
  · rw [if_neg d]; exact FR_S _ _ (by decide)
theorem F_takeNumber (a1 : Int32) (x : SR) : FR x (pX3_takeNumber a1 x).2 := by
  rw [pX3_takeNumber]
  by_cases d_89 : (pX3_isDigit x) = 0
  · rw [if_pos d_89]
    exact FR.rf _
  · rw [if_neg d_89]
    by_cases d_90 : ((pX3_character (x.1 3) x) - 48) ≤ 0
    · rw [if_pos d_90]
      exact FR_S _ _ (by decide)
    · rw [if_neg d_90]
      by_cases d_91 : (pX3_isDigit (pS x 3 ((x.1 3) + 1))) = 0
      · rw [if_pos d_91]
        exact FR_S _ _ (by decide)
      · rw [if_neg d_91]
        by_cases d_92 : a1 < (((10 * ((pX3_character (x.1 3) x) - 48)) + (pX3_character ((x.1 3) + 1) (pS x 3 ((x.1 3) + 1)))) - 48)
        · rw [if_pos d_92]
          exact FR_S _ _ (by decide)
        · rw [if_neg d_92]
          exact (FR_S _ _ (by decide)).tr (FR_S _ _ (by decide))
theorem F_takesNumber (x : SR) : FR x (pX3_takesNumber x).2 := by
  rw [pX3_takesNumber]
  by_cases d_93 : ((pX3_takeNumber 99 x).1) < 0
  · rw [if_pos d_93]
    exact (F_takeNumber _ _).tr (FR_S _ _ (by decide))
  · rw [if_neg d_93]
    exact (F_takeNumber _ _).tr (FR_S _ _ (by decide))
theorem F_takesHours_L : ∀ (n : Nat) (v1 : Int32) (x : SR), FR x (pX3_takesHours_L23 n v1 x).2 := by
  intro n
  induction n with
  | zero => intro v1 x; rw [pX3_takesHours_L23]; exact FR.rf _
  | succ n ih =>
    intro v1 x
    rw [pX3_takesHours_L23]
    by_cases d_94 : v1 < 0
    · rw [if_pos d_94]
      exact FR.rf _
    · rw [if_neg d_94]
      by_cases d_95 : ((pX3_isNext 44 (pS x 5 ((x.1 5) ||| (1 <<< (v1 &&& 31))))).1) = 0
      · rw [if_pos d_95]
        exact (FR_S _ _ (by decide)).tr (F_isNext _ _)
      · rw [if_neg d_95]
        exact (((FR_S _ _ (by decide)).tr (F_isNext _ _)).tr (F_takeNumber _ _)).tr (ih _ _)
theorem F_takesHours (x : SR) : FR x (pX3_takesHours x).2 := by
  rw [pX3_takesHours]
  by_cases d_96 : ((pX3_isNext 45 (pS x 5 0)).1) = 0
  · rw [if_pos d_96]
    exact (((FR_S _ _ (by decide)).tr (F_isNext _ _)).tr (F_takeNumber _ _)).tr (F_takesHours_L _ _ _)
  · rw [if_neg d_96]
    exact (FR_S _ _ (by decide)).tr (F_isNext _ _)
theorem F_readsOrder (x : SR) : FR x (pX3_readsOrder x).2 := by
  have M : FR x (pS (pS (pS x 4 (pX3_character (x.1 3) x)) 6 0) 3 ((x.1 3) + 1)) := ((FR_S _ _ (by decide)).tr (FR_S _ _ (by decide))).tr (FR_S _ _ (by decide))
  rw [pX3_readsOrder]
  by_cases d_97 : (pX3_character (x.1 3) x) = 99
  · rw [if_pos d_97]
    exact M.tr (F_takesNumber _)
  · rw [if_neg d_97]
    by_cases d_98 : (pX3_character (x.1 3) x) = 107
    · rw [if_pos d_98]
      exact M.tr (F_takesNumber _)
    · rw [if_neg d_98]
      by_cases d_99 : (pX3_character (x.1 3) x) = 112
      · rw [if_pos d_99]
        by_cases d_100 : ((pX3_takesNumber (pS (pS (pS x 4 (pX3_character (x.1 3) x)) 6 0) 3 ((x.1 3) + 1))).1) = 0
        · rw [if_pos d_100]
          exact (M.tr (F_takesNumber _)).tr (FR_S _ _ (by decide))
        · rw [if_neg d_100]
          by_cases d_101 : ((pX3_isNext 99 (pX3_takesNumber (pS (pS (pS x 4 (pX3_character (x.1 3) x)) 6 0) 3 ((x.1 3) + 1))).2).1) = 0
          · rw [if_pos d_101]
            exact ((M.tr (F_takesNumber _)).tr (F_isNext _ _)).tr (FR_S _ _ (by decide))
          · rw [if_neg d_101]
            exact ((M.tr (F_takesNumber _)).tr (F_isNext _ _)).tr (FR_S _ _ (by decide))
      · rw [if_neg d_99]
        by_cases d_102 : (pX3_character (x.1 3) x) = 114
        · rw [if_pos d_102]
          exact M.tr (F_takesHours _)
        · rw [if_neg d_102]
          by_cases d_103 : (pX3_character (x.1 3) x) = 116
          · rw [if_pos d_103]
            exact M.tr (F_takesNumber _)
          · rw [if_neg d_103]
            exact M.tr (FR_S _ _ (by decide))
theorem F_L5 : ∀ (n : Nat) (x : SR), FR x (pX3_findFault_L5 n x).2 := by
  intro n
  induction n with
  | zero => intro x; rw [pX3_findFault_L5]; exact FR.rf _
  | succ n ih =>
    intro x
    rw [pX3_findFault_L5]
    by_cases d_104 : ((pX3_readsOrder x).1) = 0
    · rw [if_pos d_104]
      exact F_readsOrder _
    · rw [if_neg d_104]
      by_cases d_105 : ((pX3_readsOrder x).2.1 3) = ((pX3_readsOrder x).2.1 1)
      · rw [if_pos d_105]
        exact F_readsOrder _
      · rw [if_neg d_105]
        by_cases d_106 : ((pX3_isNext 59 (pX3_readsOrder x).2).1) = 0
        · rw [if_pos d_106]
          exact (F_readsOrder _).tr (F_isNext _ _)
        · rw [if_neg d_106]
          exact ((F_readsOrder _).tr (F_isNext _ _)).tr (ih _)
theorem F_findFault (x : SR) : FR x (pX3_findFault x).2 := by
  rw [pX3_findFault]
  exact (FR_S _ _ (by decide)).tr (F_L5 _ _)
