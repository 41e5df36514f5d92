-- one order
theorem RA.sS {q y : SR} {L a : Nat} (h : RA q y L a) {i : Nat} (v : Int32) (hi : 2 ≤ i) : RA (pS q i v) y L a := by
  obtain ⟨h1, h2, h3, h4, h5, h6, h7⟩ := h
  exact ⟨h1, h2, (up_ne _ _ (by omega)).trans h3, h4, h5, (up_ne _ _ (by omega)).trans h6, h7⟩
theorem RA.sY {q y : SR} {L a : Nat} (h : RA q y L a) {i : Nat} (v : Int32) (hi : 4 ≤ i) : RA q (pS y i v) L a := by
  obtain ⟨h1, h2, h3, h4, h5, h6, h7⟩ := h
  exact ⟨h1, h2, h3, (up_ne _ _ (by omega)).trans h4, h5, h6, (up_ne _ _ (by omega)).trans h7⟩
theorem hours_L {L : Nat} : ∀ (n k m a : Nat) (q y : SR), RA q y L a → q.1 5 = y.1 5 → 2 * k ≤ a → 80 - k < n → 80 - k < m → FQ q (pX0_readHours_L2 n (nI k) q).2 ∧ FY y (pX3_takesHours_L23 m (pX3_takeNumber 23 y).1 (pX3_takeNumber 23 y).2).2 ∧ (∀ i, i ≠ 1 → i ≠ 3 → i ≠ 5 → (pX0_readHours_L2 n (nI k) q).2.1 i = q.1 i) ∧ (∀ i, i ≠ 3 → i ≠ 5 → (pX3_takesHours_L23 m (pX3_takeNumber 23 y).1 (pX3_takeNumber 23 y).2).2.1 i = y.1 i) ∧ (((pX0_readHours_L2 n (nI k) q).1 = 0 ∧ (pX3_takesHours_L23 m (pX3_takeNumber 23 y).1 (pX3_takeNumber 23 y).2).1 = 0 ∧ ∃ a', RA (pX0_readHours_L2 n (nI k) q).2 (pX3_takesHours_L23 m (pX3_takeNumber 23 y).1 (pX3_takeNumber 23 y).2).2 L a') ∨ ((pX0_readHours_L2 n (nI k) q).1 = 1 ∧ (pX3_takesHours_L23 m (pX3_takeNumber 23 y).1 (pX3_takeNumber 23 y).2).1 = 1 ∧ (pX0_readHours_L2 n (nI k) q).2.1 5 = (pX3_takesHours_L23 m (pX3_takeNumber 23 y).1 (pX3_takeNumber 23 y).2).2.1 5 ∧ ∃ a', a ≤ a' ∧ RA (pX0_readHours_L2 n (nI k) q).2 (pX3_takesHours_L23 m (pX3_takeNumber 23 y).1 (pX3_takeNumber 23 y).2).2 L a')) := by
  intro n
  induction n with
  | zero => intro k m a q y h h5 hk h1 h2; omega
  | succ n ih =>
    intro k m a q y h h5 hk h1 h2
    cases m with
    | zero => omega
    | succ m =>
      have hL := h.1
      have hl := h.2.1
      obtain ⟨u1, u2, u3, u4, u5⟩ := num_eq h 23
      rw [pX0_readHours_L2, pX3_takesHours_L23, if_neg (show ¬ (80 : Int32) ≤ nI k by rw [show (80 : Int32) = nI 80 from rfl, nI_leI (by omega) (by omega)]; omega)]
      generalize pX0_readNumber 23 q = A at u1 u3 u5 ⊢
      generalize pX3_takeNumber 23 y = B at u2 u4 u5 ⊢
      rcases u5 with ⟨e1, e2, e3⟩ | ⟨e1, e2, e3, a1, ha1, e4⟩
      · rw [if_pos e1, if_pos e2]
        exact ⟨u1, u2, fun i i1 i3 _ => u3 i i1 i3, fun i i3 _ => u4 i i3, Or.inl ⟨rfl, rfl, a, e3⟩⟩
      · rw [if_neg (show ¬ A.1 = 0 by rw [e1]; decide), if_neg e2, nI_1, e3, u3 5 (by decide) (by decide), u4 5 (by decide), h5]
        generalize hV : (y.1 5 ||| (1 <<< (B.1 &&& 31))) = V
        have f5 : FQ q (pS A.2 5 V) := u1.tr (FQ_S A.2 (i := 5) V (by decide))
        have g5 : FY y (pS B.2 5 V) := u2.tr (FY_S B.2 (i := 5) V (by decide))
        have r5 : RA (pS A.2 5 V) (pS B.2 5 V) L a1 := (e4.sS V (by decide)).sY V (by decide)
        obtain ⟨s1, s2, s3, s4, s5⟩ := skip_eq r5 (v := 44) (by decide) (by decide)
        generalize pX0_skip 44 (pS A.2 5 V) = C at s1 s3 s5 ⊢
        generalize pX3_isNext 44 (pS B.2 5 V) = D at s2 s4 s5 ⊢
        have c5 : C.2.1 5 = V := (s3 5 (by decide)).trans (pS_at _ 5 _)
        have d5 : D.2.1 5 = V := (s4 5 (by decide)).trans (pS_at _ 5 _)
        have co : ∀ i, i ≠ 1 → i ≠ 3 → i ≠ 5 → C.2.1 i = q.1 i := fun i i1 i3 i5 => (s3 i i1).trans ((up_ne _ _ i5).trans (u3 i i1 i3))
        have do' : ∀ i, i ≠ 3 → i ≠ 5 → D.2.1 i = y.1 i := fun i i3 i5 => (s4 i i3).trans ((up_ne _ _ i5).trans (u4 i i3))
        rcases s5 with ⟨w1, w2, w3, w4⟩ | ⟨w1, w2, w3⟩
        · rw [if_neg (show ¬ C.1 = 0 by rw [w1]; decide), if_neg (show ¬ D.1 = 0 by rw [w2]; decide)]
          obtain ⟨z1, z2, z3, z4, z5⟩ := ih (k + 1) m (a1 + 1) C.2 D.2 w4 (c5.trans d5.symm) (by omega) (by omega) (by omega)
          refine ⟨(f5.tr s1).tr z1, (g5.tr s2).tr z2, fun i i1 i3 i5 => (z3 i i1 i3 i5).trans (co i i1 i3 i5), fun i i3 i5 => (z4 i i3 i5).trans (do' i i3 i5), ?_⟩
          rcases z5 with ⟨y1, y2, y3⟩ | ⟨y1, y2, y3, a2, y4, y5⟩
          · exact Or.inl ⟨y1, y2, y3⟩
          · exact Or.inr ⟨y1, y2, y3, a2, by omega, y5⟩
        · rw [if_pos w1, if_pos w2]
          exact ⟨f5.tr s1, g5.tr s2, co, do', Or.inr ⟨rfl, rfl, c5.trans d5.symm, a1, by omega, w3⟩⟩
theorem tn_eq {q y : SR} {L a : Nat} (h : RA q y L a) : FQ q (pX0_readNumber 99 q).2 ∧ FY y (pX3_takesNumber y).2 ∧ (∀ i, i ≠ 1 → i ≠ 3 → (pX0_readNumber 99 q).2.1 i = q.1 i) ∧ (∀ i, i ≠ 3 → i ≠ 5 → (pX3_takesNumber y).2.1 i = y.1 i) ∧ (((pX0_readNumber 99 q).1 = 0 ∧ (pX3_takesNumber y).1 = 0 ∧ RA (pX0_readNumber 99 q).2 (pX3_takesNumber y).2 L a) ∨ ((pX0_readNumber 99 q).1 = 1 ∧ (pX3_takesNumber y).1 = 1 ∧ (pX0_readNumber 99 q).2.1 3 = (pX3_takesNumber y).2.1 5 ∧ ∃ a', a < a' ∧ RA (pX0_readNumber 99 q).2 (pX3_takesNumber y).2 L a')) := by
  obtain ⟨u1, u2, u3, u4, u5⟩ := num_eq h 99
  rw [pX3_takesNumber]
  generalize pX0_readNumber 99 q = A at u1 u3 u5 ⊢
  generalize pX3_takeNumber 99 y = B at u2 u4 u5 ⊢
  have g := u2.tr (FY_S B.2 (i := 5) B.1 (by decide))
  have o : ∀ i, i ≠ 3 → i ≠ 5 → (pS B.2 5 B.1).1 i = y.1 i := fun i i3 i5 => (up_ne _ _ i5).trans (u4 i i3)
  rcases u5 with ⟨e1, e2, e3⟩ | ⟨e1, e2, e3, a1, ha1, e4⟩
  · rw [if_pos e2]
    exact ⟨u1, g, u3, o, Or.inl ⟨e1, rfl, e3.sY _ (by decide)⟩⟩
  · rw [if_neg e2]
    exact ⟨u1, g, u3, o, Or.inr ⟨e1, rfl, e3.trans (pS_at _ 5 B.1).symm, a1, ha1, e4.sY _ (by decide)⟩⟩
/-- the same order was read -/
def ORD (q y : SR) : Prop := q.1 2 = y.1 4 ∧ (((y.1 4 = 99 ∨ y.1 4 = 107 ∨ y.1 4 = 116) ∧ q.1 3 = y.1 5) ∨ (y.1 4 = 112 ∧ q.1 3 = y.1 5 ∧ q.1 4 = y.1 6 ∧ (y.1 6 = 0 ∨ y.1 6 = 1)) ∨ (y.1 4 = 114 ∧ q.1 5 = y.1 5))
theorem ORD.mv {q y q' y' : SR} (h : ORD q y) (g : ∀ i, 2 ≤ i → i < 6 → q'.1 i = q.1 i) (k : ∀ i, 4 ≤ i → i < 7 → y'.1 i = y.1 i) : ORD q' y' := by
  unfold ORD at h ⊢
  rw [g 2 (by decide) (by decide), g 3 (by decide) (by decide), g 4 (by decide) (by decide), g 5 (by decide) (by decide), k 4 (by decide) (by decide), k 5 (by decide) (by decide), k 6 (by decide) (by decide)]
  exact h
def qN (x : SR) : SR := pS (pS (pS (pS (pS x 3 0) 4 0) 5 0) 6 0) 2 (pX0_next (pS (pS (pS (pS x 3 0) 4 0) 5 0) 6 0))
theorem body_eq {q y : SR} {L a : Nat} (h : RA q y L a) : FQ q (pX0_readBody (qN q)).2 ∧ FY y (pX3_readsOrder y).2 ∧ (((pX0_readBody (qN q)).1 = 0 ∧ (pX3_readsOrder y).1 = 0 ∧ ∃ a', RA (pX0_readBody (qN q)).2 (pX3_readsOrder y).2 L a') ∨ (¬ (pX0_readBody (qN q)).1 = 0 ∧ ¬ (pX3_readsOrder y).1 = 0 ∧ ∃ a', a < a' ∧ RA (pX0_readBody (qN q)).2 (pX3_readsOrder y).2 L a' ∧ ORD (pX0_readBody (qN q)).2 (pX3_readsOrder y).2)) := by
  have hnx : pX0_next (pS (pS (pS (pS q 3 0) 4 0) 5 0) 6 0) = pX0_next q := rfl
  have fN : FQ q (qN q) := by
    unfold qN
    exact ((((FQ_S q (i := 3) 0 (by decide)).tr (FQ_S _ (i := 4) 0 (by decide))).tr (FQ_S _ (i := 5) 0 (by decide))).tr (FQ_S _ (i := 6) 0 (by decide))).tr (FQ_S _ (i := 2) _ (by decide))
  have n2 : (qN q).1 2 = pX0_next q := pS_at _ 2 _
  have n1 : (qN q).1 1 = nI a := h.2.2.2.2.2.1
  have n5 : (qN q).1 5 = 0 := rfl
  have rN : RA (qN q) y L a := by
    unfold qN
    exact ((((h.sS 0 (by decide)).sS 0 (by decide)).sS 0 (by decide)).sS 0 (by decide)).sS _ (by decide)
  have ey := h.2.2.2.2.2.2
  have t99 := nx_is h (v := 99) (by decide) (by decide)
  have t107 := nx_is h (v := 107) (by decide) (by decide)
  have t112 := nx_is h (v := 112) (by decide) (by decide)
  have t114 := nx_is h (v := 114) (by decide) (by decide)
  have t116 := nx_is h (v := 116) (by decide) (by decide)
  rw [pX0_readBody, pX3_readsOrder, n2, n1, ey, nI_1]
  rw [ey] at t99 t107 t112 t114 t116
  generalize hch : pX3_character (nI a) y = ch at t99 t107 t112 t114 t116 ⊢
  -- both stand behind the letter
  have fq1 : FQ q (pS (qN q) 1 (nI (a + 1))) := fN.tr (FQ_S _ (i := 1) _ (by decide))
  have fy1 : FY y (pS (pS (pS y 4 ch) 6 0) 3 (nI (a + 1))) := ((FY_S y (i := 4) ch (by decide)).tr (FY_S _ (i := 6) 0 (by decide))).tr (FY_S _ (i := 3) _ (by decide))
  have r1 : a < L → RA (pS (qN q) 1 (nI (a + 1))) (pS (pS (pS y 4 ch) 6 0) 3 (nI (a + 1))) L (a + 1) := fun ha => h.mv fq1 fy1 ha (pS_at _ 1 _) (pS_at _ 3 _)
  have q2 : (pS (qN q) 1 (nI (a + 1))).1 2 = pX0_next q := n2
  have q5 : (pS (qN q) 1 (nI (a + 1))).1 5 = 0 := rfl
  have y4 : (pS (pS (pS y 4 ch) 6 0) 3 (nI (a + 1))).1 4 = ch := rfl
  have hT : a < L → ((pX0_next q = 99 ∧ ch = 99) ∨ (pX0_next q = 107 ∧ ch = 107) ∨ (pX0_next q = 116 ∧ ch = 116)) → FQ q (pX0_readNumber 99 (pS (qN q) 1 (nI (a + 1)))).2 ∧ FY y (pX3_takesNumber (pS (pS (pS y 4 ch) 6 0) 3 (nI (a + 1)))).2 ∧ (((pX0_readNumber 99 (pS (qN q) 1 (nI (a + 1)))).1 = 0 ∧ (pX3_takesNumber (pS (pS (pS y 4 ch) 6 0) 3 (nI (a + 1)))).1 = 0 ∧ ∃ a', RA (pX0_readNumber 99 (pS (qN q) 1 (nI (a + 1)))).2 (pX3_takesNumber (pS (pS (pS y 4 ch) 6 0) 3 (nI (a + 1)))).2 L a') ∨ (¬ (pX0_readNumber 99 (pS (qN q) 1 (nI (a + 1)))).1 = 0 ∧ ¬ (pX3_takesNumber (pS (pS (pS y 4 ch) 6 0) 3 (nI (a + 1)))).1 = 0 ∧ ∃ a', a < a' ∧ RA (pX0_readNumber 99 (pS (qN q) 1 (nI (a + 1)))).2 (pX3_takesNumber (pS (pS (pS y 4 ch) 6 0) 3 (nI (a + 1)))).2 L a' ∧ ORD (pX0_readNumber 99 (pS (qN q) 1 (nI (a + 1)))).2 (pX3_takesNumber (pS (pS (pS y 4 ch) 6 0) 3 (nI (a + 1)))).2)) := by
    intro ha hk
    obtain ⟨u1, u2, u3, u4, u5⟩ := tn_eq (r1 ha)
    generalize pX0_readNumber 99 (pS (qN q) 1 (nI (a + 1))) = A at u1 u3 u5 ⊢
    generalize pX3_takesNumber (pS (pS (pS y 4 ch) 6 0) 3 (nI (a + 1))) = B at u2 u4 u5 ⊢
    refine ⟨fq1.tr u1, fy1.tr u2, ?_⟩
    rcases u5 with ⟨e1, e2, e3⟩ | ⟨e1, e2, e3, a1, ha1, e4⟩
    · exact Or.inl ⟨e1, e2, _, e3⟩
    · have b4 : B.2.1 4 = ch := (u4 4 (by decide) (by decide)).trans y4
      have a2 : A.2.1 2 = pX0_next q := (u3 2 (by decide) (by decide)).trans q2
      refine Or.inr ⟨by rw [e1]; decide, by rw [e2]; decide, a1, by omega, e4, ?_, Or.inl ⟨?_, e3⟩⟩
      · rw [a2, b4]
        rcases hk with ⟨z1, z2⟩ | ⟨z1, z2⟩ | ⟨z1, z2⟩ <;> rw [z1, z2]
      · rw [b4]
        rcases hk with ⟨-, z⟩ | ⟨-, z⟩ | ⟨-, z⟩
        · exact Or.inl z
        · exact Or.inr (Or.inl z)
        · exact Or.inr (Or.inr z)
  by_cases c99 : pX0_next q = 99
  · rw [if_pos c99, if_pos (t99.1.mp c99)]
    exact hT (t99.2 c99) (Or.inl ⟨c99, t99.1.mp c99⟩)
  · rw [if_neg c99, if_neg (fun z => c99 (t99.1.mpr z))]
    by_cases c107 : pX0_next q = 107
    · rw [if_pos c107, if_pos (t107.1.mp c107)]
      exact hT (t107.2 c107) (Or.inr (Or.inl ⟨c107, t107.1.mp c107⟩))
    · rw [if_neg c107, if_neg (fun z => c107 (t107.1.mpr z))]
      by_cases c112 : pX0_next q = 112
      · rw [if_pos c112, if_pos (t112.1.mp c112)]
        have hc := t112.1.mp c112
        obtain ⟨u1, u2, u3, u4, u5⟩ := tn_eq (r1 (t112.2 c112))
        generalize pX0_readNumber 99 (pS (qN q) 1 (nI (a + 1))) = A at u1 u3 u5 ⊢
        generalize pX3_takesNumber (pS (pS (pS y 4 ch) 6 0) 3 (nI (a + 1))) = B at u2 u4 u5 ⊢
        rcases u5 with ⟨e1, e2, e3⟩ | ⟨e1, e2, e3, a1, ha1, e4⟩
        · rw [if_pos e1, if_pos e2]
          exact ⟨fq1.tr u1, (fy1.tr u2).tr (FY_S _ (i := 6) 0 (by decide)), Or.inl ⟨rfl, e2, _, e3.sY 0 (by decide)⟩⟩
        · rw [if_neg (show ¬ A.1 = 0 by rw [e1]; decide), if_neg (show ¬ B.1 = 0 by rw [e2]; decide)]
          obtain ⟨s1, s2, s3, s4, s5⟩ := skip_eq e4 (v := 99) (by decide) (by decide)
          generalize pX0_skip 99 A.2 = C at s1 s3 s5 ⊢
          generalize pX3_isNext 99 B.2 = D at s2 s4 s5 ⊢
          have d4 : D.2.1 4 = 112 := (s4 4 (by decide)).trans ((u4 4 (by decide) (by decide)).trans (y4.trans hc))
          have c2 : C.2.1 2 = 112 := (s3 2 (by decide)).trans ((u3 2 (by decide) (by decide)).trans (q2.trans c112))
          have c3 : C.2.1 3 = D.2.1 5 := (s3 3 (by decide)).trans (e3.trans (s4 5 (by decide)).symm)
          rcases s5 with ⟨w1, w2, w3, w4⟩ | ⟨w1, w2, w3⟩
          · rw [if_neg (show ¬ C.1 = 0 by rw [w1]; decide), if_neg (show ¬ D.1 = 0 by rw [w2]; decide)]
            exact ⟨((fq1.tr u1).tr s1).tr (FQ_S _ (i := 4) 1 (by decide)), ((fy1.tr u2).tr s2).tr (FY_S _ (i := 6) 1 (by decide)), Or.inr ⟨(show ¬ (1 : Int32) = 0 by decide), (show ¬ B.1 = 0 by rw [e2]; decide), a1 + 1, by omega, (w4.sS 1 (by decide)).sY 1 (by decide), c2.trans d4.symm, Or.inr (Or.inl ⟨d4, c3, rfl, Or.inr rfl⟩)⟩⟩
          · rw [if_pos w1, if_pos w2]
            exact ⟨((fq1.tr u1).tr s1).tr (FQ_S _ (i := 4) 0 (by decide)), ((fy1.tr u2).tr s2).tr (FY_S _ (i := 6) 0 (by decide)), Or.inr ⟨(show ¬ (1 : Int32) = 0 by decide), (show ¬ B.1 = 0 by rw [e2]; decide), a1, by omega, (w3.sS 0 (by decide)).sY 0 (by decide), c2.trans d4.symm, Or.inr (Or.inl ⟨d4, c3, rfl, Or.inl rfl⟩)⟩⟩
      · rw [if_neg c112, if_neg (fun z => c112 (t112.1.mpr z))]
        by_cases c114 : pX0_next q = 114
        · rw [if_pos c114, if_pos (t114.1.mp c114)]
          have hc := t114.1.mp c114
          rw [pX3_takesHours, pX0_readHours]
          have r2 : RA (pS (qN q) 1 (nI (a + 1))) (pS (pS (pS (pS y 4 ch) 6 0) 3 (nI (a + 1))) 5 0) L (a + 1) := (r1 (t114.2 c114)).sY 0 (by decide)
          have fy2 : FY y (pS (pS (pS (pS y 4 ch) 6 0) 3 (nI (a + 1))) 5 0) := fy1.tr (FY_S _ (i := 5) 0 (by decide))
          have y5 : (pS (pS (pS (pS y 4 ch) 6 0) 3 (nI (a + 1))) 5 0).1 5 = 0 := rfl
          have y4' : (pS (pS (pS (pS y 4 ch) 6 0) 3 (nI (a + 1))) 5 0).1 4 = ch := rfl
          obtain ⟨s1, s2, s3, s4, s5⟩ := skip_eq r2 (v := 45) (by decide) (by decide)
          generalize pX0_skip 45 (pS (qN q) 1 (nI (a + 1))) = C at s1 s3 s5 ⊢
          generalize pX3_isNext 45 (pS (pS (pS (pS y 4 ch) 6 0) 3 (nI (a + 1))) 5 0) = D at s2 s4 s5 ⊢
          have c2 : C.2.1 2 = 114 := (s3 2 (by decide)).trans (q2.trans c114)
          have d4 : D.2.1 4 = 114 := (s4 4 (by decide)).trans (y4'.trans hc)
          have c5 : C.2.1 5 = 0 := (s3 5 (by decide)).trans q5
          have d5 : D.2.1 5 = 0 := (s4 5 (by decide)).trans y5
          rcases s5 with ⟨w1, w2, w3, w4⟩ | ⟨w1, w2, w3⟩
          · rw [if_neg (show ¬ C.1 = 0 by rw [w1]; decide), if_neg (show ¬ D.1 = 0 by rw [w2]; decide)]
            exact ⟨fq1.tr s1, fy2.tr s2, Or.inr ⟨(show ¬ (1 : Int32) = 0 by decide), (show ¬ (1 : Int32) = 0 by decide), a + 1 + 1, by omega, w4, c2.trans d4.symm, Or.inr (Or.inr ⟨d4, c5.trans d5.symm⟩)⟩⟩
          · rw [if_pos w1, if_pos w2]
            obtain ⟨z1, z2, z3, z4, z5⟩ := hours_L 81 0 82 (a + 1) C.2 D.2 w3 (c5.trans d5.symm) (by omega) (by decide) (by decide)
            rw [nI_0] at z1 z3 z5
            generalize pX0_readHours_L2 81 0 C.2 = E at z1 z3 z5 ⊢
            generalize pX3_takesHours_L23 82 (pX3_takeNumber 23 D.2).1 (pX3_takeNumber 23 D.2).2 = F at z2 z4 z5 ⊢
            rcases z5 with ⟨y1, y2, y3⟩ | ⟨y1, y2, y3, a2, y6, y7⟩
            · rw [if_pos y1]
              exact ⟨(fq1.tr s1).tr z1, (fy2.tr s2).tr z2, Or.inl ⟨rfl, y2, y3⟩⟩
            · rw [if_neg (show ¬ E.1 = 0 by rw [y1]; decide)]
              have e4 : F.2.1 4 = 114 := (z4 4 (by decide) (by decide)).trans d4
              exact ⟨(fq1.tr s1).tr z1, (fy2.tr s2).tr z2, Or.inr ⟨(show ¬ (1 : Int32) = 0 by decide), (by rw [y2]; decide), a2, by omega, y7, ((z3 2 (by decide) (by decide) (by decide)).trans c2).trans e4.symm, Or.inr (Or.inr ⟨e4, y3⟩)⟩⟩
        · rw [if_neg c114, if_neg (fun z => c114 (t114.1.mpr z))]
          by_cases c116 : pX0_next q = 116
          · rw [if_pos c116, if_pos (t116.1.mp c116)]
            exact hT (t116.2 c116) (Or.inr (Or.inr ⟨c116, t116.1.mp c116⟩))
          · rw [if_neg c116, if_neg (fun z => c116 (t116.1.mpr z)), nI_pred]
            have fy3 : FY y (pS (pS (pS (pS y 4 ch) 6 0) 3 (nI (a + 1))) 3 (nI a)) := fy1.tr (FY_S _ (i := 3) _ (by decide))
            exact ⟨fN, fy3, Or.inl ⟨rfl, rfl, a, h.mv fN fy3 h.2.1 n1 (pS_at _ 3 _)⟩⟩
