-- the hours of an order lie within a day
def H24 (q : SR) : Prop := ∀ i, 24 ≤ i → i < 32 → bt (q.1 5) i = false
theorem H24.of {q q' : SR} (h : H24 q) (e : q'.1 5 = q.1 5) : H24 q' := fun i h1 h2 => by
  rw [e]
  exact h i h1 h2
theorem H24.in {q : SR} (h : H24 q) : inI (q.1 5) 0 16777215 := by
  have hn : (q.1 5).toBitVec.toNat < 2 ^ 24 := by
    apply Nat.lt_pow_two_of_testBit
    intro i hi
    rcases Nat.lt_or_ge i 32 with c | c
    · exact h i hi c
    · exact b_big (x := q.1 5) c
  have e : Int32.toInt (q.1 5) = ((q.1 5).toBitVec.toNat : Int) := by
    show (q.1 5).toBitVec.toInt = _
    rw [BitVec.toInt_eq_toNat_cond, if_pos (by omega)]
  unfold inI
  rw [e]
  omega
theorem skip_5 (v : Int32) (q : SR) : (pX0_skip v q).2.1 5 = q.1 5 := by
  rw [pX0_skip]
  by_cases c : pX0_next q = v
  · rw [if_pos c]
    exact pS_ne q _ (show (5 : Nat) ≠ 1 by decide)
  · rw [if_neg c]
theorem num_5 (lim : Int32) (q : SR) : (pX0_readNumber lim q).2.1 5 = q.1 5 := by
  rw [pX0_readNumber]
  by_cases c : pX0_isDigit (pX0_next q) = 0
  · rw [if_pos c]
  · rw [if_neg c]
    by_cases d : (pX0_next q) - 48 ≤ 0
    · rw [if_pos d]
      rfl
    · rw [if_neg d]
      generalize (pX0_next q) - 48 = D
      generalize hX : pS (pS q 3 D) 1 (q.1 1 + 1) = X
      have hx : X.1 5 = q.1 5 := by
        rw [← hX]
        rfl
      by_cases e : pX0_isDigit (pX0_next X) = 0
      · rw [if_pos e]
        exact hx
      · rw [if_neg e]
        by_cases f : lim < (((10 * D) + (pX0_next X)) - 48)
        · rw [if_pos f]
          exact hx
        · rw [if_neg f]
          exact hx
theorem num_v (q : SR) (h : ¬ (pX0_readNumber 23 q).1 = 0) : ∃ d, d < 24 ∧ (pX0_readNumber 23 q).2.1 3 = nI d := by
  rw [pX0_readNumber] at h ⊢
  by_cases c : pX0_isDigit (pX0_next q) = 0
  · rw [if_pos c] at h
    exact absurd rfl h
  · rw [if_neg c]
    clear h
    obtain ⟨d1, d2⟩ := dig_in c
    have t48 : Int32.toInt (pX0_next q - 48) = Int32.toInt (pX0_next q) - 48 := t_sub (by rw [show Int32.toInt 48 = 48 from rfl]; omega)
    have one : ∃ d, d < 24 ∧ pX0_next q - 48 = nI d := vp_in_of (vp_in_iff.mpr ⟨by omega, by omega⟩) (by decide)
    generalize hD : (pX0_next q) - 48 = D at t48 one
    generalize hX : pS (pS q 3 D) 1 (q.1 1 + 1) = X
    have hx : X.1 3 = D := by
      rw [← hX]
      rfl
    by_cases d : D ≤ 0
    · rw [if_pos d]
      show ∃ d, d < 24 ∧ X.1 3 = nI d
      rw [hx]
      exact one
    · rw [if_neg d]
      by_cases e : pX0_isDigit (pX0_next X) = 0
      · rw [if_pos e]
        show ∃ d, d < 24 ∧ X.1 3 = nI d
        rw [hx]
        exact one
      · rw [if_neg e]
        obtain ⟨d3, d4⟩ := dig_in e
        generalize pX0_next X = C at d3 d4 ⊢
        have t10 : Int32.toInt (10 * D) = 10 * (Int32.toInt (pX0_next q) - 48) := by
          rw [Int32.toInt_mul, show Int32.toInt 10 = 10 from rfl, t48, Int.bmod_eq_of_le] <;> omega
        have tE : Int32.toInt (((10 * D) + C) - 48) = 10 * (Int32.toInt (pX0_next q) - 48) + Int32.toInt C - 48 := by
          rw [t_sub (by rw [t_add (by rw [t10]; omega), t10, show Int32.toInt 48 = 48 from rfl]; omega), t_add (by rw [t10]; omega), t10, show Int32.toInt 48 = 48 from rfl]
        by_cases f : (23 : Int32) < (((10 * D) + C) - 48)
        · rw [if_pos f]
          show ∃ d, d < 24 ∧ X.1 3 = nI d
          rw [hx]
          exact one
        · rw [if_neg f]
          show ∃ d, d < 24 ∧ (((10 * D) + C) - 48) = nI d
          rw [Int32.lt_iff_toInt_lt, tE, show Int32.toInt 23 = 23 from rfl] at f
          exact vp_in_of (vp_in_iff.mpr ⟨by rw [tE]; omega, by rw [tE]; omega⟩) (by decide)
theorem hours_24 : ∀ (n : Nat) (v : Int32) (q : SR), H24 q → H24 (pX0_readHours_L2 n v q).2 := by
  intro n
  induction n with
  | zero => intro v q h; exact h
  | succ n ih =>
    intro v q h
    rw [pX0_readHours_L2]
    by_cases c : 80 ≤ v
    · rw [if_pos c]
      exact h
    · rw [if_neg c]
      have h5 := num_5 23 q
      have hv := num_v q
      generalize pX0_readNumber 23 q = B at h5 hv ⊢
      by_cases d : B.1 = 0
      · rw [if_pos d]
        exact h.of h5
      · rw [if_neg d]
        obtain ⟨k, hk, ek⟩ := hv d
        have hX : H24 (pS B.2 5 ((B.2.1 5) ||| (1 <<< ((B.2.1 3) &&& 31)))) := fun i h1 h2 => by
          rw [pS_at, ek, b_set _ (show k < 32 by omega) h2, h5, h i h1 h2, decide_eq_false (show ¬ i = k by omega)]
          rfl
        generalize pS B.2 5 ((B.2.1 5) ||| (1 <<< ((B.2.1 3) &&& 31))) = X at hX ⊢
        have hs := hX.of (skip_5 44 X)
        by_cases e : (pX0_skip 44 X).1 = 0
        · rw [if_pos e]
          exact hs
        · rw [if_neg e]
          exact ih _ _ hs
theorem body_24 {q : SR} (h : H24 q) : H24 (pX0_readBody q).2 := by
  rw [pX0_readBody]
  have h1 : H24 (pS q 1 ((q.1 1) + 1)) := h.of (pS_ne q _ (show (5 : Nat) ≠ 1 by decide))
  generalize pS q 1 ((q.1 1) + 1) = X at h1 ⊢
  have hn : H24 (pX0_readNumber 99 X).2 := h1.of (num_5 99 X)
  generalize pX0_readNumber 99 X = B at hn ⊢
  have hs := hn.of (skip_5 99 B.2)
  generalize pX0_skip 99 B.2 = C at hs ⊢
  have hy := h1.of (skip_5 45 X)
  generalize pX0_skip 45 X = D at hy ⊢
  have hh : H24 (pX0_readHours D.2).2 := by
    rw [pX0_readHours]
    exact hours_24 _ _ _ hy
  generalize pX0_readHours D.2 = E at hh ⊢
  by_cases c1 : q.1 2 = 99
  · rw [if_pos c1]
    exact hn
  · rw [if_neg c1]
    by_cases c2 : q.1 2 = 107
    · rw [if_pos c2]
      exact hn
    · rw [if_neg c2]
      by_cases c3 : q.1 2 = 112
      · rw [if_pos c3]
        by_cases d : B.1 = 0
        · rw [if_pos d]
          exact hn
        · rw [if_neg d]
          by_cases e : C.1 = 0
          · rw [if_pos e]
            exact hs.of (pS_ne C.2 0 (show (5 : Nat) ≠ 4 by decide))
          · rw [if_neg e]
            exact hs.of (pS_ne C.2 1 (show (5 : Nat) ≠ 4 by decide))
      · rw [if_neg c3]
        by_cases c4 : q.1 2 = 114
        · rw [if_pos c4]
          by_cases d : D.1 = 0
          · rw [if_pos d]
            by_cases e : E.1 = 0
            · rw [if_pos e]
              exact hh
            · rw [if_neg e]
              exact hh
          · rw [if_neg d]
            exact hy
        · rw [if_neg c4]
          by_cases c5 : q.1 2 = 116
          · rw [if_pos c5]
            exact hn
          · rw [if_neg c5]
            exact h
theorem order_24 (q : SR) : H24 (pX0_readOrder q).2 := by
  have h0 : H24 (qN q) := fun i _ _ => by
    show bt 0 i = false
    exact b_0 i
  have hb := body_24 h0
  have e : pX0_readOrder q = (if (pX0_readBody (qN q)).1 = 0 then ((0 : Int32), (pX0_readBody (qN q)).2) else if (pX0_skip 59 (pX0_readBody (qN q)).2).1 = 0 then if (pX0_skip 59 (pX0_readBody (qN q)).2).2.1 1 = (pX0_skip 59 (pX0_readBody (qN q)).2).2.1 0 then ((1 : Int32), pS (pX0_skip 59 (pX0_readBody (qN q)).2).2 6 (pX0_skip 59 (pX0_readBody (qN q)).2).1) else ((0 : Int32), pS (pX0_skip 59 (pX0_readBody (qN q)).2).2 6 (pX0_skip 59 (pX0_readBody (qN q)).2).1) else ((1 : Int32), pS (pX0_skip 59 (pX0_readBody (qN q)).2).2 6 (pX0_skip 59 (pX0_readBody (qN q)).2).1)) := by
    rw [pX0_readOrder]
    rfl
  rw [e]
  generalize pX0_readBody (qN q) = B at hb ⊢
  have hs := hb.of (skip_5 59 B.2)
  generalize pX0_skip 59 B.2 = C at hs ⊢
  have h6 : H24 (pS C.2 6 C.1) := hs.of (pS_ne C.2 C.1 (show (5 : Nat) ≠ 6 by decide))
  by_cases c : B.1 = 0
  · rw [if_pos c]
    exact hb
  · rw [if_neg c]
    by_cases d : C.1 = 0
    · rw [if_pos d]
      by_cases e : C.2.1 1 = C.2.1 0
      · rw [if_pos e]
        exact h6
      · rw [if_neg e]
        exact h6
    · rw [if_neg d]
      exact h6
-- an order is carried out
theorem wC_0 {a : Int32} {y : SR} (h : 0 ≤ pX3_whyNoCover a y) : pX3_whyNoCover a y = 0 := by
  rw [pX3_whyNoCover] at h ⊢
  by_cases c : pX3_isPiano a y = 0
  · rw [if_pos c] at h
    exact absurd h (by decide)
  · rw [if_neg c] at h ⊢
    by_cases d : pX3_pianoPart a 3 y = 0
    · rw [if_pos d]
    · rw [if_neg d] at h
      exact absurd h (by decide)
theorem wK_0 {a : Int32} {y : SR} (h : 0 ≤ pX3_whyNoKeeper a y) : pX3_whyNoKeeper a y = 0 := by
  rw [pX3_whyNoKeeper] at h ⊢
  by_cases c : pX3_isPlace a = 0
  · rw [if_pos c] at h
    exact absurd h (by decide)
  · rw [if_neg c] at h ⊢
    by_cases d : y.2 0 (ix 11) = 4
    · rw [if_pos d] at h
      exact absurd h (by decide)
    · rw [if_neg d]
theorem wP_0 {a b : Int32} {y : SR} (h : 0 ≤ pX3_whyNoPiano a b y) : pX3_whyNoPiano a b y = 0 := by
  rw [pX3_whyNoPiano] at h ⊢
  by_cases c : pX3_isPlace a = 0
  · rw [if_pos c] at h
    exact absurd h (by decide)
  · rw [if_neg c] at h ⊢
    by_cases d : pX3_within b 0 1 = 0
    · rw [if_pos d] at h
      exact absurd h (by decide)
    · rw [if_neg d] at h ⊢
      by_cases e : pX3_isPiano a y = 0
      · rw [if_pos e]
      · rw [if_neg e] at h
        exact absurd h (by decide)
theorem wT_0 {a : Int32} {y : SR} (h : 0 ≤ pX3_whyNotPassed a y) : pX3_whyNotPassed a y = 0 := by
  rw [pX3_whyNotPassed] at h ⊢
  by_cases c : pX3_within a 1 99 = 0
  · rw [if_pos c] at h
    exact absurd h (by decide)
  · rw [if_neg c] at h ⊢
    by_cases d : (y.2 0 (ix 7)) + a ≤ 9999
    · rw [if_pos d]
    · rw [if_neg d] at h
      exact absurd h (by decide)
theorem nlt_le {a : Int32} : ¬ a < 0 ↔ 0 ≤ a := Int32.not_lt
theorem tQ_id (t : TV) (j : Nat) : tQ t j (t.1 j) = t := by
  unfold tQ
  rw [up_id]
def DID (N D : SR) (T : TV) (A : Int32 × TV) (why : Int32) : Prop := (why = 0 ∧ ¬ A.1 < 0 ∧ ∃ s, A.2 = tQ T 0 s ∧ RN s (D.2 0) ∧ F2 N D) ∨ (¬ why = 0 ∧ A.1 < 0 ∧ A.2 = T)
theorem did_of {T : TV} {N : SR} {why : Int32} {ans : SR → Int32} {does : SR → SR} {op : Int32 × SR} (o : OPs (T.1 0) N why ans does op) (w0 : 0 ≤ why → why = 0) : DID N (does N) T (op.1, tQ T 0 op.2) why := by
  rcases o with ⟨w, e⟩ | ⟨w, h0, hz⟩
  · refine Or.inr ⟨fun z => w (by rw [z]; decide), ?_, ?_⟩
    · rw [e]
      show why < 0
      exact Int32.not_le.mp w
    · rw [e]
      show tQ T 0 (T.1 0) = T
      exact tQ_id T 0
  · obtain ⟨-, z2, z3⟩ := hz N rfl
    exact Or.inl ⟨w0 w, nlt_le.mpr h0, op.2, rfl, z2, z3⟩
theorem ans_eq {T : TV} {N : SR} (hN : RN (T.1 0) (N.2 0)) (o : ORD T.2.1 N) (hr : inI (T.2.1.1 5) 0 16777215) : DID N (pX3_doesOrder N) T (pX2_answerToOrder T) (pX3_whyNotDone N) := by
  obtain ⟨o1, o2⟩ := o
  rw [pX2_answerToOrder, pX3_whyNotDone, pX3_doesOrder, o1]
  rcases o2 with ⟨c, e⟩ | ⟨c, e, e6, e7⟩ | ⟨c, e⟩
  · rw [e]
    rcases c with c | c | c
    · rw [c, if_pos (show (99 : Int32) = 99 from rfl), if_pos (show (99 : Int32) = 99 from rfl), if_pos (show (99 : Int32) = 99 from rfl)]
      exact did_of (cover_op hN (N.1 5)) wC_0
    · rw [c, if_neg (show ¬ (107 : Int32) = 99 by decide), if_neg (show ¬ (107 : Int32) = 99 by decide), if_neg (show ¬ (107 : Int32) = 99 by decide), if_pos (show (107 : Int32) = 107 from rfl), if_pos (show (107 : Int32) = 107 from rfl), if_pos (show (107 : Int32) = 107 from rfl)]
      exact did_of (keeper_op hN (N.1 5)) wK_0
    · rw [c, if_neg (show ¬ (116 : Int32) = 99 by decide), if_neg (show ¬ (116 : Int32) = 99 by decide), if_neg (show ¬ (116 : Int32) = 99 by decide), if_neg (show ¬ (116 : Int32) = 107 by decide), if_neg (show ¬ (116 : Int32) = 107 by decide), if_neg (show ¬ (116 : Int32) = 107 by decide), if_neg (show ¬ (116 : Int32) = 112 by decide), if_neg (show ¬ (116 : Int32) = 112 by decide), if_neg (show ¬ (116 : Int32) = 112 by decide), if_neg (show ¬ (116 : Int32) = 114 by decide), if_pos (show (116 : Int32) = 116 from rfl), if_pos (show (116 : Int32) = 116 from rfl), if_pos (show (116 : Int32) = 116 from rfl)]
      exact did_of (pass_op hN (N.1 5)) wT_0
  · rw [c, e, e6, if_neg (show ¬ (112 : Int32) = 99 by decide), if_neg (show ¬ (112 : Int32) = 99 by decide), if_neg (show ¬ (112 : Int32) = 99 by decide), if_neg (show ¬ (112 : Int32) = 107 by decide), if_neg (show ¬ (112 : Int32) = 107 by decide), if_neg (show ¬ (112 : Int32) = 107 by decide), if_pos (show (112 : Int32) = 112 from rfl), if_pos (show (112 : Int32) = 112 from rfl), if_pos (show (112 : Int32) = 112 from rfl)]
    rcases e7 with e7 | e7
    · rw [e7, if_pos (show (0 : Int32) = 0 from rfl), if_pos (show (0 : Int32) = 0 from rfl)]
      exact did_of (piano_op hN (N.1 5) 0) wP_0
    · rw [e7, if_neg (show ¬ (1 : Int32) = 0 by decide), if_neg (show ¬ (1 : Int32) = 0 by decide)]
      exact did_of (piano_op hN (N.1 5) 1) wP_0
  · rw [e] at hr
    rw [c, e, if_neg (show ¬ (114 : Int32) = 99 by decide), if_neg (show ¬ (114 : Int32) = 99 by decide), if_neg (show ¬ (114 : Int32) = 99 by decide), if_neg (show ¬ (114 : Int32) = 107 by decide), if_neg (show ¬ (114 : Int32) = 107 by decide), if_neg (show ¬ (114 : Int32) = 107 by decide), if_neg (show ¬ (114 : Int32) = 112 by decide), if_neg (show ¬ (114 : Int32) = 112 by decide), if_neg (show ¬ (114 : Int32) = 112 by decide), if_pos (show (114 : Int32) = 114 from rfl), if_neg (show ¬ (114 : Int32) = 116 by decide), if_neg (show ¬ (114 : Int32) = 116 by decide)]
    have g := did_of (T := T) (rain_op hN (N.1 5))
    have hw : (if pX3_within (N.1 5) 0 16777215 = 0 then (-2 : Int32) else 0) = 0 := by
      have h1 : ¬ N.1 5 < 0 := by
        rw [Int32.lt_iff_toInt_lt, show Int32.toInt 0 = 0 from rfl]
        have := hr.1
        omega
      have h2 : N.1 5 ≤ 16777215 := by
        rw [Int32.le_iff_toInt_le]
        exact hr.2
      rw [win_le, if_neg h1, if_pos h2]
      rfl
    rw [hw] at g
    exact g (fun _ => rfl)
