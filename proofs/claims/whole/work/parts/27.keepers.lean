-- one keeper of the class, in one turn
def cAt (act : Int32 → Int32 → SR → SR) (k c v : Int32) (x : SR) : Int32 × SR := (v ||| (1 <<< (c &&& 31)), if (x.2 5 (ix k)) = c then act k c x else pX1_goTowards k c x)
def cGo (b v k : Int32) (x : SR) : Int32 × SR := if b = 0 then if (pX1_nearest ((x.1 2) &&& (v ^^^ (-1))) (x.2 5 (ix k))) = (-6) then if (pX1_nearest ((pX1_outOfTune x) &&& (v ^^^ (-1))) (x.2 5 (ix k))) = (-6) then (v, x)
    else cAt pX1_tune k (pX1_nearest ((pX1_outOfTune x) &&& (v ^^^ (-1))) (x.2 5 (ix k))) v x
  else cAt pX1_takeCoverOff k (pX1_nearest ((x.1 2) &&& (v ^^^ (-1))) (x.2 5 (ix k))) v x
  else if (pX1_nearest ((x.1 1) &&& (v ^^^ (-1))) (x.2 5 (ix k))) = (-6) then if (pX1_nearest ((pX1_outOfTune x) &&& (v ^^^ (-1))) (x.2 5 (ix k))) = (-6) then (v, x)
    else cAt pX1_tune k (pX1_nearest ((pX1_outOfTune x) &&& (v ^^^ (-1))) (x.2 5 (ix k))) v x
  else cAt pX1_putCoverOn k (pX1_nearest ((x.1 1) &&& (v ^^^ (-1))) (x.2 5 (ix k))) v x
theorem acts_step (n : Nat) (b v k : Int32) (x : SR) : pX1_letKeepersAct_L9 (n + 1) b v k x = if (x.1 3) ≤ k then x else if 4 < k then x else pX1_letKeepersAct_L9 n b (cGo b v k x).1 (k + 1) (cGo b v k x).2 := by
  rw [pX1_letKeepersAct_L9]
  unfold cGo cAt
  by_cases c1 : x.1 3 ≤ k
  · rw [if_pos c1, if_pos c1]
  · rw [if_neg c1, if_neg c1]
    by_cases c2 : 4 < k
    · rw [if_pos c2, if_pos c2]
    · rw [if_neg c2, if_neg c2]
      by_cases c3 : b = 0
      · rw [if_pos c3, if_pos c3]
        by_cases c4 : (pX1_nearest ((x.1 2) &&& (v ^^^ (-1))) (x.2 5 (ix k))) = (-6)
        · rw [if_pos c4, if_pos c4]
          by_cases c5 : (pX1_nearest ((pX1_outOfTune x) &&& (v ^^^ (-1))) (x.2 5 (ix k))) = (-6)
          · rw [if_pos c5, if_pos c5]
          · rw [if_neg c5, if_neg c5]
            dsimp only
            by_cases c6 : (x.2 5 (ix k)) = (pX1_nearest ((pX1_outOfTune x) &&& (v ^^^ (-1))) (x.2 5 (ix k)))
            · rw [if_pos c6, if_pos c6]
            · rw [if_neg c6, if_neg c6]
        · rw [if_neg c4, if_neg c4]
          dsimp only
          by_cases c6 : (x.2 5 (ix k)) = (pX1_nearest ((x.1 2) &&& (v ^^^ (-1))) (x.2 5 (ix k)))
          · rw [if_pos c6, if_pos c6]
          · rw [if_neg c6, if_neg c6]
      · rw [if_neg c3, if_neg c3]
        by_cases c4 : (pX1_nearest ((x.1 1) &&& (v ^^^ (-1))) (x.2 5 (ix k))) = (-6)
        · rw [if_pos c4, if_pos c4]
          by_cases c5 : (pX1_nearest ((pX1_outOfTune x) &&& (v ^^^ (-1))) (x.2 5 (ix k))) = (-6)
          · rw [if_pos c5, if_pos c5]
          · rw [if_neg c5, if_neg c5]
            dsimp only
            by_cases c6 : (x.2 5 (ix k)) = (pX1_nearest ((pX1_outOfTune x) &&& (v ^^^ (-1))) (x.2 5 (ix k)))
            · rw [if_pos c6, if_pos c6]
            · rw [if_neg c6, if_neg c6]
        · rw [if_neg c4, if_neg c4]
          dsimp only
          by_cases c6 : (x.2 5 (ix k)) = (pX1_nearest ((x.1 1) &&& (v ^^^ (-1))) (x.2 5 (ix k)))
          · rw [if_pos c6, if_pos c6]
          · rw [if_neg c6, if_neg c6]
/-- what a turn of a keeper leaves as it was -/
def Kf (x x' : SR) : Prop := (∀ i, 3 ≤ i → x'.1 i = x.1 i) ∧ x'.1 0 = x.1 0 ∧ x'.2 0 = x.2 0
theorem Kf.trans {x y z : SR} (h : Kf x y) (g : Kf y z) : Kf x z := ⟨fun i hi => (g.1 i hi).trans (h.1 i hi), g.2.1.trans h.2.1, g.2.2.trans h.2.2⟩
theorem Kf_R (x : SR) (r : Nat) (k v : Int32) (h : 0 ≠ r) : Kf x (pR x r k v) := ⟨fun _ _ => rfl, rfl, pR_or h⟩
theorem Kf_S (x : SR) (q : Nat) (v : Int32) (h : q = 1 ∨ q = 2) : Kf x (pS x q v) := ⟨fun i hi => up_ne _ _ (by omega), up_ne _ _ (by omega), rfl⟩
theorem Kf_go (k c : Int32) (x : SR) : Kf x (pX1_goTowards k c x) := by
  rw [pX1_goTowards]
  by_cases h : c ≤ x.2 5 (ix k)
  · rw [if_pos h]
    exact (Kf_R _ _ _ _ (by decide)).trans (Kf_R _ _ _ _ (by decide))
  · rw [if_neg h]
    exact (Kf_R _ _ _ _ (by decide)).trans (Kf_R _ _ _ _ (by decide))
theorem Kf_tune (k c : Int32) (x : SR) : Kf x (pX1_tune k c x) := (Kf_R _ _ _ _ (by decide)).trans (Kf_R _ _ _ _ (by decide))
theorem Kf_put (k c : Int32) (x : SR) : Kf x (pX1_putCoverOn k c x) := ((Kf_S _ _ _ (by decide)).trans (Kf_S _ _ _ (by decide))).trans (Kf_R _ _ _ _ (by decide))
theorem Kf_off (k c : Int32) (x : SR) : Kf x (pX1_takeCoverOff k c x) := ((Kf_S _ _ _ (by decide)).trans (Kf_S _ _ _ (by decide))).trans (Kf_R _ _ _ _ (by decide))
theorem Kf_at (act : Int32 → Int32 → SR → SR) (ha : ∀ k c x, Kf x (act k c x)) (k c v : Int32) (x : SR) : Kf x (cAt act k c v x).2 := by
  show Kf x (if (x.2 5 (ix k)) = c then act k c x else pX1_goTowards k c x)
  by_cases h : (x.2 5 (ix k)) = c
  · rw [if_pos h]
    exact ha k c x
  · rw [if_neg h]
    exact Kf_go k c x
theorem Kf_cGo (b v k : Int32) (x : SR) : Kf x (cGo b v k x).2 := by
  unfold cGo
  by_cases c3 : b = 0
  · rw [if_pos c3]
    by_cases c4 : (pX1_nearest ((x.1 2) &&& (v ^^^ (-1))) (x.2 5 (ix k))) = (-6)
    · rw [if_pos c4]
      by_cases c5 : (pX1_nearest ((pX1_outOfTune x) &&& (v ^^^ (-1))) (x.2 5 (ix k))) = (-6)
      · rw [if_pos c5]
        exact ⟨fun _ _ => rfl, rfl, rfl⟩
      · rw [if_neg c5]
        exact Kf_at _ Kf_tune _ _ _ _
    · rw [if_neg c4]
      exact Kf_at _ Kf_off _ _ _ _
  · rw [if_neg c3]
    by_cases c4 : (pX1_nearest ((x.1 1) &&& (v ^^^ (-1))) (x.2 5 (ix k))) = (-6)
    · rw [if_pos c4]
      by_cases c5 : (pX1_nearest ((pX1_outOfTune x) &&& (v ^^^ (-1))) (x.2 5 (ix k))) = (-6)
      · rw [if_pos c5]
        exact ⟨fun _ _ => rfl, rfl, rfl⟩
      · rw [if_neg c5]
        exact Kf_at _ Kf_tune _ _ _ _
    · rw [if_neg c4]
      exact Kf_at _ Kf_put _ _ _ _
theorem Kf_acts : ∀ (n : Nat) (b v k : Int32) (x : SR), Kf x (pX1_letKeepersAct_L9 n b v k x) := by
  intro n
  induction n with
  | zero => intro b v k x; exact ⟨fun _ _ => rfl, rfl, rfl⟩
  | succ n ih =>
    intro b v k x
    rw [acts_step]
    by_cases c1 : x.1 3 ≤ k
    · rw [if_pos c1]
      exact ⟨fun _ _ => rfl, rfl, rfl⟩
    · rw [if_neg c1]
      by_cases c2 : 4 < k
      · rw [if_pos c2]
        exact ⟨fun _ _ => rfl, rfl, rfl⟩
      · rw [if_neg c2]
        exact (Kf_cGo b v k x).trans (ih _ _ _ _)
/-- one keeper on both sides -/
theorem go_eq {x y : SR} (h : RS x (y.2 0)) {k : Nat} (hk : (k : Int) < Int32.toInt (y.2 0 11)) (b : Int32) : RS (cGo b (y.1 2) (nI k) x).2 ((pX3_keeperGoes (nI k) b y).2 0) ∧ (pX3_keeperGoes (nI k) b y).1 2 = (cGo b (y.1 2) (nI k) x).1 ∧ F2 y (pX3_keeperGoes (nI k) b y) := by
  have hB := h.2.2.2.2
  have hO : ∀ i, 12 ≤ i → bt (pX1_outOfTune x) i = false := fun i hi => Bool.eq_false_iff.mpr (fun z => by have := ((oot_bt x i).mp z).1; omega)
  obtain ⟨n1, r1⟩ := br h hk 1 (x.1 1) pX1_putCoverOn (hB 1 (by decide)) (fun i hi => want_1 h hi) (fun z j hz hj wj e => does_1 (by rw [hz]; exact h) (by rw [hz]; exact hk) hj wj e)
  obtain ⟨n2, r2⟩ := br h hk 2 (x.1 2) pX1_takeCoverOff (hB 2 (by decide)) (fun i hi => want_2 h hi) (fun z j hz hj wj e => does_2 (by rw [hz]; exact h) (by rw [hz]; exact hk) hj wj e)
  obtain ⟨n3, r3⟩ := br h hk 3 (pX1_outOfTune x) pX1_tune hO (fun i hi => want_3 h hi) (fun z j hz hj wj e => does_3 (by rw [hz]; exact h) (by rw [hz]; exact hk) hj ((oot_bt x j).mp wj).2.1 e)
  rw [pX3_keeperGoes, n1, n2, n3]
  unfold cGo
  have fin : ∀ (act : Int32 → Int32 → SR → SR) (what c : Int32), ((x.2 5 (ix (nI k)) = c → RS (act (nI k) c x) ((pX3_does (nI k) c what (pS y 2 ((y.1 2) ||| (1 <<< (c &&& 31))))).2 0) ∧ (pX3_does (nI k) c what (pS y 2 ((y.1 2) ||| (1 <<< (c &&& 31))))).1 2 = ((y.1 2) ||| (1 <<< (c &&& 31))) ∧ F2 y (pX3_does (nI k) c what (pS y 2 ((y.1 2) ||| (1 <<< (c &&& 31)))))) ∧ (¬ x.2 5 (ix (nI k)) = c → RS (pX1_goTowards (nI k) c x) ((pX3_does (nI k) c what (pS y 2 ((y.1 2) ||| (1 <<< (c &&& 31))))).2 0) ∧ (pX3_does (nI k) c what (pS y 2 ((y.1 2) ||| (1 <<< (c &&& 31))))).1 2 = ((y.1 2) ||| (1 <<< (c &&& 31))) ∧ F2 y (pX3_does (nI k) c what (pS y 2 ((y.1 2) ||| (1 <<< (c &&& 31))))))) → RS (cAt act (nI k) c (y.1 2) x).2 ((pX3_does (nI k) c what (pS y 2 ((y.1 2) ||| (1 <<< (c &&& 31))))).2 0) ∧ (pX3_does (nI k) c what (pS y 2 ((y.1 2) ||| (1 <<< (c &&& 31))))).1 2 = (cAt act (nI k) c (y.1 2) x).1 ∧ F2 y (pX3_does (nI k) c what (pS y 2 ((y.1 2) ||| (1 <<< (c &&& 31))))) := by
    intro act what c hh
    by_cases e : x.2 5 (ix (nI k)) = c
    · obtain ⟨a1, a2, a3⟩ := hh.1 e
      refine ⟨?_, a2, a3⟩
      show RS (if (x.2 5 (ix (nI k))) = c then act (nI k) c x else pX1_goTowards (nI k) c x) _
      rw [if_pos e]
      exact a1
    · obtain ⟨a1, a2, a3⟩ := hh.2 e
      refine ⟨?_, a2, a3⟩
      show RS (if (x.2 5 (ix (nI k))) = c then act (nI k) c x else pX1_goTowards (nI k) c x) _
      rw [if_neg e]
      exact a1
  by_cases c3 : b = 0
  · rw [if_pos c3, if_pos c3]
    by_cases c4 : (pX1_nearest ((x.1 2) &&& ((y.1 2) ^^^ (-1))) (x.2 5 (ix (nI k)))) = (-6)
    · rw [if_pos c4, if_pos c4]
      by_cases c5 : (pX1_nearest ((pX1_outOfTune x) &&& ((y.1 2) ^^^ (-1))) (x.2 5 (ix (nI k)))) = (-6)
      · rw [if_pos c5, if_pos c5]
        exact ⟨h, rfl, F2.refl y⟩
      · rw [if_neg c5, if_neg c5]
        exact fin pX1_tune 3 _ (r3 _ rfl c5)
    · rw [if_neg c4, if_neg c4]
      exact fin pX1_takeCoverOff 2 _ (r2 _ rfl c4)
  · rw [if_neg c3, if_neg c3]
    by_cases c4 : (pX1_nearest ((x.1 1) &&& ((y.1 2) ^^^ (-1))) (x.2 5 (ix (nI k)))) = (-6)
    · rw [if_pos c4, if_pos c4]
      by_cases c5 : (pX1_nearest ((pX1_outOfTune x) &&& ((y.1 2) ^^^ (-1))) (x.2 5 (ix (nI k)))) = (-6)
      · rw [if_pos c5, if_pos c5]
        exact ⟨h, rfl, F2.refl y⟩
      · rw [if_neg c5, if_neg c5]
        exact fin pX1_tune 3 _ (r3 _ rfl c5)
    · rw [if_neg c4, if_neg c4]
      exact fin pX1_putCoverOn 1 _ (r1 _ rfl c4)
theorem keepers_L (b : Int32) : ∀ (n i : Nat) (x y : SR), RS x (y.2 0) → i ≤ 5 → 5 - i < n → RS (pX1_letKeepersAct_L9 n b (y.1 2) (nI i) x) ((pX3_keepersGo_L12 n b (nI i) y).2 0) ∧ F2 y (pX3_keepersGo_L12 n b (nI i) y) := by
  intro n
  induction n with
  | zero => intro i x y h h1 h2; omega
  | succ n ih =>
    intro i x y h h1 h2
    rw [acts_step, pX3_keepersGo_L12, h.1.e11]
    by_cases c : x.1 3 ≤ nI i
    · rw [if_pos c, if_pos c]
      exact ⟨h, F2.refl y⟩
    · rw [if_neg c, if_neg c]
      have t := mt (nI_lev (v := x.1 3) (i := i) (by omega)).mpr c
      have e3 : x.1 3 = y.2 0 11 := h.1.2.2.2.2.2
      have h5 := h.2.2.2.1.1.2
      rw [e3] at t
      rw [if_neg (show ¬ (4 : Int32) < nI i by
        rw [show (4 : Int32) = nI 4 from rfl, nI_ltI (by omega) (by omega)]
        omega), nI_1]
      obtain ⟨a1, a2, a3⟩ := go_eq h (k := i) (by omega) b
      have r := ih (i + 1) _ _ a1 (by omega) (by omega)
      rw [a2] at r
      exact ⟨r.1, a3.trans r.2⟩
theorem keepers_eq {x y : SR} (h : RS x (y.2 0)) : RS (pX1_letKeepersAct x) ((pX3_keepersGo y).2 0) ∧ F2 y (pX3_keepersGo y) := by
  have h0 : RS x ((pS y 2 0).2 0) := h
  have r := keepers_L (pX3_isRainAhead y) 6 0 x (pS y 2 0) h0 (by decide) (by decide)
  rw [pX1_letKeepersAct, pX3_keepersGo]
  have e2 : (pS y 2 0).1 2 = 0 := by
    show up y.1 2 0 2 = 0
    exact up_same y.1 2 0
  rw [e2, nI_0, ahead_eq h.1 (show inI (y.2 0 (ix 0)) 0 12 from h.2.1.1)] at r
  rw [ahead_eq h.1 (show inI (y.2 0 (ix 0)) 0 12 from h.2.1.1)]
  exact ⟨r.1, (F2_pS y 0).trans r.2⟩
theorem acts_Kf (x : SR) : Kf x (pX1_letKeepersAct x) := Kf_acts _ _ _ _ _
