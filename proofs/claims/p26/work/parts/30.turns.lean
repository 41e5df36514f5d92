-- a turn of the law
theorem low_i (s : Int32) {n : Int32} {N : Nat} (hn : Int32.toInt n = (N : Int)) (h0 : 0 < N) : inI (pL_low s n) 0 ((N : Int) - 1) := by
  have h := low_in s (n := n) (by omega)
  exact ⟨h.1, by omega⟩
theorem low_i1 (s : Int32) {n : Int32} {N : Nat} (hn : Int32.toInt n = (N : Int)) (h0 : 0 < N) (h1 : N < 1000) : inI (1 + pL_low s n) 1 (N : Int) := by
  have h := low_in s (n := n) (by omega)
  have e1 : Int32.toInt 1 = 1 := rfl
  unfold inI
  rw [t_add (by omega), e1]
  omega
theorem and_rn (a : Int32) : inI (a &&& 16777215) 0 16777215 := by
  have h : (a &&& 16777215).toBitVec.toNat ≤ 16777215 := by
    rw [Int32.toBitVec_and, BitVec.toNat_and]
    exact Nat.le_trans Nat.and_le_right (by decide)
  have e : Int32.toInt (a &&& 16777215) = ((a &&& 16777215).toBitVec.toNat : Int) := BitVec.toInt_eq_toNat_of_lt (by omega)
  exact ⟨by omega, by omega⟩
theorem sh7 : ∀ k, k < 20 → inI ((7 : Int32) <<< (nI k &&& 31)) 0 16777215 := by
  unfold inI
  decide +kernel
theorem rain_in (L : Nat) (xs : Nat → Int32) (v : Int32) : inI (pL_law_J346s0 L xs v) 0 16777215 := by
  rw [pL_law_J346s0]
  split
  · exact and_rn _
  · have h := low_in ((pL_cell L xs ((2 * v) + 1)) >>> ((2 : Int32) &&& 31)) (n := 20) (by decide)
    rw [show Int32.toInt 20 = 20 from rfl] at h
    obtain ⟨k, hk, e⟩ := nI_v (n := 20) h.1 h.2 (by decide)
    rw [e]
    exact sh7 k hk
theorem w01 (L : Nat) (xs : Nat → Int32) (v : Int32) : pL_law_J189s0 L xs v = 0 ∨ pL_law_J189s0 L xs v = 1 := by
  rw [pL_law_J189s0]
  split
  · exact Or.inl rfl
  · exact Or.inr rfl
theorem setv (u : Int32) : ∃ j, j < 7 ∧ pL_low u 7 = nI j ∧ inI (pL_law_J842s0 u) (Int32.toInt (leastF j)) (Int32.toInt (mostF j)) := by
  have h := low_in u (n := 7) (by decide)
  rw [show Int32.toInt 7 = 7 from rfl] at h
  obtain ⟨j, hj, e⟩ := nI_v (n := 7) h.1 h.2 (by decide)
  refine ⟨j, hj, e, ?_⟩
  rw [pL_law_J842s0, e]
  rcases (show j = 0 ∨ j = 1 ∨ j = 2 ∨ j = 3 ∨ j = 4 ∨ j = 5 ∨ j = 6 by omega) with rfl | rfl | rfl | rfl | rfl | rfl | rfl
  · rw [if_pos (by decide)]
    exact low_i _ (N := 13) rfl (by decide)
  · rw [if_neg (by decide), if_pos (by decide)]
    exact low_i1 _ (N := 50) rfl (by decide) (by decide)
  · rw [if_neg (by decide), if_neg (by decide), if_pos (by decide)]
    exact low_i1 _ (N := 20) rfl (by decide) (by decide)
  · rw [if_neg (by decide), if_neg (by decide), if_neg (by decide), if_neg (by decide), if_pos (by decide)]
    exact low_i _ (N := 21) rfl (by decide)
  · rw [if_neg (by decide), if_neg (by decide), if_neg (by decide), if_neg (by decide), if_neg (by decide), if_pos (by decide)]
    exact low_i _ (N := 51) rfl (by decide)
  · rw [if_neg (by decide), if_neg (by decide), if_neg (by decide), if_neg (by decide), if_neg (by decide), if_neg (by decide)]
    exact low_i _ (N := 101) rfl (by decide)
  · rw [if_neg (by decide), if_neg (by decide), if_neg (by decide), if_pos (by decide)]
    exact low_i1 _ (N := 20) rfl (by decide) (by decide)
theorem passv (u u9 : Int32) : ∃ K : Nat, 1 ≤ K ∧ K ≤ 99 ∧ 1 + pL_low u (pL_law_J671s0 u9) = nI K := by
  have h : inI (1 + pL_low u (pL_law_J671s0 u9)) 1 99 := by
    rw [pL_law_J671s0]
    split
    · exact low_i1 _ (N := 99) rfl (by decide) (by decide)
    · have a := low_i1 u (n := 8) (N := 8) rfl (by decide) (by decide)
      exact ⟨a.1, by have := a.2; omega⟩
  obtain ⟨h1, h2⟩ := h
  obtain ⟨K, hK, e⟩ := nI_v (v := 1 + pL_low u (pL_law_J671s0 u9)) (n := 100) (by omega) (by omega) (by decide)
  have tK : Int32.toInt (nI K) = (K : Int) := nI_toInt (by omega)
  rw [e] at h1
  exact ⟨K, by omega, by omega, e⟩
section RLT
variable {rec : Int32 → TV → SR → SR → Int32} {i : Nat} {t : TV} {y : SR}
theorem K867_1 (hi : i < 28) (hr : ∀ (t : TV) (y k : SR), RQ (99 * ((i : Int) + 1)) 0 (t.1 0) y → Int32.toInt (y.2 0 (ix 11)) ≤ 4 → rec (nI (i + 1)) t y k = 1) (u9 u10 : Int32) (k : SR) (h : RQ (99 * ((i : Int) + 1)) 0 (t.1 0) y) (h4 : Int32.toInt (y.2 0 (ix 11)) ≤ 4) : pL_law_K867 rec (nI i) u9 u10 t y k = 1 := by
  rw [pL_law_K867, if_neg (by rw [sameL h h4 (by omega) rfl]; decide)]
  by_cases c : (pL_low (u10 >>> ((13 : Int32) &&& 31)) 4) = 0
  · obtain ⟨e1, e2⟩ := wouldL h h4 (by omega) (u9 >>> ((3 : Int32) &&& 31)) k
    rw [if_pos c, if_neg (by rw [e1]; decide), nI_1]
    exact hr _ _ _ (by rw [e2]; exact h) h4
  · rw [if_neg c, nI_1]
    exact hr _ _ _ h h4
theorem K417_1 (hi : i < 28) (hr : ∀ (t : TV) (y k : SR), RQ (99 * ((i : Int) + 1)) 0 (t.1 0) y → Int32.toInt (y.2 0 (ix 11)) ≤ 4 → rec (nI (i + 1)) t y k = 1) (u9 u10 u11 : Int32) {p : Nat} (hp : p < 12) (k : SR) (h : RQ (99 * (i : Int)) 0 (t.1 0) y) (h4 : Int32.toInt (y.2 0 (ix 11)) ≤ 4) : pL_law_K417 rec (nI i) u9 u10 u11 (nI p) (5 * nI p) t y k = 1 := by
  have go : ∀ (t' : TV) (y' : SR), RQ (99 * (i : Int)) 0 (t'.1 0) y' → Int32.toInt (y'.2 0 (ix 11)) ≤ 4 → pL_law_K867 rec (nI i) u9 u10 t' y' k = 1 := fun t' y' h' q' => K867_1 hi hr u9 u10 k (h'.mono (by omega)) q'
  rw [pL_law_K417]
  by_cases c3 : u11 = 3
  · obtain ⟨e1, e2⟩ := coverA h hp
    rw [if_pos c3, pX2_cover]
    dsimp only
    rw [chg_0.1, if_pos e1]
    refine go _ _ (by rw [chg_0.2]; exact e2) ?_
    rw [pL_law_J473xq]
    split
    · exact h4
    · rw [pR_or (by decide)]
      exact h4
  · rw [if_neg c3]
    by_cases c4 : u11 = 4
    · obtain ⟨e1, e2⟩ := takeA h hp
      rw [if_pos c4, pX2_take]
      dsimp only
      rw [chg_0.1, if_pos e1]
      refine go _ _ (by rw [chg_0.2]; exact e2) ?_
      rw [pR_or (by decide)]
      exact h4
    · rw [if_neg c4]
      by_cases c12 : 12 ≤ u11
      · obtain ⟨j, hj, ej, hv⟩ := setv u10
        obtain ⟨e1, e2⟩ := setA h hj hv
        rw [if_pos c12, ej, pX2_set]
        dsimp only
        rw [chg_0.1, if_pos e1]
        refine go _ _ (by rw [chg_0.2]; exact e2) ?_
        rw [pR_off (Or.inr (by rw [ix_nI (by omega), show ix 11 = 11 from rfl]; omega))]
        exact h4
      · obtain ⟨K, k1, k2, eK⟩ := passv u10 u9
        obtain ⟨e1, e2⟩ := passA h k1 k2 (by omega)
        rw [if_neg c12, pL_law_E683, eK, pX2_pass]
        dsimp only
        rw [chg_0.1, if_pos e1]
        refine K867_1 hi hr u9 u10 k (by rw [chg_0.2]; exact e2.mono (by omega)) ?_
        have q := h.1.2.2.2.2.2.2
        have e3 : (pX1_passCounted (nI K) (t.1 0)).2.1 3 = (t.1 0).1 3 := by
          rw [pX1_passCounted]
          split
          · rfl
          · split
            · split
              · exact pass_3 _ _ _ _ _
              · rfl
            · rfl
        rw [e2.e11, e3, ← h.e11]
        exact h4
theorem L101_1 (L : Nat) (xs : Nat → Int32) : ∀ (n i : Nat) (t : TV) (y k : SR), i ≤ 28 → 28 - i < n → RQ (99 * (i : Int)) 0 (t.1 0) y → Int32.toInt (y.2 0 (ix 11)) ≤ 4 → pL_law_L101 L xs n (nI i) t y k = 1 := by
  intro n
  induction n with
  | zero => intro i t y k h1 h2; omega
  | succ n ih =>
    intro i t y k h1 h2 h h4
    rw [pL_law_L101]
    by_cases c : i = 28
    · subst c
      rw [if_pos (by decide)]
    · have hi : i < 28 := by omega
      have hr : ∀ (t : TV) (y k : SR), RQ (99 * ((i : Int) + 1)) 0 (t.1 0) y → Int32.toInt (y.2 0 (ix 11)) ≤ 4 → pL_law_L101 L xs n (nI (i + 1)) t y k = 1 := fun t y k g g4 => ih (i + 1) t y k (by omega) (by omega) (by rw [show 99 * ((i + 1 : Nat) : Int) = 99 * ((i : Int) + 1) by omega]; exact g) g4
      have lo := lo12_in (a := (pL_cell L xs (2 * nI i)) >>> ((4 : Int32) &&& 31))
      obtain ⟨p, hp, ep⟩ := nI_v (n := 12) lo.1 lo.2 (by decide)
      have go : ∀ (u9 u10 : Int32) (t' : TV) (y' : SR), RQ (99 * (i : Int)) 0 (t'.1 0) y' → Int32.toInt (y'.2 0 (ix 11)) ≤ 4 → pL_law_K867 (pL_law_L101 L xs n) (nI i) u9 u10 t' y' k = 1 := fun u9 u10 t' y' h' q' => K867_1 hi hr u9 u10 k (h'.mono (by omega)) q'
      rw [if_neg (show ¬ (28 : Int32) ≤ nI i by rw [show (28 : Int32) = nI 28 from rfl, nI_leI (by omega) (by omega)]; omega), pL_law_J303s0, pL_law_E251, pL_law_J248xq, pL_law_J203s0, ep]
      by_cases c0 : pL_law_J151s0 L xs (nI i) = 0
      · rw [if_pos c0]
        obtain ⟨a0, a1⟩ := pianoA h hp (w01 L xs (nI i))
        obtain ⟨l0, l1⟩ := at_ok h hp
        rw [pX2_piano, show ix (5 * nI p) = 5 * p from ix5 (by omega)]
        dsimp only
        rw [chg_0.1]
        by_cases hb : bt ((t.1 0).1 0) p = true
        · rw [if_pos (l1.mpr hb), if_pos rfl, if_pos rfl, a0 hb, if_pos rfl]
          exact go _ _ _ _ (by rw [chg_0.2]; exact h) h4
        · obtain ⟨e1, e2⟩ := a1 (nt_f hb)
          rw [if_neg (fun q => hb (l1.mp q)), if_neg (show ¬ (1 : Int32) = 0 by decide), if_neg (show ¬ (1 : Int32) = 0 by decide)]
          show (if (pX1_addPiano (nI p) (pL_law_J189s0 L xs (nI i)) (t.1 0)).1 = pL_law_L251 13 0 0 (newY p (pL_law_J189s0 L xs (nI i)) y) then pL_law_K867 (pL_law_L101 L xs n) (nI i) _ _ _ (newY p (pL_law_J189s0 L xs (nI i)) y) k else 0) = 1
          rw [if_pos e1]
          refine go _ _ _ _ (by rw [chg_0.2]; exact e2) ?_
          rw [newY_r _ _ _ (by decide)]
          exact h4
      · rw [if_neg c0]
        by_cases c1 : pL_law_J151s0 L xs (nI i) = 1
        · obtain ⟨e1, e2⟩ := rainA h (rain_in L xs (nI i))
          rw [if_pos c1, pX2_rain]
          dsimp only
          rw [chg_0.1, if_pos e1]
          exact go _ _ _ _ (by rw [chg_0.2]; exact e2) (by rw [pR_off (Or.inr (by decide))]; exact h4)
        · rw [if_neg c1]
          by_cases c2 : pL_law_J151s0 L xs (nI i) = 2
          · rw [if_pos c2]
            by_cases c4 : 4 ≤ y.2 0 (ix 11)
            · rw [if_pos c4]
              exact K417_1 hi hr _ _ _ hp k h h4
            · obtain ⟨e1, e2, e3⟩ := keeperA h c4 hp
              rw [if_neg c4, pX2_keeper]
              dsimp only
              rw [chg_0.1, if_pos e1]
              exact go _ _ _ _ (by rw [chg_0.2]; exact e2) e3
          · rw [if_neg c2]
            exact K417_1 hi hr _ _ _ hp k h h4
theorem law_1 (L : Nat) (xs : Nat → Int32) {t : TV} {y : SR} (k : SR) (h : RQ 0 0 (t.1 0) (pL_law_E78 y)) (h4 : Int32.toInt ((pL_law_E78 y).2 0 (ix 11)) ≤ 4) : pL_law L xs t y k = 1 := by
  have e : pL_law_E101 L xs t y k = 1 := by
    rw [pL_law_E101, ← nI_0]
    exact L101_1 L xs 29 0 t _ k (by decide) (by decide) (by rw [show 99 * ((0 : Nat) : Int) = 0 by decide]; exact h) h4
  rw [pL_law, if_neg (by rw [e]; decide)]
end RLT
