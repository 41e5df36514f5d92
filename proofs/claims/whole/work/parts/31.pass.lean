-- the hour as a whole, and hours
theorem L46_k : ∀ (n : Nat) (a s b v : Int32) (x : SR), (∀ i, i ≠ 1 → i ≠ 7 → (pX1_letThievesCome_L46 n a s b v x).1 i = x.1 i) := by
  intro n
  induction n with
  | zero => intro a s b v x i _ _; rfl
  | succ n ih =>
    intro a s b v x i h1 h7
    rw [pX1_letThievesCome_L46]
    by_cases c : (12 : Int32) ≤ v
    · rw [if_pos c]
    · rw [if_neg c]
      by_cases cm : (((7 * (x.1 5)) + (3 * v)) - ((7 * (x.1 5)) + (3 * v)) / s * s) = 0
      · rw [if_pos cm]
        by_cases c1 : pX2_has (x.1 1) v = 0
        · rw [if_pos c1]
          exact ih _ _ _ _ _ i h1 h7
        · rw [if_neg c1]
          by_cases ck : pX1_keepersAt v x = 0
          · rw [if_pos ck, ih _ _ _ _ _ i h1 h7]
            show up (up x.1 1 _) 7 _ i = _
            rw [up_ne _ _ h7, up_ne _ _ h1]
          · rw [if_neg ck]
            exact ih _ _ _ _ _ i h1 h7
      · rw [if_neg cm]
        exact ih _ _ _ _ _ i h1 h7
theorem thv_k (x : SR) (i : Nat) (h1 : i ≠ 1) (h7 : i ≠ 7) : (pX1_letThievesCome x).1 i = x.1 i := by
  rw [pX1_letThievesCome]
  by_cases c22 : 22 ≤ ((x.1 5) - (x.1 5) / 24 * 24)
  · rw [if_pos c22]
    by_cases c1 : 1 ≤ (x.2 0 (ix 6))
    · rw [if_pos c1]
      exact L46_k _ _ _ _ _ _ i h1 h7
    · rw [if_neg c1]
  · rw [if_neg c22]
    by_cases c5 : 5 < ((x.1 5) - (x.1 5) / 24 * 24)
    · rw [if_pos c5]
    · rw [if_neg c5]
      by_cases c1 : 1 ≤ (x.2 0 (ix 6))
      · rw [if_pos c1]
        exact L46_k _ _ _ _ _ _ i h1 h7
      · rw [if_neg c1]
def hEnd (z : SR) : SR := pS (pX1_letThievesCome z) 5 (((pX1_letThievesCome z).1 5) + 1)
theorem hEnd_k (z : SR) (i : Nat) (h1 : i ≠ 1) (h5 : i ≠ 5) (h7 : i ≠ 7) : (hEnd z).1 i = z.1 i := by
  show up (pX1_letThievesCome z).1 5 _ i = _
  rw [up_ne _ _ h5, thv_k z i h1 h7]
theorem end_eq {x y : SR} (h : RS x (y.2 0)) (v1 : Int32) (hv : v1 = ((x.1 5) - (x.1 5) / 24 * 24)) : RS (hEnd x) ((fE v1 y).2 0) ∧ F2 y (fE v1 y) := by
  have fin : ∀ X Y : SR, RS X (Y.2 0) → F2 y Y → RS (pS X 5 ((X.1 5) + 1)) ((pR Y 0 7 ((Y.2 0 (ix 7)) + 1)).2 0) ∧ F2 y (pR Y 0 7 ((Y.2 0 (ix 7)) + 1)) := by
    intro X Y a1 a2
    have em : pR Y 0 7 ((Y.2 0 (ix 7)) + 1) = mW Y 7 (X.1 5 + 1) := by
      rw [a1.1.e7]
      rfl
    rw [em, mW_0]
    exact ⟨a1.num (f := 5) (c := 7) (by omega) _, a2.trans (F2_mW _ _ _)⟩
  have h6 : (1 : Int32) ≤ x.2 0 (ix 6) := by
    rw [Int32.le_iff_toInt_le, ← h.1.e6]
    exact h.2.1.2.2.2.2.2.2.1
  have th := thief_loop v1 1 13 0 x y h (by decide) (by decide)
  rw [nI_0] at th
  unfold hEnd fE
  rw [pX1_letThievesCome, ← hv]
  by_cases c22 : 22 ≤ v1
  · rw [if_pos c22, if_pos c22, if_pos h6, pX3_thieves]
    exact fin _ _ th.1 th.2
  · rw [if_neg c22, if_neg c22]
    by_cases c5 : 5 < v1
    · rw [if_pos c5, if_pos c5]
      exact fin _ _ h (F2.refl y)
    · rw [if_neg c5, if_neg c5, if_pos h6, pX3_thieves]
      exact fin _ _ th.1 th.2
def cHour (x : SR) : SR := if (pX1_rainsAfter 0 (pX1_letKeepersAct x)) = 0 then hEnd (pX1_letPianosBePlayed (pX1_letPianosDry (pX1_letKeepersAct x))) else hEnd (pX1_letRainFall (pX1_letKeepersAct x))
def inPl (v1 : Int32) : Bool := if v1 < 8 then false else if v1 ≤ 21 then true else false
theorem inPl_iff (v1 : Int32) : inPl v1 = true ↔ ¬ pX3_within v1 8 21 = 0 := by
  unfold inPl
  rw [pX3_within]
  by_cases c : v1 < 8
  · rw [if_pos c, if_pos c]
    exact ⟨fun z => absurd z (by decide), fun z => absurd rfl z⟩
  · rw [if_neg c, if_neg c]
    by_cases d : v1 ≤ 21
    · rw [if_pos d, if_neg (fun z => Int32.not_le.mpr z d)]
      exact ⟨fun _ => by decide, fun _ => rfl⟩
    · rw [if_neg d, if_pos (Int32.not_le.mp d)]
      exact ⟨fun z => absurd z (by decide), fun z => absurd rfl z⟩
theorem play_dry (x : SR) : pX1_letPianosBePlayed (pX1_letPianosDry x) = fz (inPl ((x.1 5) - (x.1 5) / 24 * 24)) 13 0 x := by
  have ed : pX1_letPianosDry x = dA 0 x := by
    rw [pX1_letPianosDry, ← nI_0]
    exact dry_eq 13 0 x (by decide) (by decide)
  have e5 : (dA 0 x).1 5 = x.1 5 := rfl
  rw [ed, pX1_letPianosBePlayed, e5]
  unfold inPl
  by_cases c : ((x.1 5) - (x.1 5) / 24 * 24) < 8
  · rw [if_pos c, if_pos c]
    exact fz_dry 13 0 x (by decide) (by decide)
  · rw [if_neg c, if_neg c]
    by_cases d : ((x.1 5) - (x.1 5) / 24 * 24) ≤ 21
    · rw [if_pos d, if_pos d, ← nI_0]
      exact fz_play _ 13 0 x (by decide) (by decide)
    · rw [if_neg d, if_neg d]
      exact fz_dry 13 0 x (by decide) (by decide)
theorem hour_eq {x y : SR} (h : RS x (y.2 0)) : RS (cHour x) ((pX3_hour y).2 0) ∧ F2 y (pX3_hour y) ∧ ∃ d : Nat, d ≤ 600 ∧ (cHour x).1 6 = x.1 6 + nI d := by
  obtain ⟨k1, k2⟩ := keepers_eq h
  have kf := acts_Kf x
  have r0 : pX3_rainsIn 0 y = pX1_rainsAfter 0 (pX1_letKeepersAct x) := by
    rw [rains_eq h.1, pX1_rainsAfter, pX1_rainsAfter, kf.1 4 (by decide), kf.1 5 (by decide)]
  rw [pX3_hour, r0, h.1.e7]
  have e5 : (pX1_letKeepersAct x).1 5 = x.1 5 := kf.1 5 (by decide)
  unfold cHour
  by_cases c : pX1_rainsAfter 0 (pX1_letKeepersAct x) = 0
  · rw [if_pos c, c, play_dry, e5]
    obtain ⟨z, b1, b2, b3, d, hd, ed⟩ := dry_loop ((x.1 5) - (x.1 5) / 24 * 24) _ (inPl_iff _) 13 0 _ _ k1 (by decide) (by decide)
    rw [nI_0] at b1
    rw [b1]
    obtain ⟨g1, g2⟩ := end_eq b2 ((x.1 5) - (x.1 5) / 24 * 24) (by rw [(fz_h _ _ _ _).1, e5])
    refine ⟨g1, (k2.trans b3).trans g2, d, by omega, ?_⟩
    rw [hEnd_k _ 6 (by decide) (by decide) (by decide), ed, kf.1 6 (by decide)]
  · rw [if_neg c]
    obtain ⟨z, b1, b2, b3, b4⟩ := rain_loop ((x.1 5) - (x.1 5) / 24 * 24) _ c 13 0 _ _ k1 (by decide) (by decide)
    rw [nI_0] at b1 b2 b4
    rw [b1]
    obtain ⟨g1, g2⟩ := end_eq b2 ((x.1 5) - (x.1 5) / 24 * 24) (by rw [b4, e5])
    refine ⟨g1, (k2.trans b3).trans g2, 0, by omega, ?_⟩
    rw [hEnd_k _ 6 (by decide) (by decide) (by decide), pX1_letRainFall, b4, kf.1 6 (by decide)]
    exact (Int32.add_zero _).symm
theorem pass_step (a : Int32) (n : Nat) (v2 v3 : Int32) (x : SR) : pX1_passHours_L7 a (n + 1) v2 v3 x = if a ≤ v3 then (((x.1 6) - v2), x) else pX1_passHours_L7 a n v2 (v3 + 1) (cHour x) := by
  rw [pX1_passHours_L7]
  unfold cHour hEnd
  by_cases c : a ≤ v3
  · rw [if_pos c, if_pos c]
  · rw [if_neg c, if_neg c]
    by_cases d : pX1_rainsAfter 0 (pX1_letKeepersAct x) = 0
    · rw [if_pos d, if_pos d]
    · rw [if_neg d, if_neg d]
theorem pass_L (a v2 : Int32) : ∀ (n : Nat) (v3 : Int32) (x y : SR) (D : Nat), RS x (y.2 0) → x.1 6 = v2 + nI D → (pX3_passes_L10 a n v2 v3 y).1 = (pX1_passHours_L7 a n v2 v3 x).1 ∧ RS (pX1_passHours_L7 a n v2 v3 x).2 ((pX3_passes_L10 a n v2 v3 y).2.2 0) ∧ F2 y (pX3_passes_L10 a n v2 v3 y).2 ∧ ∃ d, d ≤ D + 600 * n ∧ (pX1_passHours_L7 a n v2 v3 x).1 = nI d := by
  intro n
  induction n with
  | zero => intro v3 x y D h hD; exact ⟨rfl, h, F2.refl y, 0, by omega, rfl⟩
  | succ n ih =>
    intro v3 x y D h hD
    rw [pass_step, pX3_passes_L10]
    by_cases c : a ≤ v3
    · rw [if_pos c, if_pos c]
      have e9 : y.2 0 (ix 9) = x.1 6 := h.1.2.2.2.1.symm
      refine ⟨by rw [e9], h, F2.refl y, D, by omega, ?_⟩
      show x.1 6 - v2 = nI D
      rw [hD, Int32.add_comm, Int32.add_sub_cancel]
    · rw [if_neg c, if_neg c]
      obtain ⟨g1, g2, d, hd, ed⟩ := hour_eq h
      obtain ⟨r1, r2, r3, d2, hd2, ed2⟩ := ih (v3 + 1) _ _ (D + d) g1 (by rw [ed, hD, Int32.add_assoc, nI_add])
      exact ⟨r1, r2, g2.trans r3, d2, by omega, ed2⟩
theorem pass_eq {x y : SR} (h : RS x (y.2 0)) (a : Int32) : (pX3_passes a y).1 = (pX1_passHours a x).1 ∧ RS (pX1_passHours a x).2 ((pX3_passes a y).2.2 0) ∧ F2 y (pX3_passes a y).2 ∧ ∃ d, d ≤ 60000 ∧ (pX1_passHours a x).1 = nI d := by
  rw [pX3_passes, pX1_passHours, (show y.2 0 (ix 9) = x.1 6 from h.1.2.2.2.1.symm)]
  obtain ⟨r1, r2, r3, d, hd, ed⟩ := pass_L a (x.1 6) 100 0 x y 0 h (Int32.add_zero _).symm
  exact ⟨r1, r2, r3, d, by omega, ed⟩
-- what hours leave: keepers' number and settings
theorem fz_3 (pl : Bool) : ∀ (n i : Nat) (x : SR), (fz pl n i x).1 3 = x.1 3 := by
  intro n
  induction n with
  | zero => intro i x; rfl
  | succ n ih =>
    intro i x
    rw [fz]
    by_cases c : 12 ≤ i
    · rw [if_pos c]
    · rw [if_neg c]
      by_cases ho : opn x i = true
      · rw [if_pos ho]
        by_cases c2 : pl = true ∧ ¬ 50 ≤ (dryA x (nI i)).2 2 i
        · rw [if_pos c2]
          exact ih (i + 1) _
        · rw [if_neg c2]
          exact ih (i + 1) _
      · rw [if_neg ho]
        exact ih (i + 1) _
theorem rain_1 : ∀ (n : Nat) (v : Int32) (x : SR), (pX1_letRainFall_L2 n v x).1 = x.1 := by
  intro n
  induction n with
  | zero => intro v x; rfl
  | succ n ih =>
    intro v x
    rw [pX1_letRainFall_L2]
    by_cases c : (12 : Int32) ≤ v
    · rw [if_pos c]
    · rw [if_neg c]
      by_cases d : pX2_has (pX1_openOnes x) v = 0
      · rw [if_pos d]
        exact ih _ _
      · rw [if_neg d]
        exact ih _ _
theorem hour_3 (x : SR) : (cHour x).1 3 = x.1 3 := by
  have kf := (acts_Kf x).1 3 (by decide)
  unfold cHour
  by_cases c : pX1_rainsAfter 0 (pX1_letKeepersAct x) = 0
  · rw [if_pos c, play_dry]
    rw [hEnd_k _ 3 (by decide) (by decide) (by decide), fz_3, kf]
  · rw [if_neg c]
    rw [hEnd_k _ 3 (by decide) (by decide) (by decide), pX1_letRainFall, rain_1, kf]
theorem pass_3 (a : Int32) : ∀ (n : Nat) (v2 v3 : Int32) (x : SR), (pX1_passHours_L7 a n v2 v3 x).2.1 3 = x.1 3 := by
  intro n
  induction n with
  | zero => intro v2 v3 x; rfl
  | succ n ih =>
    intro v2 v3 x
    rw [pass_step]
    by_cases c : a ≤ v3
    · rw [if_pos c]
    · rw [if_neg c, ih, hour_3]
