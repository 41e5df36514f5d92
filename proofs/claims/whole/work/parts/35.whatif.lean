-- the hours rained on, where no piano stands
theorem has_there {M a : Int32} (h : ¬ pX2_has M a = 0) : ∃ i, i < 12 ∧ a = nI i ∧ bt M i = true := by
  rcases pl_cases a with ⟨i, hi, rfl⟩ | hn
  · refine ⟨i, hi, rfl, ?_⟩
    rw [has_bt _ hi] at h
    by_cases c : bt M i = true
    · exact c
    · rw [if_neg c] at h
      exact absurd rfl h
  · exact absurd (has_no _ hn) h
theorem k4_go (k c : Int32) (x : SR) : (pX1_goTowards k c x).2 4 = x.2 4 := by
  rw [pX1_goTowards]
  by_cases h : c ≤ x.2 5 (ix k)
  · rw [if_pos h]
    rfl
  · rw [if_neg h]
    rfl
theorem k4_at (act : Int32 → Int32 → SR → SR) (ha : ∀ k c x, (act k c x).2 4 = x.2 4) (k c v : Int32) (x : SR) : (cAt act k c v x).2.2 4 = x.2 4 := by
  show (if (x.2 5 (ix k)) = c then act k c x else pX1_goTowards k c x).2 4 = x.2 4
  by_cases h : (x.2 5 (ix k)) = c
  · rw [if_pos h]
    exact ha k c x
  · rw [if_neg h]
    exact k4_go k c x
theorem k4_cGo (b v k : Int32) (x : SR) : (cGo b v k x).2.2 4 = x.2 4 := by
  unfold cGo
  by_cases c3 : b = 0
  · rw [if_pos c3]
    by_cases c4 : (pX1_nearest ((x.1 2) &&& (v ^^^ (-1))) (x.2 5 (ix k))) = (-6)
    · rw [if_pos c4]
      by_cases c5 : (pX1_nearest ((pX1_outOfTune x) &&& (v ^^^ (-1))) (x.2 5 (ix k))) = (-6)
      · rw [if_pos c5]
      · rw [if_neg c5]
        exact k4_at pX1_tune (fun _ _ _ => rfl) _ _ _ _
    · rw [if_neg c4]
      exact k4_at pX1_takeCoverOff (fun _ _ _ => rfl) _ _ _ _
  · rw [if_neg c3]
    by_cases c4 : (pX1_nearest ((x.1 1) &&& (v ^^^ (-1))) (x.2 5 (ix k))) = (-6)
    · rw [if_pos c4]
      by_cases c5 : (pX1_nearest ((pX1_outOfTune x) &&& (v ^^^ (-1))) (x.2 5 (ix k))) = (-6)
      · rw [if_pos c5]
      · rw [if_neg c5]
        exact k4_at pX1_tune (fun _ _ _ => rfl) _ _ _ _
    · rw [if_neg c4]
      exact k4_at pX1_putCoverOn (fun _ _ _ => rfl) _ _ _ _
theorem k4_acts : ∀ (n : Nat) (b v k : Int32) (x : SR), (pX1_letKeepersAct_L9 n b v k x).2 4 = x.2 4 := by
  intro n
  induction n with
  | zero => intro b v k x; rfl
  | succ n ih =>
    intro b v k x
    rw [acts_step]
    by_cases c1 : x.1 3 ≤ k
    · rw [if_pos c1]
    · rw [if_neg c1]
      by_cases c2 : 4 < k
      · rw [if_pos c2]
      · rw [if_neg c2, ih, k4_cGo]
theorem fz_4 (pl : Bool) : ∀ (n i : Nat) (x : SR), (fz pl n i x).2 4 = x.2 4 ∧ (fz pl n i x).1 0 = x.1 0 := by
  intro n
  induction n with
  | zero => intro i x; exact ⟨rfl, rfl⟩
  | succ n ih =>
    intro i x
    rw [fz]
    by_cases c : 12 ≤ i
    · rw [if_pos c]
      exact ⟨rfl, rfl⟩
    · rw [if_neg c]
      by_cases ho : opn x i = true
      · rw [if_pos ho]
        by_cases c2 : pl = true ∧ ¬ 50 ≤ (dryA x (nI i)).2 2 i
        · rw [if_pos c2]
          exact ih (i + 1) _
        · rw [if_neg c2]
          exact ih (i + 1) _
      · rw [if_neg ho]
        exact ih (i + 1) _
theorem rain_4 {p : Nat} : ∀ (n : Nat) (v : Int32) (x : SR), bt (x.1 0) p = false → (pX1_letRainFall_L2 n v x).2 4 p = x.2 4 p := by
  intro n
  induction n with
  | zero => intro v x _; rfl
  | succ n ih =>
    intro v x hp
    rw [pX1_letRainFall_L2]
    by_cases c : (12 : Int32) ≤ v
    · rw [if_pos c]
    · rw [if_neg c]
      by_cases d : pX2_has (pX1_openOnes x) v = 0
      · rw [if_pos d]
        exact ih _ _ hp
      · rw [if_neg d]
        refine (ih (v + 1) (rnA x v) hp).trans ?_
        obtain ⟨i, hi, rfl, hb⟩ := has_there d
        rw [pX1_openOnes, b_and] at hb
        have ne : p ≠ i := fun e => by
          subst e
          rw [hp, Bool.false_and] at hb
          exact absurd hb (by decide)
        unfold rnA
        rw [pR_off (Or.inr (by rw [ix_nI (by omega)]; exact ne)), pR_or (by decide), pR_or (by decide)]
theorem L46_2 : ∀ (n : Nat) (a s b v : Int32) (x : SR), (pX1_letThievesCome_L46 n a s b v x).2 = x.2 := by
  intro n
  induction n with
  | zero => intro a s b v x; rfl
  | succ n ih =>
    intro a s b v x
    rw [pX1_letThievesCome_L46]
    by_cases c : (12 : Int32) ≤ v
    · rw [if_pos c]
    · rw [if_neg c]
      by_cases cm : (((7 * (x.1 5)) + (3 * v)) - ((7 * (x.1 5)) + (3 * v)) / s * s) = 0
      · rw [if_pos cm]
        by_cases c1 : pX2_has (x.1 1) v = 0
        · rw [if_pos c1]
          exact ih _ _ _ _ _
        · rw [if_neg c1]
          by_cases ck : pX1_keepersAt v x = 0
          · rw [if_pos ck, ih]
            rfl
          · rw [if_neg ck]
            exact ih _ _ _ _ _
      · rw [if_neg cm]
        exact ih _ _ _ _ _
theorem thv_2 (x : SR) : (pX1_letThievesCome x).2 = x.2 := by
  rw [pX1_letThievesCome]
  by_cases c22 : 22 ≤ ((x.1 5) - (x.1 5) / 24 * 24)
  · rw [if_pos c22]
    by_cases c1 : 1 ≤ (x.2 0 (ix 6))
    · rw [if_pos c1]
      exact L46_2 _ _ _ _ _ _
    · rw [if_neg c1]
  · rw [if_neg c22]
    by_cases c5 : 5 < ((x.1 5) - (x.1 5) / 24 * 24)
    · rw [if_pos c5]
    · rw [if_neg c5]
      by_cases c1 : 1 ≤ (x.2 0 (ix 6))
      · rw [if_pos c1]
        exact L46_2 _ _ _ _ _ _
      · rw [if_neg c1]
theorem hEnd_2 (z : SR) : (hEnd z).2 = z.2 := thv_2 z
theorem hour_4 {p : Nat} (x : SR) (hp : bt (x.1 0) p = false) : (cHour x).2 4 p = x.2 4 p ∧ (cHour x).1 0 = x.1 0 := by
  have k0 : (pX1_letKeepersAct x).1 0 = x.1 0 := (acts_Kf x).2.1
  have k4 : (pX1_letKeepersAct x).2 4 = x.2 4 := k4_acts _ _ _ _ _
  unfold cHour
  by_cases c : pX1_rainsAfter 0 (pX1_letKeepersAct x) = 0
  · rw [if_pos c, play_dry, hEnd_2, hEnd_k _ 0 (by decide) (by decide) (by decide), (fz_4 _ _ _ _).1, (fz_4 _ _ _ _).2, k0, k4]
    exact ⟨rfl, rfl⟩
  · rw [if_neg c, hEnd_2, hEnd_k _ 0 (by decide) (by decide) (by decide), pX1_letRainFall, rain_4 _ _ _ (by rw [k0]; exact hp), rain_1, k0, k4]
    exact ⟨rfl, rfl⟩
theorem pass_4 (a : Int32) {p : Nat} : ∀ (n : Nat) (v2 v3 : Int32) (x : SR), bt (x.1 0) p = false → (pX1_passHours_L7 a n v2 v3 x).2.2 4 p = x.2 4 p := by
  intro n
  induction n with
  | zero => intro v2 v3 x _; rfl
  | succ n ih =>
    intro v2 v3 x hp
    rw [pass_step]
    by_cases c : a ≤ v3
    · rw [if_pos c]
    · obtain ⟨g1, g2⟩ := hour_4 x hp
      rw [if_neg c, ih _ _ _ (by rw [g2]; exact hp), g1]
-- willBeWet
theorem wet_L {x w : SR} {y : SR} {Y : SR} (hx : RS x (Y.2 0)) (hw : RS w (y.2 0)) (hT : TI Y y) (h4 : ∀ p, p < 12 → bt (x.1 0) p = false → w.2 4 p = x.2 4 p) (a : Int32) (t : TV) (e0 : t.1 0 = x) (e2 : t.1 2 = w) (hb : ∀ p, p < 12 → bt (w.1 0) p = bt (x.1 0) p) : ∀ (n i : Nat) (v : Int32), i ≤ 12 → 12 - i < n → (pX2_willBeWet_L38 a n v (nI i) t).1 = (pX3_willBeWet_L36 a n v (nI i) y).1 ∧ (pX2_willBeWet_L38 a n v (nI i) t).2 = t ∧ TR Y (pX3_willBeWet_L36 a n v (nI i) y).2 := by
  intro n
  induction n with
  | zero => intro i v h1 h2; omega
  | succ n ih =>
    intro i v h1 h2
    have hbk : TR Y (pX3_moves 1 0 0 0 y) := hT.back
    rw [pX2_willBeWet_L38, pX3_willBeWet_L36]
    by_cases c : i = 12
    · subst c
      rw [if_pos (show (12 : Int32) ≤ nI 12 by decide), if_pos (show (12 : Int32) ≤ nI 12 by decide)]
      dsimp only
      exact ⟨rfl, rfl, hbk⟩
    · have hi : i < 12 := by omega
      have hix : ix (nI i) = i := ix_nI (by omega)
      rw [if_neg (lt12 hi).2, if_neg (lt12 hi).2, nI_1, hix, e0, e2, Int32.or_zero, show pX3_pianoPart (nI i) 5 y = y.2 0 (12 + 6 * i + 5) from pP 5 hi (by decide) y, show ix (((12 : Int32) + (6 * nI i)) + 5) = 12 + 6 * i + 5 from pp_i hi (by decide), hT.2.2 _ (by omega)]
      by_cases c0 : bt (x.1 0) i = true
      · rw [← ((hx.2.2.1 i hi).2.2.2.2.1 c0).2.2.2.1, ← ((hw.2.2.1 i hi).2.2.2.2.1 ((hb i hi).trans c0)).2.2.2.1]
        by_cases cl : w.2 4 i ≤ x.2 4 i
        · rw [if_pos cl, if_pos cl]
          exact ih (i + 1) v (by omega) (by omega)
        · rw [if_neg cl, if_neg cl]
          exact ih (i + 1) _ (by omega) (by omega)
      · have f0 := Bool.eq_false_iff.mpr c0
        rw [h4 i hi f0, (hx.2.2.1 i hi).2.2.2.2.2 f0, (hw.2.2.1 i hi).2.2.2.2.2 ((hb i hi).trans f0), if_pos (Int32.le_refl _), if_pos (Int32.le_refl _)]
        exact ih (i + 1) v (by omega) (by omega)
theorem pass_b0 (a : Int32) : ∀ (n : Nat) (v2 v3 : Int32) (x : SR), (pX1_passHours_L7 a n v2 v3 x).2.1 0 = x.1 0 := by
  intro n
  induction n with
  | zero => intro v2 v3 x; rfl
  | succ n ih =>
    intro v2 v3 x
    rw [pass_step]
    by_cases c : a ≤ v3
    · rw [if_pos c]
    · have g : (cHour x).1 0 = x.1 0 := (hour_4 (p := 32) x (b_big (by decide))).2
      rw [if_neg c, ih, g]
theorem win_le (a lo hi : Int32) : pX3_within a lo hi = if a < lo then 0 else if a ≤ hi then 1 else 0 := by
  rw [pX3_within]
  by_cases c : a < lo
  · rw [if_pos c, if_pos c]
  · rw [if_neg c, if_neg c]
    by_cases d : a ≤ hi
    · rw [if_neg (fun z => Int32.not_le.mpr z d), if_pos d]
    · rw [if_pos (Int32.not_le.mp d), if_neg d]
theorem willBeWet_eq {t : TV} {y : SR} (h : RS (t.1 0) (y.2 0)) (a : Int32) : (pX2_willBeWet a t).1 = (pX3_willBeWet a y).1 ∧ (∃ s, (pX2_willBeWet a t).2 = tQ t 2 s) ∧ TR y (pX3_willBeWet a y).2 := by
  have tid : t = tQ t 2 (t.1 2) := by
    unfold tQ
    rw [up_id]
  rw [pX2_willBeWet, pX3_willBeWet, win_le]
  by_cases c : a < 1
  · rw [if_pos c, if_pos c, if_pos (show (0 : Int32) = 0 from rfl)]
    exact ⟨rfl, ⟨_, tid⟩, TR.rf y⟩
  · rw [if_neg c, if_neg c]
    by_cases d : a ≤ 99
    · rw [if_pos d, if_pos d, if_neg (show ¬ (1 : Int32) = 0 by decide)]
      have hc : RS (pX2_copy (t.1 0) (t.1 2)) ((pX3_moves 0 0 1 0 y).2 0) := by
        rw [to_0]
        exact h.cp _
      obtain ⟨p1, p2, p3, -⟩ := pass_eq hc a
      have g := wet_L (a := a) (t := tQ (tQ t 2 (pX2_copy (t.1 0) (t.1 2))) 2 ((pX1_passHours a (pX2_copy (t.1 0) (t.1 2))).2)) (x := t.1 0) (w := (pX1_passHours a (pX2_copy (t.1 0) (t.1 2))).2) (Y := y) h p2 ((TI_to y).f2 p3) (fun p hp hb => by
        rw [pX1_passHours, pass_4 _ _ _ _ _ (by rw [(SA_copy (t.1 0) (t.1 2)).1 0 (by decide)]; exact hb), (SA_copy (t.1 0) (t.1 2)).2.2.1 4 (by decide) (by decide) p hp]) (by rw [tQ_of _ _ (by decide), tQ_of _ _ (by decide)]) (tQ_at _ _ _) (fun p hp => by
        rw [pX1_passHours, pass_b0, (SA_copy (t.1 0) (t.1 2)).1 0 (by decide)]) 13 0 0 (by decide) (by decide)
      rw [nI_0] at g
      exact ⟨g.1, ⟨_, g.2.1.trans (tQ_tQ _ _ _ _)⟩, g.2.2⟩
    · rw [if_neg d, if_neg d, if_pos (show (0 : Int32) = 0 from rfl)]
      exact ⟨rfl, ⟨_, tid⟩, TR.rf y⟩
