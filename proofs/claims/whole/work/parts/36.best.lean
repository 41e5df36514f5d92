-- a keeper comes
def mK (k a : Nat) (y : SR) : SR := mW (mW (mW (mW (mW (mW y (84 + 5 * k + 0) (nI a)) (84 + 5 * k + 1) 0) (84 + 5 * k + 2) 0) (84 + 5 * k + 3) 0) (84 + 5 * k + 4) 0) 11 (nI (k + 1))
theorem comes_step {k a : Nat} (hk : k < 5) (n j : Nat) (hj : j < 5) (y : SR) : pX3_keeperComes_L10 (nI a) (n + 1) (nI k) (nI j) y = pX3_keeperComes_L10 (nI a) n (nI k) (nI (j + 1)) (mW y (84 + 5 * k + j) (if j = 0 then nI a else 0)) := by
  rw [pX3_keeperComes_L10, if_neg (show ¬ (5 : Int32) ≤ nI j by
    rw [show (5 : Int32) = nI 5 from rfl, nI_leI (by omega) (by omega)]
    omega), nI_1]
  unfold pR
  rw [kp_i hk hj]
  by_cases c : j = 0
  · subst c
    rw [if_pos (show nI 0 = 0 from rfl), if_pos rfl]
    rfl
  · rw [if_neg (show ¬ nI j = 0 from fun e => c ((nI_eq (by omega) (by omega)).mp (e.trans nI_0.symm))), if_neg c]
    rfl
theorem comes_eq {k a : Nat} (hk : k < 5) (y : SR) (h11 : y.2 0 11 = nI k) : pX3_keeperComes (nI a) y = (nI k, mK k a y) := by
  rw [pX3_keeperComes, show y.2 0 (ix 11) = nI k from h11, ← nI_0, comes_step hk 5 0 (by decide), comes_step hk 4 1 (by decide), comes_step hk 3 2 (by decide), comes_step hk 2 3 (by decide), comes_step hk 1 4 (by decide), pX3_keeperComes_L10, if_pos (show (5 : Int32) ≤ nI (4 + 1) by decide)]
  rw [if_pos rfl, if_neg (show ¬ 1 = 0 by decide), if_neg (show ¬ 2 = 0 by decide), if_neg (show ¬ 3 = 0 by decide), if_neg (show ¬ 4 = 0 by decide)]
  unfold mK
  have e : (mW (mW (mW (mW (mW y (84 + 5 * k + 0) (nI a)) (84 + 5 * k + 1) 0) (84 + 5 * k + 2) 0) (84 + 5 * k + 3) 0) (84 + 5 * k + 4) 0).2 0 (ix 11) = nI k := by
    rw [show ix 11 = 11 from rfl, mW_0, mW_0, mW_0, mW_0, mW_0, up_ne _ _ (by omega), up_ne _ _ (by omega), up_ne _ _ (by omega), up_ne _ _ (by omega), up_ne _ _ (by omega)]
    exact h11
  rw [e, nI_1]
  rfl
theorem RS.add {x x' : SR} {m m' : Nat → Int32} (h : RS x m) {k a : Nat} (hk : k < 5) (ha : a < 12) (em : m 11 = nI k) (e1 : ∀ i, i ≠ 3 → x'.1 i = x.1 i) (e3 : x'.1 3 = nI (k + 1)) (e2 : ∀ r, r < 5 → x'.2 r = x.2 r) (er : ∀ j, j < 5 → ∀ q, q ≠ k → x'.2 (5 + j) q = x.2 (5 + j) q) (ev : ∀ j, j < 5 → x'.2 (5 + j) k = if j = 0 then nI a else 0) (m11 : m' 11 = nI (k + 1)) (mo : ∀ j, j < 109 → j ≠ 11 → ¬ (84 + 5 * k ≤ j ∧ j < 84 + 5 * k + 5) → m' j = m j) (mv : ∀ j, j < 5 → m' (84 + 5 * k + j) = if j = 0 then nI a else 0) : RS x' m' := by
  obtain ⟨⟨a1, a2, a3, a4, a5, a6⟩, s, P, K, B⟩ := h
  refine ⟨⟨fun j hj => ?_, ?_, ?_, ?_, ?_, ?_⟩, s.cg (fun j hj => mo j (by omega) (by omega) (by omega)), fun p hp => (P p hp).cg (fun q hq => by rw [e1 q (by omega)]) (fun r _ h2 => by rw [e2 r h2]) (fun j hj => mo _ (by omega) (by omega) (by omega)), ?_, B.cg (fun q hq => e1 q (by omega))⟩
  · rw [e2 0 (by decide), mo j (by omega) (by omega) (by omega)]
    exact a1 j hj
  · rw [e1 5 (by decide), mo 7 (by decide) (by decide) (by omega)]
    exact a2
  · rw [e1 4 (by decide), mo 8 (by decide) (by decide) (by omega)]
    exact a3
  · rw [e1 6 (by decide), mo 9 (by decide) (by decide) (by omega)]
    exact a4
  · rw [e1 7 (by decide), mo 10 (by decide) (by decide) (by omega)]
    exact a5
  · rw [e3, m11]
  · have t1 : Int32.toInt (nI (k + 1)) = ((k + 1 : Nat) : Int) := nI_toInt (by omega)
    have t0 : Int32.toInt (nI k) = (k : Int) := nI_toInt (by omega)
    refine ⟨by rw [m11]; unfold inI; rw [t1]; omega, fun k2 hk2 => ?_⟩
    rw [m11, t1] at hk2
    by_cases e : k2 = k
    · subst e
      refine ⟨fun j hj => by rw [ev j hj, mv j hj], ?_⟩
      rw [show 84 + 5 * k2 = 84 + 5 * k2 + 0 from rfl, mv 0 (by decide), if_pos rfl]
      unfold inI
      rw [nI_toInt (by omega)]
      omega
    · obtain ⟨c, d⟩ := K.2 k2 (by rw [em, t0]; omega)
      refine ⟨fun j hj => ?_, ?_⟩
      · rw [er j hj k2 e, mo _ (by omega) (by omega) (by omega)]
        exact c j hj
      · rw [mo _ (by omega) (by omega) (by omega)]
        exact d
theorem addK_eq {x y : SR} (h : RS x (y.2 0)) {k a : Nat} (hk : k < 5) (ha : a < 12) (h11 : y.2 0 11 = nI k) : RS (pX1_addKeeper (nI a) x) ((mK k a y).2 0) ∧ F2 y (mK k a y) ∧ (pX1_addKeeper (nI a) x).1 3 = nI (k + 1) := by
  have e3 : x.1 3 = nI k := h.1.2.2.2.2.2.trans h11
  have hix : ix (nI k) = k := ix_nI (by omega)
  have ea : pX1_addKeeper (nI a) x = pS (pR (pR (pR (pR (pR x 5 (nI k) (nI a)) 6 (nI k) 0) 7 (nI k) 0) 8 (nI k) 0) 9 (nI k) 0) 3 (nI (k + 1)) := by
    rw [pX1_addKeeper, e3, if_neg (nI_pos (by omega)), if_pos (show nI k ≤ 4 by
      rw [show (4 : Int32) = nI 4 from rfl, nI_leI (by omega) (by omega)]
      omega), nI_1]
  rw [ea]
  have em : (mK k a y).2 0 = up (up (up (up (up (up (y.2 0) (84 + 5 * k + 0) (nI a)) (84 + 5 * k + 1) 0) (84 + 5 * k + 2) 0) (84 + 5 * k + 3) 0) (84 + 5 * k + 4) 0) 11 (nI (k + 1)) := by
    unfold mK
    rw [mW_0, mW_0, mW_0, mW_0, mW_0, mW_0]
  refine ⟨?_, ((((((F2_mW _ _ _).trans (F2_mW _ _ _)).trans (F2_mW _ _ _)).trans (F2_mW _ _ _)).trans (F2_mW _ _ _)).trans (F2_mW _ _ _)), rfl⟩
  rw [em]
  refine h.add hk ha h11 (fun i hi => up_ne _ _ hi) rfl (fun r hr => ?_) (fun j hj q hq => ?_) (fun j hj => ?_) (up_same _ _ _) (fun j _ hj hn => ?_) (fun j hj => ?_)
  · show (pR (pR (pR (pR (pR x 5 (nI k) (nI a)) 6 (nI k) 0) 7 (nI k) 0) 8 (nI k) 0) 9 (nI k) 0).2 r = _
    rw [pR_or (by omega), pR_or (by omega), pR_or (by omega), pR_or (by omega), pR_or (by omega)]
  · show (pR (pR (pR (pR (pR x 5 (nI k) (nI a)) 6 (nI k) 0) 7 (nI k) 0) 8 (nI k) 0) 9 (nI k) 0).2 (5 + j) q = _
    rw [pR_off (Or.inr (by rw [hix]; exact hq)), pR_off (Or.inr (by rw [hix]; exact hq)), pR_off (Or.inr (by rw [hix]; exact hq)), pR_off (Or.inr (by rw [hix]; exact hq)), pR_off (Or.inr (by rw [hix]; exact hq))]
  · show (pR (pR (pR (pR (pR x 5 (nI k) (nI a)) 6 (nI k) 0) 7 (nI k) 0) 8 (nI k) 0) 9 (nI k) 0).2 (5 + j) k = _
    rcases (show j = 0 ∨ j = 1 ∨ j = 2 ∨ j = 3 ∨ j = 4 by omega) with rfl | rfl | rfl | rfl | rfl
    · rw [pR_or (by decide), pR_or (by decide), pR_or (by decide), pR_or (by decide), if_pos rfl, pR_sm, hix, up_same]
    · rw [pR_or (by decide), pR_or (by decide), pR_or (by decide), if_neg (by decide), pR_sm, hix, up_same]
    · rw [pR_or (by decide), pR_or (by decide), if_neg (by decide), pR_sm, hix, up_same]
    · rw [pR_or (by decide), if_neg (by decide), pR_sm, hix, up_same]
    · rw [if_neg (by decide), pR_sm, hix, up_same]
  · rw [up_ne _ _ hj, up_ne _ _ (by omega), up_ne _ _ (by omega), up_ne _ _ (by omega), up_ne _ _ (by omega), up_ne _ _ (by omega)]
  · rcases (show j = 0 ∨ j = 1 ∨ j = 2 ∨ j = 3 ∨ j = 4 by omega) with rfl | rfl | rfl | rfl | rfl
    · rw [up_ne _ _ (by omega), up_ne _ _ (by omega), up_ne _ _ (by omega), up_ne _ _ (by omega), up_ne _ _ (by omega), up_same, if_pos rfl]
    · rw [up_ne _ _ (by omega), up_ne _ _ (by omega), up_ne _ _ (by omega), up_ne _ _ (by omega), up_same, if_neg (by decide)]
    · rw [up_ne _ _ (by omega), up_ne _ _ (by omega), up_ne _ _ (by omega), up_same, if_neg (by decide)]
    · rw [up_ne _ _ (by omega), up_ne _ _ (by omega), up_same, if_neg (by decide)]
    · rw [up_ne _ _ (by omega), up_same, if_neg (by decide)]
-- bestPlace
theorem RN.kk {x : SR} {m : Nat → Int32} (h : RN x m) : ∃ k, k < 5 ∧ m 11 = nI k := vp_in_of (vp_in_iff.mpr ⟨h.1.2.2.2.1.1.1, by have := h.2.1; omega⟩) (by decide)
theorem one_more {t : TV} {Y y : SR} (h : RN (t.1 0) (Y.2 0)) (hY : ∀ j, j < 109 → y.2 0 j = Y.2 0 j) {i : Nat} (hi : i < 12) (a : Int32) : (pX2_coinsWithOneMoreAt (nI i) a t).1 = (pX3_passes a (pX3_keeperComes (nI i) y).2).1 ∧ (∃ s, (pX2_coinsWithOneMoreAt (nI i) a t).2 = tQ t 2 s) ∧ F2 y (pX3_passes a (pX3_keeperComes (nI i) y).2).2 ∧ ∃ d, d ≤ 60000 ∧ (pX2_coinsWithOneMoreAt (nI i) a t).1 = nI d := by
  obtain ⟨k, hk, ek⟩ := h.kk
  have hk' : y.2 0 11 = nI k := (hY 11 (by decide)).trans ek
  have hc : RS (pX2_copy (t.1 0) (t.1 2)) (y.2 0) := (h.1.mc hY).cp _
  obtain ⟨a1, a2, -⟩ := addK_eq hc hk hi hk'
  obtain ⟨p1, p2, p3, p4⟩ := pass_eq a1 a
  rw [comes_eq hk y hk']
  rw [pX2_coinsWithOneMoreAt]
  exact ⟨p1.symm, ⟨_, by rw [tQ_tQ, tQ_tQ]⟩, a2.trans p3, p4⟩
theorem best_L {Y : SR} (a b : Int32) : ∀ (n i : Nat) (v3 v4 w4 : Int32) (t : TV) (y : SR), RN (t.1 0) (Y.2 0) → TI Y y → (∀ j, j < 109 → y.2 0 j = Y.2 0 j) → i ≤ 12 → 12 - i < n → ((i = 0 ∧ v3 = -6 ∧ w4 = -1) ∨ (¬ v3 = -6 ∧ v4 = w4)) → (pX2_bestPlace_L32 a b n v3 v4 (nI i) t).1 = (pX3_bestPlace_L44 a b n v3 w4 (nI i) y).1 ∧ (∃ s, (pX2_bestPlace_L32 a b n v3 v4 (nI i) t).2 = tQ t 2 s) ∧ TR Y (pX3_bestPlace_L44 a b n v3 w4 (nI i) y).2 := by
  intro n
  induction n with
  | zero => intro i v3 v4 w4 t y h hT hY h1 h2; omega
  | succ n ih =>
    intro i v3 v4 w4 t y h hT hY h1 h2 hv
    have tid : t = tQ t 2 (t.1 2) := by
      unfold tQ
      rw [up_id]
    rw [pX2_bestPlace_L32, pX3_bestPlace_L44]
    by_cases c : i = 12
    · subst c
      rw [if_pos (show (12 : Int32) ≤ nI 12 by decide), if_pos (show (12 : Int32) ≤ nI 12 by decide)]
      have hR : TR Y y := ⟨hT.1, hT.2.1, hY⟩
      by_cases cb : b = 0
      · rw [if_pos cb, if_pos cb]
        exact ⟨rfl, ⟨_, tid⟩, hR⟩
      · rw [if_neg cb, if_neg cb]
        rcases hv with ⟨e, -⟩ | ⟨-, e⟩
        · exact absurd e (by decide)
        · subst e
          exact ⟨rfl, ⟨_, tid⟩, hR⟩
    · have hi : i < 12 := by omega
      obtain ⟨o1, ⟨s, o2⟩, o3, d, hd, o4⟩ := one_more h hY hi a
      rw [if_neg (lt12 hi).2, if_neg (lt12 hi).2, nI_1, ← o1]
      have hT2 := (hT.f2 o3).again
      have step : ∀ (v3' v4' w4' : Int32), (¬ v3' = -6 ∧ v4' = w4') → (pX2_bestPlace_L32 a b n v3' v4' (nI (i + 1)) (pX2_coinsWithOneMoreAt (nI i) a t).2).1 = (pX3_bestPlace_L44 a b n v3' w4' (nI (i + 1)) (pX3_moves 1 0 0 0 (pX3_passes a (pX3_keeperComes (nI i) y).2).2)).1 ∧ (∃ s, (pX2_bestPlace_L32 a b n v3' v4' (nI (i + 1)) (pX2_coinsWithOneMoreAt (nI i) a t).2).2 = tQ t 2 s) ∧ TR Y (pX3_bestPlace_L44 a b n v3' w4' (nI (i + 1)) (pX3_moves 1 0 0 0 (pX3_passes a (pX3_keeperComes (nI i) y).2).2)).2 := by
        intro v3' v4' w4' hv'
        rw [o2]
        obtain ⟨r1, ⟨s2, r2⟩, r3⟩ := ih (i + 1) v3' v4' w4' (tQ t 2 s) _ (by rw [tQ_of _ _ (by decide)]; exact h) hT2.1 hT2.2 (by omega) (by omega) (Or.inr hv')
        exact ⟨r1, ⟨s2, by rw [r2, tQ_tQ]⟩, r3⟩
      have ni6 : ¬ nI i = -6 := fun q => by
        have q2 := congrArg Int32.toInt q
        rw [nI_toInt (by omega), show Int32.toInt (-6) = -6 from rfl] at q2
        omega
      rcases hv with ⟨-, e3, e4⟩ | ⟨e3, e4⟩
      · subst e3 e4
        rw [if_pos rfl, if_neg (show ¬ (pX2_coinsWithOneMoreAt (nI i) a t).1 ≤ -1 by
          rw [o4, Int32.le_iff_toInt_le, nI_toInt (by omega), show Int32.toInt (-1) = -1 from rfl]
          omega)]
        exact step _ _ _ ⟨ni6, rfl⟩
      · subst e4
        rw [if_neg e3]
        by_cases cl : (pX2_coinsWithOneMoreAt (nI i) a t).1 ≤ v4
        · rw [if_pos cl, if_pos cl]
          exact step _ _ _ ⟨e3, rfl⟩
        · rw [if_neg cl, if_neg cl]
          exact step _ _ _ ⟨ni6, rfl⟩
theorem bestPlace_eq {t : TV} {y : SR} (h : RN (t.1 0) (y.2 0)) (a b : Int32) : (pX2_bestPlace a b t).1 = (pX3_bestPlace a b y).1 ∧ (∃ s, (pX2_bestPlace a b t).2 = tQ t 2 s) ∧ TR y (pX3_bestPlace a b y).2 := by
  have tid : t = tQ t 2 (t.1 2) := by
    unfold tQ
    rw [up_id]
  rw [pX2_bestPlace, pX3_bestPlace, win_le, win_le]
  by_cases c : a < 1
  · rw [if_pos c, if_pos c, if_pos (show (0 : Int32) = 0 from rfl)]
    exact ⟨rfl, ⟨_, tid⟩, TR.rf y⟩
  · rw [if_neg c, if_neg c]
    by_cases d : a ≤ 48
    · rw [if_neg (fun z => Int32.not_le.mpr z d), if_pos d, if_neg (show ¬ (1 : Int32) = 0 by decide)]
      by_cases e : b < 0
      · rw [if_pos e, if_pos e, if_pos (show (0 : Int32) = 0 from rfl)]
        exact ⟨rfl, ⟨_, tid⟩, TR.rf y⟩
      · rw [if_neg e, if_neg e]
        by_cases f : b ≤ 1
        · rw [if_pos f, if_pos f, if_neg (show ¬ (1 : Int32) = 0 by decide)]
          have g := best_L a b 13 0 (-6) 0 (-1) t (pX3_moves 0 0 1 0 y) h (TI_to y) (fun j _ => by rw [to_0]) (by decide) (by decide) (Or.inl ⟨rfl, rfl, rfl⟩)
          rw [nI_0] at g
          exact g
        · rw [if_neg f, if_neg f, if_pos (show (0 : Int32) = 0 from rfl)]
          exact ⟨rfl, ⟨_, tid⟩, TR.rf y⟩
    · rw [if_pos (Int32.not_le.mp d), if_neg d, if_pos (show (0 : Int32) = 0 from rfl)]
      exact ⟨rfl, ⟨_, tid⟩, TR.rf y⟩
