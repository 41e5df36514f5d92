-- a keeper, a cover, hours
theorem keeper_op {x y : SR} (h : RN x (y.2 0)) (a : Int32) : OPs x y (pX3_whyNoKeeper a y) (fun z => (pX3_keeperComes a z).1) (fun z => (pX3_keeperComes a z).2) (pX1_hireKeeper a x) := by
  unfold OPs
  rw [pX1_hireKeeper, pX3_whyNoKeeper, isPl_C]
  rcases pl_cases a with ⟨i, hi, rfl⟩ | hn
  · rw [isPl3 hi, if_neg (show ¬ (1 : Int32) = 0 by decide), if_neg (show ¬ (1 : Int32) = 0 by decide)]
    obtain ⟨k, hk, ek⟩ := h.kk
    have e3 : x.1 3 = nI k := h.1.1.2.2.2.2.2.trans ek
    rw [e3, show y.2 0 (ix 11) = nI k from ek]
    by_cases c : k = 4
    · subst c
      rw [if_neg (show ¬ nI 4 < 4 by decide), if_pos (show nI 4 = 4 by decide)]
      exact Or.inl ⟨by decide, rfl⟩
    · rw [if_pos (show nI k < 4 by rw [show (4 : Int32) = nI 4 from rfl, nI_ltI (by omega) (by omega)]; omega), if_neg (show ¬ nI k = 4 from fun e => c ((nI_eq (by omega) (by omega)).mp e))]
      obtain ⟨-, -, e4⟩ := addK_eq h.1 hk hi ek
      have er : ((pX1_addKeeper (nI i) x).1 3) - 1 = nI k := by rw [e4, nI_pred]
      refine Or.inr ⟨by decide, ?_, fun z hz => ?_⟩
      · dsimp only
        rw [er]
        exact le0_nI (by omega)
      · have hz1 : RS x (z.2 0) := by
          rw [hz]
          exact h.1
        have hk' : z.2 0 11 = nI k := by
          rw [hz]
          exact ek
        obtain ⟨g1, g2, g3⟩ := addK_eq hz1 hk hi hk'
        dsimp only
        rw [comes_eq hk z hk', er]
        refine ⟨rfl, ⟨g1, ?_, ?_⟩, g2⟩
        · have e11 : (mK k i z).2 0 11 = nI (k + 1) := g1.1.2.2.2.2.2.symm.trans g3
          rw [e11, nI_toInt (by omega)]
          omega
        · have e8 : (mK k i z).2 0 8 = z.2 0 8 := by
            unfold mK
            rw [mW_0, mW_0, mW_0, mW_0, mW_0, mW_0, up_ne _ _ (by omega), up_ne _ _ (by omega), up_ne _ _ (by omega), up_ne _ _ (by omega), up_ne _ _ (by omega), up_ne _ _ (by omega)]
          rw [e8, hz]
          exact h.2.2
  · rw [isPl_no hn, if_pos rfl, if_pos rfl]
    exact Or.inl ⟨by decide, rfl⟩
theorem keeper_eq {t : TV} {y : SR} (h : RT t y) (a : Int32) : (pX2_keeper a t).1 = (pX3_keeper a y).1 ∧ RT (pX2_keeper a t).2 (pX3_keeper a y).2 := by
  rw [pX2_keeper]
  exact change_ok h (keeper_op h.1 a) _ (by rw [pX3_keeper])
theorem cover_op {x y : SR} (h : RN x (y.2 0)) (a : Int32) : OPs x y (pX3_whyNoCover a y) (fun z => pX3_withCovers (pX3_setPiano a 3 1 z)) (fun z => pX3_setPiano a 3 1 z) (pX1_layCover a x) := by
  unfold OPs
  rw [pX1_layCover, pX3_whyNoCover, isPi_eq h.1]
  by_cases c : pX2_has (x.1 0) a = 0
  · rw [if_pos c, if_pos c]
    exact Or.inl ⟨by decide, rfl⟩
  · rw [if_neg c, if_neg c]
    obtain ⟨i, hi, rfl, hb⟩ := pi_there c
    have hP := h.1.2.2.1 i hi
    rw [cov3 hi hP, has_bt _ hi, b_or]
    by_cases c2 : bt (x.1 2) i = true
    · rw [c2, Bool.or_true, if_pos rfl, if_pos rfl, if_neg (show ¬ (2 : Int32) = 0 by decide), if_neg (show ¬ (1 : Int32) = 0 by decide)]
      exact Or.inl ⟨by decide, rfl⟩
    · have f2 := Bool.eq_false_iff.mpr c2
      rw [f2, Bool.or_false, if_neg (show ¬ false = true by decide)]
      by_cases c1 : bt (x.1 1) i = true
      · rw [if_pos c1, if_neg (show ¬ (1 : Int32) = 0 by decide), if_neg (show ¬ (1 : Int32) = 0 by decide)]
        exact Or.inl ⟨by decide, rfl⟩
      · rw [if_neg c1, if_pos (show (0 : Int32) = 0 from rfl), if_pos (show (0 : Int32) = 0 from rfl)]
        have s1 : bt ((x.1 1) ||| ((1 : Int32) <<< (nI i &&& 31))) i = true := bset_eq _ (by omega)
        have g : ∀ m, RS x m → RS (pS x 1 ((x.1 1) ||| (1 <<< (nI i &&& 31)))) (up m (12 + 6 * i + 3) 1) := fun m hm =>
          hm.cov (x' := pS x 1 ((x.1 1) ||| (1 <<< (nI i &&& 31)))) hi hb rfl rfl (fun j hj => up_ne _ _ (by omega)) (fun q hq => bset_ne (x.1 1) (by omega) hq) (fun q hq => rfl) 1 (((if_neg c2).trans (if_pos s1)).symm) (fun z => absurd z c2)
        have gy := g _ h.1
        refine Or.inr ⟨by decide, ?_, fun z hz => ?_⟩
        · refine bc_pos (fun q hq => ?_)
          have q1 := gy.2.2.2.2 1 (by decide) q hq
          have q2 := gy.2.2.2.2 2 (by decide) q hq
          rw [b_or]
          rw [show bt (x.1 2) q = false from q2, Bool.or_false]
          exact q1
        · have hz1 : RS x (z.2 0) := by
            rw [hz]
            exact h.1
          have g2 : RS (pS x 1 ((x.1 1) ||| (1 <<< (nI i &&& 31)))) ((mW z (12 + 6 * i + 3) 1).2 0) := by
            rw [mW_0]
            exact g _ hz1
          dsimp only
          rw [show pX3_setPiano (nI i) 3 1 z = mW z (12 + 6 * i + 3) 1 from sW 3 hi (by decide) 1 z]
          refine ⟨?_, h.rs g2 ?_ ?_, F2_mW _ _ _⟩
          · rw [withC_eq g2]
            rfl
          · rw [mW_0, hz, up_ne _ _ (by omega)]
          · rw [mW_0, hz, up_ne _ _ (by omega)]
theorem cover_eq {t : TV} {y : SR} (h : RT t y) (a : Int32) : (pX2_cover a t).1 = (pX3_cover a y).1 ∧ RT (pX2_cover a t).2 (pX3_cover a y).2 := by
  rw [pX2_cover]
  exact change_ok h (cover_op h.1 a) _ (by rw [pX3_cover])
theorem fz_r (pl : Bool) : ∀ (n i : Nat) (x : SR), (fz pl n i x).1 4 = x.1 4 := by
  intro n
  induction n with
  | zero => intro i x; rfl
  | succ n ih =>
    intro i x
    rw [fz]
    by_cases c : 12 ≤ i
    · rw [if_pos c]
    · rw [if_neg c]
      by_cases ho : opn x i = true
      · rw [if_pos ho]
        by_cases c2 : pl = true ∧ ¬ 50 ≤ (dryA x (nI i)).2 2 i
        · rw [if_pos c2]
          exact ih (i + 1) _
        · rw [if_neg c2]
          exact ih (i + 1) _
      · rw [if_neg ho]
        exact ih (i + 1) _
theorem hour_r (x : SR) : (cHour x).1 4 = x.1 4 := by
  have kf := (acts_Kf x).1 4 (by decide)
  unfold cHour
  by_cases c : pX1_rainsAfter 0 (pX1_letKeepersAct x) = 0
  · rw [if_pos c, play_dry]
    rw [hEnd_k _ 4 (by decide) (by decide) (by decide), fz_r, kf]
  · rw [if_neg c]
    rw [hEnd_k _ 4 (by decide) (by decide) (by decide), pX1_letRainFall, rain_1, kf]
theorem pass_r (a : Int32) : ∀ (n : Nat) (v2 v3 : Int32) (x : SR), (pX1_passHours_L7 a n v2 v3 x).2.1 4 = x.1 4 := by
  intro n
  induction n with
  | zero => intro v2 v3 x; rfl
  | succ n ih =>
    intro v2 v3 x
    rw [pass_step]
    by_cases c : a ≤ v3
    · rw [if_pos c]
    · rw [if_neg c, ih, hour_r]
theorem pass_RN {x y : SR} (h : RN x (y.2 0)) (a : Int32) : (pX3_passes a y).1 = (pX1_passHours a x).1 ∧ RN (pX1_passHours a x).2 ((pX3_passes a y).2.2 0) ∧ F2 y (pX3_passes a y).2 ∧ 0 ≤ (pX1_passHours a x).1 := by
  obtain ⟨p1, p2, p3, d, hd, ed⟩ := pass_eq h.1 a
  refine ⟨p1, ⟨p2, ?_⟩, p3, by rw [ed]; exact le0_nI (by omega)⟩
  have e11 : (pX3_passes a y).2.2 0 11 = y.2 0 11 := by
    rw [← (show (pX1_passHours a x).2.1 3 = _ from p2.1.2.2.2.2.2), pX1_passHours, pass_3]
    exact h.1.1.2.2.2.2.2
  have e8 : (pX3_passes a y).2.2 0 8 = y.2 0 8 := by
    rw [← (show (pX1_passHours a x).2.1 4 = _ from p2.1.2.2.1), pX1_passHours, pass_r]
    exact h.1.1.2.2.1
  rw [e11, e8]
  exact h.2
theorem pass_op {x y : SR} (h : RN x (y.2 0)) (a : Int32) : OPs x y (pX3_whyNotPassed a y) (fun z => (pX3_passes a z).1) (fun z => (pX3_passes a z).2) (pX1_passCounted a x) := by
  unfold OPs
  rw [pX1_passCounted, pX3_whyNotPassed, win_le, h.1.1.e7]
  by_cases c : a < 1
  · rw [if_pos c, if_pos c, if_pos (show (0 : Int32) = 0 from rfl)]
    exact Or.inl ⟨by decide, rfl⟩
  · rw [if_neg c, if_neg c]
    by_cases d : a ≤ 99
    · rw [if_pos d, if_pos d, if_neg (show ¬ (1 : Int32) = 0 by decide)]
      by_cases e : (x.1 5) + a ≤ 9999
      · rw [if_pos e, if_pos e]
        refine Or.inr ⟨by decide, (pass_RN h a).2.2.2, fun z hz => ?_⟩
        have hz1 : RN x (z.2 0) := by
          rw [hz]
          exact h
        obtain ⟨p1, p2, p3, -⟩ := pass_RN hz1 a
        exact ⟨p1.symm, p2, p3⟩
      · rw [if_neg e, if_neg e]
        exact Or.inl ⟨by decide, rfl⟩
    · rw [if_neg d, if_neg d, if_pos (show (0 : Int32) = 0 from rfl)]
      exact Or.inl ⟨by decide, rfl⟩
theorem pass_all {t : TV} {y : SR} (h : RT t y) (a : Int32) : (pX2_pass a t).1 = (pX3_pass a y).1 ∧ RT (pX2_pass a t).2 (pX3_pass a y).2 := by
  rw [pX2_pass]
  exact change_ok h (pass_op h.1 a) _ (by rw [pX3_pass])
-- what hours would bring, in the whole relation
theorem RT.trial {t : TV} {y y' : SR} (h : RT t y) (s : SR) (g : TR y y') : RT (tQ t 2 s) y' := by
  obtain ⟨h0, hh, hs, hp⟩ := h
  exact ⟨by rw [tQ_of _ _ (by decide)]; exact h0.mc g.2.2, hh.cg rfl (fun k h1 _ => tQ_of _ _ (by omega)) (g.1 0 (by decide)) (g.2.1 2 (by decide)), hs.cg rfl (fun k h1 => tQ_of _ _ (by omega)) (g.2.1 3 (by decide)) (g.2.1 4 (by decide)), hp.cg (g.1 1 (by decide)) (g.1 3 (by decide)) (g.2.1 5 (by decide))⟩
theorem coveredIn_all {t : TV} {y : SR} (h : RT t y) (a : Int32) : (pX2_coveredIn a t).1 = (pX3_coveredIn a y).1 ∧ RT (pX2_coveredIn a t).2 (pX3_coveredIn a y).2 := by
  obtain ⟨r1, ⟨s, r2⟩, r3⟩ := coveredIn_eq h.1.1 a
  rw [r2]
  exact ⟨r1, h.trial s r3⟩
theorem willBeWet_all {t : TV} {y : SR} (h : RT t y) (a : Int32) : (pX2_willBeWet a t).1 = (pX3_willBeWet a y).1 ∧ RT (pX2_willBeWet a t).2 (pX3_willBeWet a y).2 := by
  obtain ⟨r1, ⟨s, r2⟩, r3⟩ := willBeWet_eq h.1.1 a
  rw [r2]
  exact ⟨r1, h.trial s r3⟩
theorem bestPlace_all {t : TV} {y : SR} (h : RT t y) (a b : Int32) : (pX2_bestPlace a b t).1 = (pX3_bestPlace a b y).1 ∧ RT (pX2_bestPlace a b t).2 (pX3_bestPlace a b y).2 := by
  obtain ⟨r1, ⟨s, r2⟩, r3⟩ := bestPlace_eq h.1 a b
  rw [r2]
  exact ⟨r1, h.trial s r3⟩
-- undo
theorem undo_eq {t : TV} {y : SR} (h : RT t y) : (pX2_undo t).1 = (pX3_undo y).1 ∧ RT (pX2_undo t).2 (pX3_undo y).2 := by
  obtain ⟨h0, hh, hs, hp⟩ := h
  obtain ⟨e1, e2, e3⟩ := hh
  obtain ⟨u, hu, eu⟩ := vp_in_of (x := y.1 0) (n := 7) (vp_in_iff.mpr ⟨e2.1, by have := e2.2; omega⟩) (by decide)
  rw [pX2_undo, pX3_undo, e1, eu]
  rw [eu, nI_toInt (by omega)] at e3
  by_cases c : u = 0
  · subst c
    rw [if_pos (show nI 0 < 1 by decide), if_pos (show nI 0 = 0 from rfl)]
    exact ⟨rfl, h0, ⟨e1, e2, fun k hk => by rw [eu, nI_toInt (by omega)] at hk; exact e3 k hk⟩, hs, hp⟩
  · obtain ⟨w, rfl⟩ : ∃ w, u = w + 1 := ⟨u - 1, by omega⟩
    rw [if_neg (show ¬ nI (w + 1) < 1 by rw [show (1 : Int32) = nI 1 from rfl, nI_ltI (by omega) (by omega)]; omega), if_pos (show nI (w + 1) ≤ 6 by rw [show (6 : Int32) = nI 6 from rfl, nI_leI (by omega) (by omega)]; omega), if_neg (show ¬ nI (w + 1) = 0 from fun e => by have := (nI_eq (by omega) (by omega)).mp (e.trans nI_0.symm); omega), nI_pred]
    have em : pX3_moves 2 (nI w * 109) 0 0 (pS y 0 (nI w)) = (up y.1 0 (nI w), up y.2 0 (cpA (y.2 2) (y.2 0) (109 * w) 0 109)) := by
      rw [show (109 : Int32) = nI 109 from rfl, nI_mulN, Nat.mul_comm w 109]
      exact moves_eq (k1 := 2) (k3 := 0) (109 * w) 0 (pS y 0 (nI w)) (by decide) (by omega) (by decide)
    rw [em, show ix (nI w) = w from ix_nI (by omega)]
    generalize hY : ((up y.1 0 (nI w), up y.2 0 (cpA (y.2 2) (y.2 0) (109 * w) 0 109)) : SR) = Y
    have n0 : Y.1 0 = nI w := by
      rw [← hY]
      exact up_same y.1 0 _
    have nq : ∀ q, q ≠ 0 → Y.1 q = y.1 q := fun q hq => by
      rw [← hY]
      exact up_ne y.1 _ hq
    have r0 : Y.2 0 = cpA (y.2 2) (y.2 0) (109 * w) 0 109 := by
      rw [← hY]
      exact up_same y.2 0 _
    have rq : ∀ q, q ≠ 0 → Y.2 q = y.2 q := fun q hq => by
      rw [← hY]
      exact up_ne y.2 _ hq
    refine ⟨n0.symm, ?_, ⟨?_, ?_, fun k hk => ?_⟩, hs.cg rfl (fun k hk => tQ_of _ _ (by omega)) (rq 3 (by decide)) (rq 4 (by decide)), hp.cg (nq 1 (by decide)) (nq 3 (by decide)) (rq 5 (by decide))⟩
    · rw [tQ_at]
      show RN (pX2_copy (t.1 (3 + w)) (t.1 0)) (Y.2 0)
      rw [r0]
      refine ((e3 w (by omega)).mc (fun j hj => ?_)).cp _
      have := cpA_at (y.2 2) (y.2 0) (109 * w) 0 hj
      rw [Nat.zero_add] at this
      exact this
    · exact n0.symm
    · rw [n0]
      unfold inI
      rw [nI_toInt (by omega)]
      omega
    · rw [n0, nI_toInt (by omega)] at hk
      rw [tQ_of _ _ (by omega), rq 2 (by decide)]
      exact e3 k (by omega)
-- save and restore
theorem within01 (a : Int32) : pX3_within a 0 1 = if a < 0 then 0 else if a < 2 then 1 else 0 := by
  rw [win_le]
  by_cases c : a < 0
  · rw [if_pos c, if_pos c]
  · rw [if_neg c, if_neg c]
    by_cases d : a ≤ 1
    · rw [if_pos d, if_pos (by rw [Int32.le_iff_toInt_le, show Int32.toInt 1 = 1 from rfl] at d; rw [Int32.lt_iff_toInt_lt, show Int32.toInt 2 = 2 from rfl]; omega)]
    · rw [if_neg d, if_neg (by rw [Int32.le_iff_toInt_le, show Int32.toInt 1 = 1 from rfl] at d; rw [Int32.lt_iff_toInt_lt, show Int32.toInt 2 = 2 from rfl]; omega)]
theorem slot_at {a : Int32} (c : ¬ a < 0) (d : a < 2) : ∃ s, s < 2 ∧ a = nI s := by
  rw [Int32.lt_iff_toInt_lt] at c d
  exact vp_in_of (vp_in_iff.mpr ⟨by rw [show Int32.toInt 0 = 0 from rfl] at c; omega, by rw [show Int32.toInt 2 = 2 from rfl] at d; omega⟩) (by decide)
theorem save_eq {t : TV} {y : SR} (h : RT t y) (a : Int32) : (pX2_save a t).1 = (pX3_save a y).1 ∧ RT (pX2_save a t).2 (pX3_save a y).2 := by
  have hRT := h
  obtain ⟨h0, hh, hs, hp⟩ := h
  rw [pX2_save, pX3_save, within01]
  by_cases c : a < 0
  · rw [if_pos c, if_pos c, if_pos (show (0 : Int32) = 0 from rfl)]
    exact ⟨rfl, hRT⟩
  · rw [if_neg c, if_neg c]
    by_cases d : a < 2
    · rw [if_pos d, if_pos d, if_neg (show ¬ (1 : Int32) = 0 by decide)]
      obtain ⟨s, hs2, rfl⟩ := slot_at c d
      have hix : ix (nI s) = s := ix_nI (by omega)
      have em : pX3_moves 0 0 3 (109 * nI s) y = (y.1, up y.2 3 (cpA (y.2 0) (y.2 3) 0 (109 * s) 109)) := by
        rw [show (109 : Int32) = nI 109 from rfl, nI_mulN]
        exact moves_eq (k1 := 0) (k3 := 3) 0 (109 * s) y (by decide) (by decide) (by omega)
      rw [em]
      generalize hY : pR ((y.1, up y.2 3 (cpA (y.2 0) (y.2 3) 0 (109 * s) 109)) : SR) 4 (nI s) 1 = Y
      have y1 : Y.1 = y.1 := by rw [← hY]; rfl
      have y4 : Y.2 4 = up (y.2 4) s 1 := by
        rw [← hY, pR_sm, hix]
        show up (up y.2 3 (cpA (y.2 0) (y.2 3) 0 (109 * s) 109) 4) s 1 = _
        rw [up_ne _ _ (by decide)]
      have y3 : Y.2 3 = cpA (y.2 0) (y.2 3) 0 (109 * s) 109 := by
        rw [← hY, pR_or (by decide)]
        exact up_same y.2 3 _
      have yo : ∀ q, q ≠ 3 → q ≠ 4 → Y.2 q = y.2 q := fun q q3 q4 => by
        rw [← hY, pR_or q4]
        exact up_ne y.2 _ q3
      have hY0 : RN (t.1 0) (Y.2 0) := by
        rw [yo 0 (by decide) (by decide)]
        exact h0
      rw [hix, tQ_of _ _ (by omega), there_eq hY0.1]
      refine ⟨rfl, ?_, hh.cg rfl (fun k _ _ => tQ_of _ _ (by omega)) (by rw [y1]) (yo 2 (by decide) (by decide)), fun s2 h2 => ?_, hp.cg (by rw [y1]) (by rw [y1]) (yo 5 (by decide) (by decide))⟩
      · show RN ((tQ t (9 + s) (pX2_copy (t.1 0) (t.1 (9 + s)))).1 0) _
        rw [tQ_of _ _ (by omega)]
        exact hY0
      · show up t.2.2.2 (ix (nI s)) 1 s2 = Y.2 4 s2 ∧ (¬ Y.2 4 s2 = 0 → RN ((tQ t (9 + s) (pX2_copy (t.1 0) (t.1 (9 + s)))).1 (9 + s2)) (fun j => Y.2 3 (109 * s2 + j)))
        rw [y4, y3, hix]
        by_cases e : s2 = s
        · subst e
          rw [up_same, up_same, tQ_at]
          refine ⟨rfl, fun _ => (h0.mc (fun j hj => ?_)).cp _⟩
          rw [cpA_at _ _ _ _ hj, Nat.zero_add]
        · rw [up_ne _ _ e, up_ne _ _ e, tQ_of _ _ (by omega)]
          refine ⟨(hs s2 h2).1, fun hn => ((hs s2 h2).2 hn).mc (fun j hj => ?_)⟩
          rcases Nat.lt_or_ge (109 * s2 + j) (109 * s) with q | q
          · rw [cpA_lo _ _ _ _ q]
          · rw [cpA_hi _ _ _ _ (by omega)]
    · rw [if_neg d, if_neg d, if_pos (show (0 : Int32) = 0 from rfl)]
      exact ⟨rfl, hRT⟩
theorem restore_eq {t : TV} {y : SR} (h : RT t y) (a : Int32) : (pX2_restore a t).1 = (pX3_restore a y).1 ∧ RT (pX2_restore a t).2 (pX3_restore a y).2 := by
  have hRT := h
  obtain ⟨h0, hh, hs, hp⟩ := h
  rw [pX2_restore, pX3_restore, within01]
  by_cases c : a < 0
  · rw [if_pos c, if_pos c, if_pos (show (0 : Int32) = 0 from rfl)]
    exact ⟨rfl, hRT⟩
  · rw [if_neg c, if_neg c]
    by_cases d : a < 2
    · rw [if_pos d, if_pos d, if_neg (show ¬ (1 : Int32) = 0 by decide)]
      obtain ⟨s, hs2, rfl⟩ := slot_at c d
      have hix : ix (nI s) = s := ix_nI (by omega)
      obtain ⟨q1, q2⟩ := hs s hs2
      rw [hix, q1]
      by_cases e : y.2 4 s = 0
      · rw [if_pos e, if_pos e]
        exact ⟨rfl, hRT⟩
      · rw [if_neg e, if_neg e, tQ_of _ _ (show 9 + s ≠ 1 by omega)]
        have q3 := q2 e
        obtain ⟨r1, r2, -⟩ := record_f hh.2.1
        have em : pX3_moves 3 (109 * nI s) 0 0 (pX3_record y) = ((pX3_record y).1, up (pX3_record y).2 0 (cpA ((pX3_record y).2 3) ((pX3_record y).2 0) (109 * s) 0 109)) := by
          rw [show (109 : Int32) = nI 109 from rfl, nI_mulN]
          exact moves_eq (k1 := 3) (k3 := 0) (109 * s) 0 (pX3_record y) (by decide) (by omega) (by decide)
        rw [em]
        generalize hY : (((pX3_record y).1, up (pX3_record y).2 0 (cpA ((pX3_record y).2 3) ((pX3_record y).2 0) (109 * s) 0 109)) : SR) = Y
        have hF : F2 (pX3_record y) Y := by
          rw [← hY]
          exact ⟨fun _ _ => rfl, fun q hq => up_ne _ _ hq⟩
        have hN : RN (pX2_copy (t.1 (9 + s)) (t.1 0)) (Y.2 0) := by
          refine (q3.mc (fun j hj => ?_)).cp _
          rw [← hY]
          show up (pX3_record y).2 0 (cpA ((pX3_record y).2 3) ((pX3_record y).2 0) (109 * s) 0 109) 0 j = _
          rw [up_same]
          have := cpA_at ((pX3_record y).2 3) ((pX3_record y).2 0) (109 * s) 0 hj
          rw [Nat.zero_add] at this
          rw [this, r1 3 (by decide)]
        rw [there_eq hN.1]
        have g := recorded_ok hRT hF hN (pJ6_bitCount_0f7a4 ((pX2_copy (t.1 (9 + s)) (t.1 0)).1 0)) (bc_pos (fun q hq => hN.1.2.2.2.2 0 (by decide) q hq))
        exact g
    · rw [if_neg d, if_neg d, if_pos (show (0 : Int32) = 0 from rfl)]
      exact ⟨rfl, hRT⟩
