-- one keeper, on both sides
section RLK
variable {B : Int} {d : Int32} {x y : SR}
theorem RQ.kv (h : RQ B d x y) {k : Nat} (hk : (k : Int) < Int32.toInt (y.2 0 11)) {j : Nat} (hj : j < 5) : y.2 2 (5 * k + j) = x.2 (5 + j) k := ((h.2.2.2.1.2 k (h.k5 hk)).2.1 hk j hj).symm
theorem RQ.pl (h : RQ B d x y) {k : Nat} (hk : (k : Int) < Int32.toInt (y.2 0 11)) : ∃ a, a < 12 ∧ x.2 5 k = nI a ∧ y.2 2 (5 * k) = nI a := by
  have e : y.2 2 (5 * k) = x.2 5 k := h.kv hk (j := 0) (by decide)
  have i := (h.2.2.2.1.2 k (h.k5 hk)).1
  rw [e] at i
  obtain ⟨a, ha, ea⟩ := vp_in_of (x := x.2 5 k) (n := 12) (vp_in_iff.mpr ⟨i.1, by have := i.2; omega⟩) (by decide)
  exact ⟨a, ha, ea, e.trans ea⟩
/-- it goes -/
theorem goesL (h : RQ B d x y) {k j : Nat} (hk : (k : Int) < Int32.toInt (y.2 0 11)) (hj : j < 12) {a : Nat} (ha : a < 12) (ea : x.2 5 k = nI a) (hne : ¬ nI j = nI a) : RQ B d (pX1_goTowards (nI k) (nI j) x) (pR (pR y 2 (5 * nI k) ((y.2 2 (ix (5 * nI k))) + (if nI j ≤ (y.2 2 (ix (5 * nI k))) then (-1) else 1))) 2 ((5 * nI k) + 4) (((pR y 2 (5 * nI k) ((y.2 2 (ix (5 * nI k))) + (if nI j ≤ (y.2 2 (ix (5 * nI k))) then (-1) else 1))).2 2 (ix ((5 * nI k) + 4))) + 1)) := by
  have hk5 := h.k5 hk
  have e0 : y.2 2 (5 * k) = x.2 5 k := h.kv hk (j := 0) (by decide)
  have e4 : y.2 2 (5 * k + 4) = x.2 9 k := h.kv hk (j := 4) (by decide)
  have i5 : ix (5 * nI k) = 5 * k := ix5 (by omega)
  have i54 : ix ((5 * nI k) + 4) = 5 * k + 4 := ix5a (j := 4) (by omega) (by decide)
  have ik : ix (nI k) = k := ix_nI (by omega)
  have ta : Int32.toInt (nI a) = a := nI_toInt (by omega)
  have hja : j ≠ a := fun q => hne (by rw [q])
  have st : ∀ w : Int32, inI (x.2 5 k + w) 0 11 → RQ B d (pR (pR x 5 (nI k) (x.2 5 k + w)) 9 (nI k) (x.2 9 k + 1)) (pR (pR y 2 (5 * nI k) (x.2 5 k + w)) 2 ((5 * nI k) + 4) (x.2 9 k + 1)) := by
    intro w hw
    exact (h.kp (j := 0) hk (by decide) _ (fun _ => hw) (i := 5 * nI k) (by rw [i5]; rfl)).kp (j := 4) (by rw [pR_or (by decide)]; exact hk) (by decide) _ (fun q => absurd q (by decide)) i54
  rw [pR_off (show (2 : Nat) ≠ 2 ∨ ix ((5 * nI k) + 4) ≠ ix (5 * nI k) from Or.inr (by rw [i5, i54]; omega)), i54, i5, e0, e4, pX1_goTowards, ik]
  by_cases c : nI j ≤ x.2 5 k
  · rw [if_pos c, if_pos c]
    rw [ea, nI_leI (by omega) (by omega)] at c
    exact st (-1) (by
      unfold inI
      rw [ea, t_add (by rw [ta, show Int32.toInt (-1) = -1 from rfl]; omega), ta, show Int32.toInt (-1) = -1 from rfl]
      omega)
  · rw [if_neg c, if_neg c]
    rw [ea, nI_leI (by omega) (by omega)] at c
    exact st 1 (by
      unfold inI
      rw [ea, t_add (by rw [ta, show Int32.toInt 1 = 1 from rfl]; omega), ta, show Int32.toInt 1 = 1 from rfl]
      omega)
theorem tune_mn {v : Int32} (hv : inI v 0 100) : (if v ≤ 90 then v + 10 else 100) = mn 100 (v + 10) ∧ inI (mn 100 (v + 10)) 0 100 := by
  obtain ⟨h0, h1⟩ := hv
  have e10 : Int32.toInt 10 = 10 := rfl
  have e90 : Int32.toInt 90 = 90 := rfl
  have e100 : Int32.toInt 100 = 100 := rfl
  have e : Int32.toInt (v + 10) = Int32.toInt v + 10 := by rw [t_add (by rw [e10]; omega), e10]
  unfold mn inI
  by_cases c : v ≤ 90
  · rw [if_pos c]
    rw [Int32.le_iff_toInt_le, e90] at c
    by_cases q : v + 10 < 100
    · rw [if_pos q, e]
      exact ⟨rfl, by omega, by omega⟩
    · rw [if_neg q, e100]
      rw [Int32.lt_iff_toInt_lt, e, e100] at q
      exact ⟨Int32.toInt_inj.mp (by rw [e, e100]; omega), by omega, by omega⟩
  · rw [if_neg c]
    rw [Int32.le_iff_toInt_le, e90] at c
    rw [if_neg (show ¬ v + 10 < 100 by rw [Int32.lt_iff_toInt_lt, e, e100]; omega), e100]
    exact ⟨rfl, by omega, by omega⟩
/-- it tunes -/
theorem tunesL (h : RQ B d x y) {k j : Nat} (hk : (k : Int) < Int32.toInt (y.2 0 11)) (hj : j < 12) (hb : bt (x.1 0) j = true) : RQ B d (pX1_tune (nI k) (nI j) x) (pR (pR y 1 (5 * nI j) (if (y.2 1 (ix (5 * nI j))) ≤ 90 then ((y.2 1 (ix (5 * nI j))) + 10) else 100)) 2 ((5 * nI k) + 3) ((y.2 2 (ix ((5 * nI k) + 3))) + 1)) := by
  have hk5 := h.k5 hk
  obtain ⟨e0, e1, e2, e3, e4, i1, i2⟩ := (h.2.2.1 j hj).1 hb
  have i5 : ix (5 * nI j) = 5 * j := ix5 (by omega)
  have i53 : ix ((5 * nI k) + 3) = 5 * k + 3 := ix5a (j := 3) (by omega) (by decide)
  obtain ⟨g1, g2⟩ := tune_mn i1
  rw [i5, e0, g1, i53, h.kv hk (j := 3) (by decide), pX1_tune, show ix (nI j) = j from ix_nI (by omega), show ix (nI k) = k from ix_nI (by omega)]
  exact (h.row (r := 1) (c := 0) hj hb (Or.inl ⟨rfl, rfl⟩) _ (fun _ => g2) i5).kp (j := 3) (by rw [pR_or (by decide)]; exact hk) (by decide) _ (fun q => absurd q (by decide)) i53
/-- it covers -/
theorem putsL (h : RQ B d x y) {k j : Nat} (hk : (k : Int) < Int32.toInt (y.2 0 11)) (hj : j < 12) (hb : bt (x.1 1) j = true) : RQ B d (pX1_putCoverOn (nI k) (nI j) x) (pR (pR y 1 ((5 * nI j) + 2) 2) 2 ((5 * nI k) + 1) ((y.2 2 (ix ((5 * nI k) + 1))) + 1)) := by
  have hk5 := h.k5 hk
  have hb0 := (h.2.2.1 j hj).2.2.1 hb
  have i52 : ix ((5 * nI j) + 2) = 5 * j + 2 := ix5a (j := 2) (by omega) (by decide)
  have i51 : ix ((5 * nI k) + 1) = 5 * k + 1 := ix5a (j := 1) (by omega) (by decide)
  rw [i51, h.kv hk (j := 1) (by decide), pX1_putCoverOn]
  have s2 : bt (((x.1 2) ||| ((1 : Int32) <<< (nI j &&& 31)))) j = true := bset_eq _ (by omega)
  have h2 := h.cov (x' := pS (pS x 1 ((x.1 1) &&& ((1 <<< (nI j &&& 31)) ^^^ (-1)))) 2 ((x.1 2) ||| (1 <<< (nI j &&& 31)))) hj hb0 rfl rfl (fun i hi => by
    show up (up x.1 1 _) 2 _ i = _
    rw [up_ne _ _ (by omega), up_ne _ _ (by omega)]) (fun q hq => bclr_ne (x.1 1) (by omega) hq) (fun q hq => bset_ne (x.1 2) (by omega) hq) 2 (if_pos s2).symm (fun _ => bclr_eq (x.1 1) (by omega)) i52
  have h3 := h2.kp (k := k) (j := 1) (by rw [pR_or (by decide)]; exact hk) (by decide) (x.2 6 k + 1) (fun q => absurd q (by decide)) i51
  rw [show ix (nI k) = k from ix_nI (by omega)]
  exact h3
/-- it opens -/
theorem offL (h : RQ B d x y) {k j : Nat} (hk : (k : Int) < Int32.toInt (y.2 0 11)) (hj : j < 12) (hb : bt (x.1 2) j = true) : RQ B d (pX1_takeCoverOff (nI k) (nI j) x) (pR (pR y 1 ((5 * nI j) + 2) 1) 2 ((5 * nI k) + 2) ((y.2 2 (ix ((5 * nI k) + 2))) + 1)) := by
  have hk5 := h.k5 hk
  have hb0 := ((h.2.2.1 j hj).2.2.2 hb).1
  have i52 : ix ((5 * nI j) + 2) = 5 * j + 2 := ix5a (j := 2) (by omega) (by decide)
  have i5k : ix ((5 * nI k) + 2) = 5 * k + 2 := ix5a (j := 2) (by omega) (by decide)
  rw [i5k, h.kv hk (j := 2) (by decide), pX1_takeCoverOff]
  have s1 : bt (((x.1 1) ||| ((1 : Int32) <<< (nI j &&& 31)))) j = true := bset_eq _ (by omega)
  have s2 : bt (((x.1 2) &&& (((1 : Int32) <<< (nI j &&& 31)) ^^^ (-1)))) j = false := bclr_eq _ (by omega)
  have h2 := h.cov (x' := pS (pS x 2 ((x.1 2) &&& ((1 <<< (nI j &&& 31)) ^^^ (-1)))) 1 ((x.1 1) ||| (1 <<< (nI j &&& 31)))) hj hb0 rfl rfl (fun i hi => by
    show up (up x.1 2 _) 1 _ i = _
    rw [up_ne _ _ (by omega), up_ne _ _ (by omega)]) (fun q hq => bset_ne (x.1 1) (by omega) hq) (fun q hq => bclr_ne (x.1 2) (by omega) hq) 1 ((if_neg (fun z => absurd (s2.symm.trans z) (by decide))).trans (if_pos s1)).symm (fun z => absurd (s2.symm.trans z) (by decide)) i52
  have h3 := h2.kp (k := k) (j := 2) (by rw [pR_or (by decide)]; exact hk) (by decide) (x.2 7 k + 1) (fun q => absurd q (by decide)) i5k
  rw [show ix (nI k) = k from ix_nI (by omega)]
  exact h3
end RLK
theorem free_clr {v6 v : Int32} {j : Nat} (hj : j < 12) (hf : ∀ i, i < 12 → bt v6 i = !bt v i) : ∀ i, i < 12 → bt (v6 &&& ((1 <<< (nI j &&& 31)) ^^^ (-1))) i = !bt (v ||| (1 <<< (nI j &&& 31))) i := by
  intro i hi
  by_cases q : i = j
  · subst q
    rw [bclr_eq v6 (by omega), bset_eq v (by omega)]
    rfl
  · rw [bclr_ne v6 (by omega) q, bset_ne v (by omega) q]
    exact hf i hi
/-- one turn of the law's loop over the keepers is one keeper of the class -/
theorem go_L {B : Int} {d : Int32} {x y : SR} (h : RQ B d x y) {k : Nat} (hk : (k : Int) < Int32.toInt (y.2 0 11)) (b v v6 : Int32) (hf : ∀ i, i < 12 → bt v6 i = !bt v i) : ∃ (v6' : Int32) (y' : SR), (∀ i, i < 12 → bt v6' i = !bt (cGo b v (nI k) x).1 i) ∧ RQ B d (cGo b v (nI k) x).2 y' ∧ y'.2 0 11 = y.2 0 11 ∧ ∀ n, pL_hour_L38 b (n + 1) v6 (nI k) y = pL_hour_L38 b n v6' (nI (k + 1)) y' := by
  have hk5 := h.k5 hk
  obtain ⟨a, ha, ea, eay⟩ := h.pl hk
  have i5 : ix (5 * nI k) = 5 * k := ix5 (by omega)
  have ik : ix (nI k) = k := ix_nI (by omega)
  have em := mask_eq h b v6 v hf
  have hB := h.2.2.2.2
  have hW : ∀ i, 12 ≤ i → bt ((wm b x) &&& (v ^^^ (-1))) i = false := fun i hi => by
    rw [b_and]
    unfold wm
    by_cases cb : b = 0
    · rw [if_pos cb, hB 2 (by decide) i hi, Bool.false_and]
    · rw [if_neg cb, hB 1 (by decide) i hi, Bool.false_and]
  have lst : ¬ (y.2 0 (ix 11)) ≤ nI k := by
    rw [show ix 11 = 11 from rfl, Int32.le_iff_toInt_le, nI_toInt (by omega)]
    omega
  have unf : ∀ n, pL_hour_L38 b (n + 1) v6 (nI k) y = if (pL_near (pL_hour_J179s0 b v6 y) (nI a)) < 0 then pL_hour_L38 b n v6 (nI (k + 1)) y
      else if (pL_near (pL_hour_J179s0 b v6 y) (nI a)) = nI a then if ((wm b x) &&& (v ^^^ (-1))) = 0 then pL_hour_L38 b n (v6 &&& ((1 <<< ((pL_near (pL_hour_J179s0 b v6 y) (nI a)) &&& 31)) ^^^ (-1))) (nI (k + 1)) (pR (pR y 1 (5 * (pL_near (pL_hour_J179s0 b v6 y) (nI a))) (if (y.2 1 (ix (5 * (pL_near (pL_hour_J179s0 b v6 y) (nI a))))) ≤ 90 then ((y.2 1 (ix (5 * (pL_near (pL_hour_J179s0 b v6 y) (nI a))))) + 10) else 100)) 2 ((5 * nI k) + 3) ((y.2 2 (ix ((5 * nI k) + 3))) + 1))
          else pL_hour_L38 b n (v6 &&& ((1 <<< ((pL_near (pL_hour_J179s0 b v6 y) (nI a)) &&& 31)) ^^^ (-1))) (nI (k + 1)) (pR (pR y 1 ((5 * (pL_near (pL_hour_J179s0 b v6 y) (nI a))) + 2) (pL_hour_J268s0 b)) 2 ((5 * nI k) + (pL_hour_J281s0 b)) ((y.2 2 (ix ((5 * nI k) + (pL_hour_J281s0 b)))) + 1))
        else pL_hour_L38 b n (v6 &&& ((1 <<< ((pL_near (pL_hour_J179s0 b v6 y) (nI a)) &&& 31)) ^^^ (-1))) (nI (k + 1)) (pR (pR y 2 (5 * nI k) ((y.2 2 (ix (5 * nI k))) + (if (pL_near (pL_hour_J179s0 b v6 y) (nI a)) ≤ (y.2 2 (ix (5 * nI k))) then (-1) else 1))) 2 ((5 * nI k) + 4) (((pR y 2 (5 * nI k) ((y.2 2 (ix (5 * nI k))) + (if (pL_near (pL_hour_J179s0 b v6 y) (nI a)) ≤ (y.2 2 (ix (5 * nI k))) then (-1) else 1))).2 2 (ix ((5 * nI k) + 4))) + 1)) := by
    intro n
    rw [pL_hour_L38, if_neg lst, pL_hour_J320s0, pL_hour_J232s0, em, nI_1]
    have eke : y.2 2 (ix (5 * nI k)) = nI a := by rw [i5]; exact eay
    rw [eke]
  have eJ : pL_hour_J179s0 b v6 y = if ((wm b x) &&& (v ^^^ (-1))) = 0 then ((pX1_outOfTune x) &&& (v ^^^ (-1))) else ((wm b x) &&& (v ^^^ (-1))) := by
    rw [pL_hour_J179s0, em]
  -- what the class does, by the place that is chosen
  have ecg : cGo b v (nI k) x = if (pX1_nearest ((wm b x) &&& (v ^^^ (-1))) (nI a)) = (-6) then if (pX1_nearest ((pX1_outOfTune x) &&& (v ^^^ (-1))) (nI a)) = (-6) then (v, x) else cAt pX1_tune (nI k) (pX1_nearest ((pX1_outOfTune x) &&& (v ^^^ (-1))) (nI a)) v x else cAt (if b = 0 then pX1_takeCoverOff else pX1_putCoverOn) (nI k) (pX1_nearest ((wm b x) &&& (v ^^^ (-1))) (nI a)) v x := by
    unfold cGo wm
    rw [ik, ea]
    by_cases cb : b = 0
    · simp only [if_pos cb]
    · simp only [if_neg cb]
  rw [ecg]
  by_cases z : ((wm b x) &&& (v ^^^ (-1))) = 0
  · rw [if_pos z] at eJ
    rw [z, near_none, if_pos rfl]
    have en := nearL ((pX1_outOfTune x) &&& (v ^^^ (-1))) ha
    by_cases g : pX1_nearest ((pX1_outOfTune x) &&& (v ^^^ (-1))) (nI a) = -6
    · rw [if_pos g]
      rw [if_pos g] at en
      refine ⟨v6, y, hf, h, rfl, fun n => ?_⟩
      rw [unf n, eJ, en, if_pos (by decide)]
    · rw [if_neg g]
      rw [if_neg g] at en
      obtain ⟨j, hj, ej, wj⟩ := near_j ha g
      rw [ej] at en ⊢
      rw [b_and] at wj
      have ot : bt (pX1_outOfTune x) j = true := by
        cases hb : bt (pX1_outOfTune x) j
        · rw [hb, Bool.false_and] at wj
          exact absurd wj (by decide)
        · rfl
      have b0 := ((oot_bt x j).mp ot).2.1
      unfold cAt
      rw [ik, ea]
      by_cases q : nI a = nI j
      · rw [if_pos q]
        refine ⟨_, _, free_clr hj hf, tunesL h hk hj b0, by rw [pR_or (by decide), pR_or (by decide)], fun n => ?_⟩
        rw [unf n, eJ, en, if_neg (nI_pos (by omega)), if_pos q.symm, if_pos z]
      · rw [if_neg q]
        refine ⟨_, _, free_clr hj hf, goesL h hk hj ha ea (fun e => q e.symm), by rw [pR_or (by decide), pR_or (by decide)], fun n => ?_⟩
        rw [unf n, eJ, en, if_neg (nI_pos (by omega)), if_neg (fun e => q e.symm)]
  · rw [if_neg z] at eJ
    have g := near_some hW z ha
    have en := nearL ((wm b x) &&& (v ^^^ (-1))) ha
    rw [if_neg g] at en
    rw [if_neg g]
    obtain ⟨j, hj, ej, wj⟩ := near_j ha g
    rw [ej] at en ⊢
    rw [b_and] at wj
    have wt : bt (wm b x) j = true := by
      cases hb : bt (wm b x) j
      · rw [hb, Bool.false_and] at wj
        exact absurd wj (by decide)
      · rfl
    unfold cAt
    rw [ik, ea]
    by_cases q : nI a = nI j
    · rw [if_pos q]
      by_cases cb : b = 0
      · rw [if_pos cb]
        have w2 : bt (x.1 2) j = true := by
          unfold wm at wt
          rw [if_pos cb] at wt
          exact wt
        refine ⟨_, _, free_clr hj hf, offL h hk hj w2, by rw [pR_or (by decide), pR_or (by decide)], fun n => ?_⟩
        rw [unf n, eJ, en, if_neg (nI_pos (by omega)), if_pos q.symm, if_neg z, pL_hour_J268s0, pL_hour_J281s0, if_pos cb, if_pos cb]
      · rw [if_neg cb]
        have w1 : bt (x.1 1) j = true := by
          unfold wm at wt
          rw [if_neg cb] at wt
          exact wt
        refine ⟨_, _, free_clr hj hf, putsL h hk hj w1, by rw [pR_or (by decide), pR_or (by decide)], fun n => ?_⟩
        rw [unf n, eJ, en, if_neg (nI_pos (by omega)), if_pos q.symm, if_neg z, pL_hour_J268s0, pL_hour_J281s0, if_neg cb, if_neg cb]
    · rw [if_neg q]
      refine ⟨_, _, free_clr hj hf, goesL h hk hj ha ea (fun e => q e.symm), by rw [pR_or (by decide), pR_or (by decide)], fun n => ?_⟩
      rw [unf n, eJ, en, if_neg (nI_pos (by omega)), if_neg (fun e => q e.symm)]
theorem acts_L {B : Int} {d : Int32} (b : Int32) : ∀ (n i : Nat) (v v6 : Int32) (x y : SR), RQ B d x y → (∀ i, i < 12 → bt v6 i = !bt v i) → i ≤ 5 → 5 - i < n → RQ B d (pX1_letKeepersAct_L9 n b v (nI i) x) (pL_hour_L38 b n v6 (nI i) y) := by
  intro n
  induction n with
  | zero => intro i v v6 x y h hf h1 h2; omega
  | succ n ih =>
    intro i v v6 x y h hf h1 h2
    rw [acts_step]
    by_cases c : x.1 3 ≤ nI i
    · rw [if_pos c, pL_hour_L38, h.e11, if_pos c]
      exact h
    · have t := mt (nI_lev (v := x.1 3) (i := i) (by omega)).mpr c
      have e3 : x.1 3 = y.2 0 11 := h.e11.symm
      rw [e3] at t
      have hk : (i : Int) < Int32.toInt (y.2 0 11) := by omega
      have hk5 := h.k5 hk
      rw [if_neg c, if_neg (show ¬ (4 : Int32) < nI i by
        rw [show (4 : Int32) = nI 4 from rfl, nI_ltI (by omega) (by omega)]
        omega), nI_1]
      obtain ⟨v6', y', f', h', -, u⟩ := go_L h hk b v v6 hf
      rw [u n]
      exact ih (i + 1) _ _ _ _ h' f' (by omega) (by omega)
theorem actsL {B : Int} {d : Int32} {x y : SR} (h : RQ B d x y) (hB : B ≤ 1000000) : RQ B d (pX1_letKeepersAct x) (pL_hour_E38 y) := by
  rw [pX1_letKeepersAct, pL_hour_E38, aheadL h hB, ← nI_0]
  exact acts_L _ 6 0 _ _ x y h (fun i hi => by rw [nI_0, b_0]; exact (by decide +kernel : ∀ i, i < 12 → bt 4095 i = !false) i hi) (by decide) (by decide)
