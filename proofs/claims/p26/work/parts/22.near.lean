-- rain, on both sides
section RLR
variable {B : Int} {d : Int32} {x y : SR}
theorem RQ.e7 (h : RQ B d x y) : y.2 0 (ix 7) = x.1 5 := h.1.2.1.symm
theorem RQ.e8 (h : RQ B d x y) : y.2 0 (ix 8) = x.1 4 := h.1.2.2.1.symm
theorem RQ.e11 (h : RQ B d x y) : y.2 0 (ix 11) = x.1 3 := h.1.2.2.2.2.2.1.symm
theorem RQ.st (h : RQ B d x y) {j : Nat} (hj : j < 7) : y.2 0 j = x.2 0 j := (h.1.1 j hj).symm
theorem rainsL (h : RQ B d x y) (a : Int32) : pL_rains (x.1 5 + a) y = pX1_rainsAfter a x := by
  rw [pX1_rainsAfter, pL_rains, h.e8]
  by_cases hc : (ush (x.1 4) (((x.1 5) + a) - ((x.1 5) + a) / 24 * 24) &&& 1) = 1
  · rw [if_pos hc, if_pos ((sh_eq _ _).mp hc)]
  · rw [if_neg hc, if_neg (fun e => hc ((sh_eq _ _).mpr e))]
theorem rains0L (h : RQ B d x y) : pL_rains (y.2 0 (ix 7)) y = pX1_rainsAfter 0 x := by
  rw [h.e7, ← rainsL h 0, Int32.add_zero]
theorem aheadL_L (h : RQ B d x y) (hB : B ≤ 1000000) : ∀ (n2 n1 v : Nat), v ≤ 13 → 13 - v < n2 → 13 - v < n1 → pL_ahead_L5 n2 (x.1 5 + nI v) y = pX1_rainIsAhead_L2 n1 (nI v) x := by
  obtain ⟨i1, i2⟩ := h.1.2.2.2.2.2.2
  have hw := h.2.1.1
  rw [h.st (j := 0) (by decide)] at hw
  obtain ⟨w1, w2⟩ := hw
  intro n2
  induction n2 with
  | zero => intro n1 v h0 h1 h2; omega
  | succ n2 ih =>
    intro n1 v h0 h1 h2
    cases n1 with
    | zero => omega
    | succ n1 =>
      have tv : Int32.toInt (nI v) = (v : Int) := nI_toInt (by omega)
      have e1 : Int32.toInt (x.1 5 + nI v) = Int32.toInt (x.1 5) + v := by rw [t_add (by rw [tv]; omega), tv]
      have e2 : Int32.toInt (x.1 5 + x.2 0 0) = Int32.toInt (x.1 5) + Int32.toInt (x.2 0 0) := t_add (by omega)
      have cc : (x.1 5 + x.2 0 0 < x.1 5 + nI v) ↔ x.2 0 0 < nI v := by
        rw [Int32.lt_iff_toInt_lt, Int32.lt_iff_toInt_lt, e1, e2, tv]
        omega
      rw [pL_ahead_L5, pX1_rainIsAhead_L2, h.e7, show y.2 0 (ix 0) = x.2 0 0 from h.st (j := 0) (by decide), show x.2 0 (ix 0) = x.2 0 0 from rfl]
      by_cases c : x.2 0 0 < nI v
      · rw [if_pos c, if_pos (cc.mpr c)]
      · rw [if_neg c, if_neg (fun z => c (cc.mp z))]
        rw [Int32.lt_iff_toInt_lt, tv] at c
        have h24 : ¬ (24 : Int32) ≤ nI v := by
          rw [show (24 : Int32) = nI 24 from rfl, nI_leI (by omega) (by omega)]
          omega
        rw [if_neg h24, rainsL h, nI_1]
        by_cases r : pX1_rainsAfter (nI v) x = 0
        · rw [if_pos r, if_pos r, Int32.add_assoc, nI_1]
          exact ih n1 (v + 1) (by omega) (by omega) (by omega)
        · rw [if_neg r, if_neg r]
theorem aheadL (h : RQ B d x y) (hB : B ≤ 1000000) : pL_ahead y = pX1_rainIsAhead x := by
  rw [pL_ahead, pX1_rainIsAhead, h.e7]
  have r := aheadL_L h hB 14 25 0 (by decide) (by decide) (by decide)
  rw [nI_0, Int32.add_zero] at r
  exact r
end RLR
-- the nearest place, on both sides
theorem nearL_L (M : Int32) {a : Nat} (ha : a < 12) : ∀ (n v : Nat), v ≤ 12 → 12 - v < n → pL_near_L2 M (nI a) n (nI v) = if pX1_nearest_L9 M (nI a) n (nI v) = -6 then -1 else pX1_nearest_L9 M (nI a) n (nI v) := by
  have ne6 : ∀ k : Nat, k < 12 → ¬ nI k = -6 := fun k hk q => by
    have q2 := congrArg Int32.toInt q
    rw [nI_toInt (by omega), show Int32.toInt (-6) = -6 from rfl] at q2
    omega
  intro n
  induction n with
  | zero => intro v h1 h2; omega
  | succ n ih =>
    intro v h1 h2
    rw [pL_near_L2, pX1_nearest_L9]
    by_cases c : v = 12
    · subst c
      rw [if_pos (show (12 : Int32) ≤ nI 12 by decide), if_pos (show (12 : Int32) ≤ nI 12 by decide), if_pos rfl]
    · have hv : v < 12 := by omega
      have go := ih (v + 1) (by omega) (by omega)
      rw [if_neg (lt12 hv).2, if_neg (lt12 hv).2, nI_1]
      have upp : (if 12 ≤ (nI a + nI v) then pL_near_L2 M (nI a) n (nI (v + 1)) else if ((M >>> ((nI a + nI v) &&& 31)) &&& 1) = 1 then (nI a + nI v) else pL_near_L2 M (nI a) n (nI (v + 1))) = if (if pX2_has M (nI a + nI v) = 0 then pX1_nearest_L9 M (nI a) n (nI (v + 1)) else (nI a + nI v)) = -6 then -1 else (if pX2_has M (nI a + nI v) = 0 then pX1_nearest_L9 M (nI a) n (nI (v + 1)) else (nI a + nI v)) := by
        rw [nI_add]
        by_cases q : a + v < 12
        · rw [if_neg (lt12 q).2, has_bt M q]
          by_cases b : bt M (a + v) = true
          · rw [if_pos b, if_pos ((b_shr M (show a + v < 32 by omega)).mpr b), if_neg (show ¬ (1 : Int32) = 0 by decide), if_neg (ne6 _ q)]
          · rw [if_neg b, if_neg (fun z => b ((b_shr M (show a + v < 32 by omega)).mp z)), if_pos rfl]
            exact go
        · rw [if_pos (show (12 : Int32) ≤ nI (a + v) by
            rw [show (12 : Int32) = nI 12 from rfl, nI_leI (by omega) (by omega)]
            omega), has_no M (show ¬ vp_in (nI (a + v)) 12 from fun hin => by
            have := (vp_in_iff.mp hin).2
            rw [nI_toInt (by omega)] at this
            omega), if_pos rfl]
          exact go
      by_cases hle : v ≤ a
      · have e := sub_nd a ha v hv hle
        rw [e, if_neg (nI_pos (by omega)), has_bt M (show a - v < 12 by omega)]
        by_cases b : bt M (a - v) = true
        · rw [if_pos b, if_pos ((b_shr M (show a - v < 32 by omega)).mpr b), if_neg (show ¬ (1 : Int32) = 0 by decide), if_neg (ne6 _ (by omega))]
        · rw [if_neg b, if_neg (fun z => b ((b_shr M (show a - v < 32 by omega)).mp z)), if_pos rfl]
          exact upp
      · have sn := sub_neg a ha v hv (by omega)
        rw [if_pos (show nI a - nI v < 0 by
          rw [Int32.lt_iff_toInt_lt]
          exact sn), has_no M (show ¬ vp_in (nI a - nI v) 12 from fun hin => by
          have := (vp_in_iff.mp hin).1
          omega), if_pos rfl]
        exact upp
theorem nearL (M : Int32) {a : Nat} (ha : a < 12) : pL_near M (nI a) = if pX1_nearest M (nI a) = -6 then -1 else pX1_nearest M (nI a) := by
  have r := nearL_L M ha 13 0 (by decide) (by decide)
  rw [nI_0] at r
  rw [pL_near, r, pX1_nearest]
  by_cases z : M = 0
  · rw [if_pos z, if_pos rfl]
    have q := near_C (M := M) ha 13 0 (by decide) (by decide) (fun i _ _ => Nat.zero_le _)
    rw [nI_0] at q
    rcases q with ⟨e, -⟩ | ⟨j, -, -, w, -⟩
    · rw [if_pos e]
    · rw [z, b_0] at w
      exact absurd w (by decide)
  · rw [if_neg z]
/-- a set that is not empty has a nearest place -/
theorem near_some {M : Int32} (hM : ∀ i, 12 ≤ i → bt M i = false) (hz : ¬ M = 0) {a : Nat} (ha : a < 12) : ¬ pX1_nearest M (nI a) = -6 := by
  rcases near_NS M ha with ⟨-, z⟩ | ⟨j, hj, e, -, -⟩
  · exfalso
    apply hz
    rw [b_z]
    intro j _
    rcases Nat.lt_or_ge j 12 with q | q
    · exact z j q
    · exact hM j q
  · rw [e]
    intro q
    have q2 := congrArg Int32.toInt q
    rw [nI_toInt (by omega), show Int32.toInt (-6) = -6 from rfl] at q2
    omega
theorem near_none (a : Int32) : pX1_nearest 0 a = -6 := by rw [pX1_nearest, if_pos rfl]
-- the law's sets of pianos that a keeper may choose
theorem sh31 {i : Nat} (h : i < 32) (v : Int32) : (v >>> (nI i &&& 31)) &&& 1 = 0 ↔ bt v i = false := by
  have q := b_shr v h
  constructor
  · intro e
    cases c : bt v i
    · rfl
    · rw [c, e] at q
      exact absurd (q.mpr rfl) (by decide)
  · intro e
    have e0 : ((v >>> (nI i &&& 31)) &&& 1) = 0 ∨ ((v >>> (nI i &&& 31)) &&& 1) = 1 := by
      generalize v >>> (nI i &&& 31) = w
      by_cases b : bt w 0 = true
      · exact Or.inr ((b_and1 w).mpr b)
      · left
        apply b_ext
        intro j _
        rw [b_and, b_one, b_0]
        by_cases hj : j = 0
        · rw [hj, Bool.eq_false_iff.mpr b, Bool.false_and]
        · rw [decide_eq_false hj, Bool.and_false]
    rcases e0 with r | r
    · exact r
    · rw [q.mp r] at e
      exact absurd e (by decide)
theorem or_z (v : Int32) (j : Nat) : bt (v ||| 0) j = bt v j := by rw [b_or, b_0, Bool.or_false]
/-- which pianos are wanted: to cover (b not 0) or to open -/
def wm (b : Int32) (x : SR) : Int32 := if b = 0 then x.1 2 else x.1 1
theorem mask_L {B : Int} {d : Int32} {x y : SR} (h : RQ B d x y) (b w6 v : Int32) (hf : ∀ i, i < 12 → bt w6 i = !bt v i) : ∀ (n i : Nat) (m1 m2 : Int32) (j : Nat), i ≤ 12 → 12 - i < n → (bt (pL_hour_L62 b w6 n m1 m2 (nI i) y).1 j = (bt m1 j || (decide (i ≤ j) && decide (j < 12) && (bt (wm b x) j && !bt v j)))) ∧ (bt (pL_hour_L62 b w6 n m1 m2 (nI i) y).2 j = (bt m2 j || (decide (i ≤ j) && decide (j < 12) && (bt (pX1_outOfTune x) j && !bt v j)))) := by
  intro n
  induction n with
  | zero => intro i m1 m2 j h1 h2; omega
  | succ n ih =>
    intro i m1 m2 j h1 h2
    rw [pL_hour_L62]
    by_cases c : i = 12
    · subst c
      rw [if_pos (show (12 : Int32) ≤ nI 12 by decide)]
      have e : (decide (12 ≤ j) && decide (j < 12)) = false := by
        by_cases q : 12 ≤ j
        · rw [decide_eq_false (show ¬ j < 12 by omega), Bool.and_false]
        · rw [decide_eq_false q, Bool.false_and]
      rw [e, Bool.false_and, Bool.false_and, Bool.or_false, Bool.or_false]
      exact ⟨rfl, rfl⟩
    · have hi : i < 12 := by omega
      obtain ⟨bv, bn, b1, b2⟩ := h.2.2.1 i hi
      rw [if_neg (lt12 hi).2, nI_1, show ix (5 * nI i) = 5 * i from ix5 (by omega)]
      -- one place further, with what this place adds
      have fin : ∀ (m1' m2' : Int32), (∀ q, bt m1' q = (bt m1 q || (decide (q = i) && (bt (wm b x) i && !bt v i)))) → (∀ q, bt m2' q = (bt m2 q || (decide (q = i) && (bt (pX1_outOfTune x) i && !bt v i)))) → (bt (pL_hour_L62 b w6 n m1' m2' (nI (i + 1)) y).1 j = (bt m1 j || (decide (i ≤ j) && decide (j < 12) && (bt (wm b x) j && !bt v j)))) ∧ (bt (pL_hour_L62 b w6 n m1' m2' (nI (i + 1)) y).2 j = (bt m2 j || (decide (i ≤ j) && decide (j < 12) && (bt (pX1_outOfTune x) j && !bt v j)))) := by
        intro m1' m2' g1 g2
        obtain ⟨r1, r2⟩ := ih (i + 1) m1' m2' j (by omega) (by omega)
        rw [r1, r2, g1, g2]
        by_cases q : j = i
        · subst q
          rw [decide_eq_true (rfl : j = j), decide_eq_false (show ¬ j + 1 ≤ j by omega), decide_eq_true (Nat.le_refl j), decide_eq_true hi]
          simp only [Bool.false_and, Bool.or_false, Bool.true_and, and_self]
        · rw [decide_eq_false q]
          have e : decide (i + 1 ≤ j) = decide (i ≤ j) := by
            by_cases z : i ≤ j
            · rw [decide_eq_true z, decide_eq_true (show i + 1 ≤ j by omega)]
            · rw [decide_eq_false z, decide_eq_false (show ¬ i + 1 ≤ j by omega)]
          rw [e]
          simp only [Bool.false_and, Bool.or_false, and_self]
      have wb : bt (wm b x) i = true → bt (x.1 0) i = true := fun z => by
        unfold wm at z
        by_cases cb : b = 0
        · rw [if_pos cb] at z
          exact (b2 z).1
        · rw [if_neg cb] at z
          exact b1 z
      have tb : bt (pX1_outOfTune x) i = true → bt (x.1 0) i = true := fun z => ((oot_bt x i).mp z).2.1
      by_cases c0 : bt (x.1 0) i = true
      · obtain ⟨e0, e1, e2, e3, e4, i1, i2⟩ := bv c0
        rw [e0, if_neg (show ¬ x.2 1 i < 0 by
          rw [Int32.lt_iff_toInt_lt, show Int32.toInt 0 = 0 from rfl]
          have := i1.1
          omega)]
        by_cases cv : bt v i = true
        · have f6 : bt w6 i = false := by rw [hf i hi, cv]; rfl
          rw [if_pos ((sh31 (by omega) w6).mpr f6)]
          refine fin m1 m2 (fun q => ?_) (fun q => ?_)
          · rw [cv, Bool.not_true, Bool.and_false, Bool.and_false, Bool.or_false]
          · rw [cv, Bool.not_true, Bool.and_false, Bool.and_false, Bool.or_false]
        · have fv := Bool.eq_false_iff.mpr cv
          have f6 : ¬ bt w6 i = false := by rw [hf i hi, fv]; decide
          rw [if_neg (fun z => f6 ((sh31 (by omega) w6).mp z))]
          have put : ∀ (m : Int32) (w : Bool) (t : Int32), (t = if w = true then ((1 : Int32) <<< (nI i &&& 31)) else 0) → ∀ q, bt (m ||| t) q = (bt m q || (decide (q = i) && (w && !bt v i))) := by
            intro m w t ht q
            rw [fv, Bool.not_false, Bool.and_true, ht]
            by_cases cw : w = true
            · rw [if_pos cw, cw, Bool.and_true]
              by_cases qi : q = i
              · subst qi
                rw [bset_eq m (by omega), decide_eq_true rfl, Bool.or_true]
              · rw [bset_ne m (by omega) qi, decide_eq_false qi, Bool.or_false]
            · rw [if_neg cw, or_z, Bool.eq_false_iff.mpr cw, Bool.and_false, Bool.or_false]
          refine fin _ _ (put m1 _ _ ?_) (put m2 _ _ ?_)
          · rw [pL_hour_J121s0, show ix ((5 * nI i) + 2) = 5 * i + 2 from ix5a (j := 2) (by omega) (by decide), e2, pL_hour_J110s0]
            unfold wm
            by_cases cb : b = 0
            · rw [if_pos cb, if_pos cb]
              by_cases k2 : bt (x.1 2) i = true
              · rw [if_pos k2, if_pos k2, if_pos rfl]
              · rw [if_neg k2, if_neg k2]
                by_cases k1 : bt (x.1 1) i = true
                · rw [if_pos k1, if_neg (by decide)]
                · rw [if_neg k1, if_neg (by decide)]
            · rw [if_neg cb, if_neg cb]
              by_cases k2 : bt (x.1 2) i = true
              · rw [if_pos k2, if_neg (by decide), (b2 k2).2]
                rfl
              · rw [if_neg k2]
                by_cases k1 : bt (x.1 1) i = true
                · rw [if_pos k1, if_pos rfl, if_pos k1]
                · rw [if_neg k1, if_neg (by decide), if_neg k1]
          · rw [pL_hour_J158s0, show ix ((5 * nI i) + 2) = 5 * i + 2 from ix5a (j := 2) (by omega) (by decide), e2, show ix (5 * nI i) = 5 * i from ix5 (by omega), e0, show y.2 0 (ix 5) = x.2 0 (ix 5) from h.st (j := 5) (by decide)]
            have ho := oot_bt x i
            by_cases k2 : bt (x.1 2) i = true
            · rw [if_pos k2, if_pos (by decide), if_neg (fun z => absurd (k2.symm.trans (ho.mp z).2.2.1) (by decide))]
            · have f2 := Bool.eq_false_iff.mpr k2
              rw [if_neg k2]
              have nle : ¬ (2 : Int32) ≤ (if bt (x.1 1) i = true then 1 else 0) := by
                by_cases k1 : bt (x.1 1) i = true
                · rw [if_pos k1]
                  decide
                · rw [if_neg k1]
                  decide
              rw [if_neg nle]
              by_cases cp : x.2 0 (ix 5) ≤ x.2 1 i
              · rw [if_pos cp, if_neg (fun z => (ho.mp z).2.2.2 cp)]
              · rw [if_neg cp, if_pos (ho.mpr ⟨hi, c0, f2, cp⟩)]
      · rw [bn (Bool.eq_false_iff.mpr c0), if_pos (by decide)]
        refine fin m1 m2 (fun q => ?_) (fun q => ?_)
        · rw [Bool.eq_false_iff.mpr (fun z => c0 (wb z)), Bool.false_and, Bool.and_false, Bool.or_false]
        · rw [Bool.eq_false_iff.mpr (fun z => c0 (tb z)), Bool.false_and, Bool.and_false, Bool.or_false]
theorem mask_eq {B : Int} {d : Int32} {x y : SR} (h : RQ B d x y) (b w6 v : Int32) (hf : ∀ i, i < 12 → bt w6 i = !bt v i) : pL_hour_E62 b w6 y = ((wm b x) &&& (v ^^^ (-1)), (pX1_outOfTune x) &&& (v ^^^ (-1))) := by
  have hB := h.2.2.2.2
  have hW : ∀ i, 12 ≤ i → bt (wm b x) i = false := fun i hi => by
    unfold wm
    by_cases cb : b = 0
    · rw [if_pos cb]
      exact hB 2 (by decide) i hi
    · rw [if_neg cb]
      exact hB 1 (by decide) i hi
  have hO : ∀ i, 12 ≤ i → bt (pX1_outOfTune x) i = false := fun i hi => Bool.eq_false_iff.mpr (fun z => by have := ((oot_bt x i).mp z).1; omega)
  have one : ∀ (A m : Int32), (∀ i, 12 ≤ i → bt A i = false) → (∀ j, bt m j = (bt 0 j || (decide (0 ≤ j) && decide (j < 12) && (bt A j && !bt v j)))) → m = A &&& (v ^^^ (-1)) := by
    intro A m hA hm
    apply b_ext
    intro j hj
    rw [hm j, b_0, Bool.false_or, b_and, b_not v hj, decide_eq_true (Nat.zero_le j), Bool.true_and]
    by_cases q : j < 12
    · rw [decide_eq_true q, Bool.true_and]
    · rw [decide_eq_false q, Bool.false_and, hA j (by omega), Bool.false_and]
  have r := fun j => mask_L h b w6 v hf 13 0 0 0 j (by decide) (by decide)
  rw [nI_0] at r
  rw [pL_hour_E62]
  exact Prod.ext (one _ _ hW (fun j => (r j).1)) (one _ _ hO (fun j => (r j).2))
