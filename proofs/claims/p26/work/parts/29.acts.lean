-- the acts: both sides
theorem rec_0 (a : Int32) (t : TV) : (pX2_recorded a t).1 = a ∧ (pX2_recorded a t).2.1 0 = t.1 0 := by
  have q : ∀ (u : TV) (w : Int32) (s : SR) (k : Nat), (tU (tQ u (3 + k) s) w).1 0 = u.1 0 := fun u w s k => tQ_of u s (by omega)
  have e : (pX2_dropOldest t).1 0 = t.1 0 := rfl
  rw [pX2_recorded]
  by_cases c1 : 0 ≤ a
  · rw [if_pos c1]
    by_cases c2 : t.2.2.1 < 6
    · rw [if_pos c2]
      by_cases c3 : t.2.2.1 < 0
      · rw [if_pos c3]
        exact ⟨rfl, rfl⟩
      · rw [if_neg c3]
        by_cases c4 : 6 ≤ t.2.2.1
        · rw [if_pos c4]
          exact ⟨rfl, rfl⟩
        · rw [if_neg c4]
          exact ⟨rfl, q _ _ _ _⟩
    · rw [if_neg c2]
      by_cases c3 : (pX2_dropOldest t).2.2.1 < 0
      · rw [if_pos c3]
        exact ⟨rfl, e⟩
      · rw [if_neg c3]
        by_cases c4 : 6 ≤ (pX2_dropOldest t).2.2.1
        · rw [if_pos c4]
          exact ⟨rfl, e⟩
        · rw [if_neg c4]
          exact ⟨rfl, (q _ _ _ _).trans e⟩
  · rw [if_neg c1]
    exact ⟨rfl, rfl⟩
theorem chg_0 {t : TV} {a : Int32} {z s : SR} : (pX2_recorded a (tQ (tQ t 1 z) 0 s)).1 = a ∧ (pX2_recorded a (tQ (tQ t 1 z) 0 s)).2.1 0 = s := by
  have h := rec_0 a (tQ (tQ t 1 z) 0 s)
  exact ⟨h.1, h.2.trans (tQ_at _ _ _)⟩
-- counts
theorem cnt_L {f : Int32 → SR → Int32} {m : Int32} {L : Nat → Int32 → Int32 → SR → Int32} {z : SR} (hL : ∀ n v w, L (n + 1) v w z = if 12 ≤ w then v else L n (v + f w z) (w + 1) z) (hf : ∀ p, p < 12 → f (nI p) z = if bt m p = true then 1 else 0) : ∀ (n i V : Nat), i ≤ 12 → 12 - i < n → L n (nI V) (nI i) z = nI (V + cs (bt m) (12 - i) i) := by
  intro n
  induction n with
  | zero => intro i V h1 h2; omega
  | succ n ih =>
    intro i V h1 h2
    rw [hL]
    by_cases e : i = 12
    · subst e
      rw [if_pos (show (12 : Int32) ≤ nI 12 by decide), Nat.sub_self, cs, Nat.add_zero]
    · have hi : i < 12 := by omega
      rw [if_neg (lt12 hi).2, hf i hi, nI_1, show 12 - i = (12 - (i + 1)) + 1 by omega, cs]
      by_cases b : bt m i = true
      · rw [if_pos b, if_pos b, nI_1, ih (i + 1) (V + 1) (by omega) (by omega), Nat.add_assoc]
      · rw [if_neg b, if_neg b, Int32.add_zero, ih (i + 1) V (by omega) (by omega), Nat.zero_add]
theorem cnt_E {f : Int32 → SR → Int32} {m : Int32} {L : Nat → Int32 → Int32 → SR → Int32} {z : SR} (hL : ∀ n v w, L (n + 1) v w z = if 12 ≤ w then v else L n (v + f w z) (w + 1) z) (hf : ∀ p, p < 12 → f (nI p) z = if bt m p = true then 1 else 0) (hm : ∀ i, 12 ≤ i → bt m i = false) : L 13 0 0 z = pJ6_bitCount_0f7a4 m := by
  have a := cnt_L hL hf 13 0 0 (by decide) (by decide)
  rw [nI_0, Nat.zero_add] at a
  rw [a, bc_cs hm]
-- a setting
theorem set_in : ∀ j, j < 7 → (Int32.toInt (leastF j) = (if j = 1 ∨ j = 2 ∨ j = 6 then 1 else 0)) ∧ (Int32.toInt (mostF j) = if j = 0 then 12 else if j = 1 then 50 else if j = 2 then 20 else if j = 3 then 20 else if j = 4 then 50 else if j = 5 then 100 else 20) := by decide
theorem SOK_up {m : Nat → Int32} (h : SOK m) {j : Nat} (hj : j < 7) {v : Int32} (hv : inI v (Int32.toInt (leastF j)) (Int32.toInt (mostF j))) : SOK (up m j v) := by
  obtain ⟨a0, a1, a2, a3, a4, a5, a6⟩ := h
  rcases (show j = 0 ∨ j = 1 ∨ j = 2 ∨ j = 3 ∨ j = 4 ∨ j = 5 ∨ j = 6 by omega) with rfl | rfl | rfl | rfl | rfl | rfl | rfl
  · exact ⟨hv, a1, a2, a3, a4, a5, a6⟩
  · exact ⟨a0, hv, a2, a3, a4, a5, a6⟩
  · exact ⟨a0, a1, hv, a3, a4, a5, a6⟩
  · exact ⟨a0, a1, a2, hv, a4, a5, a6⟩
  · exact ⟨a0, a1, a2, a3, hv, a5, a6⟩
  · exact ⟨a0, a1, a2, a3, a4, hv, a6⟩
  · exact ⟨a0, a1, a2, a3, a4, a5, hv⟩
section RLA
variable {B : Int} {x y : SR}
theorem setA (h : RQ B 0 x y) {j : Nat} (hj : j < 7) {v : Int32} (hv : inI v (Int32.toInt (leastF j)) (Int32.toInt (mostF j))) : (pX1_changeSetting (nI j) v x).1 = y.2 0 (ix (nI j)) ∧ RQ B 0 (pX1_changeSetting (nI j) v x).2 (pR y 0 (nI j) v) := by
  have ij : ix (nI j) = j := ix_nI (by omega)
  have j0 : ¬ nI j < 0 := (lt12 (by omega)).1
  have j7 : nI j < 7 := by
    rw [show (7 : Int32) = nI 7 from rfl, nI_ltI (by omega) (by omega)]
    exact hj
  have v0 : ¬ v < leastF j := by
    rw [Int32.lt_iff_toInt_lt]
    have := hv.1
    omega
  have v1 : v ≤ mostF j := by
    rw [Int32.le_iff_toInt_le]
    exact hv.2
  rw [pX1_changeSetting, if_neg j0, if_pos j7, ij, if_neg v0, if_pos v1]
  obtain ⟨a, b, c, e, f, g, i⟩ := h.1
  have n : ∀ q, q ≠ j → (pR y 0 (nI j) v).2 0 q = y.2 0 q := fun q hq => q0_ne ij hq
  refine ⟨a j hj, ⟨fun q hq => ?_, ?_, ?_, ?_, ?_, ?_, i⟩, ?_, fun p hp => (h.2.2.1 p hp).cg (fun _ _ => rfl) (fun r h1 h2 => by rw [pR_or (by omega)]) (fun _ _ => by rw [pR_or (by decide)]), h.2.2.2.1.cg (fun r h1 h2 k _ => by rw [pR_or (by omega)]) (n 11 (by omega)) (fun _ _ => by rw [pR_or (by decide)]), h.2.2.2.2⟩
  · rw [pR_sm, pR_sm, ij]
    by_cases e : q = j
    · rw [e, up_same, up_same]
    · rw [up_ne _ _ e, up_ne _ _ e]
      exact a q hq
  · rw [n 7 (by omega)]
    exact b
  · rw [n 8 (by omega)]
    exact c
  · rw [n 9 (by omega)]
    exact e
  · rw [n 10 (by omega)]
    exact f
  · rw [n 11 (by omega)]
    exact g
  · rw [pR_sm, ij]
    exact SOK_up h.2.1 hj hv
theorem rainA (h : RQ B 0 x y) {v : Int32} (hv : inI v 0 16777215) : (pX1_changeRain v x).1 = y.2 0 (ix 8) ∧ RQ B 0 (pX1_changeRain v x).2 (pR y 0 8 v) := by
  have v0 : ¬ v < 0 := by
    rw [Int32.lt_iff_toInt_lt, show Int32.toInt 0 = 0 from rfl]
    have := hv.1
    omega
  have v1 : v ≤ 16777215 := by
    rw [Int32.le_iff_toInt_le]
    exact hv.2
  rw [pX1_changeRain, if_neg v0, if_pos v1]
  exact ⟨h.e8.symm, h.rain v⟩
theorem keeperA (h : RQ B 0 x y) (h4 : ¬ 4 ≤ y.2 0 (ix 11)) {p : Nat} (hp : p < 12) : (pX1_hireKeeper (nI p) x).1 = y.2 0 (ix 11) ∧ RQ B 0 (pX1_hireKeeper (nI p) x).2 (pR (pR y 2 (5 * (y.2 0 (ix 11))) (nI p)) 0 11 ((y.2 0 (ix 11)) + 1)) ∧ Int32.toInt ((pR (pR y 2 (5 * (y.2 0 (ix 11))) (nI p)) 0 11 ((y.2 0 (ix 11)) + 1)).2 0 (ix 11)) ≤ 4 := by
  rw [Int32.le_iff_toInt_le, show Int32.toInt 4 = 4 from rfl] at h4
  have c3 : x.1 3 < 4 := by
    rw [← h.e11, Int32.lt_iff_toInt_lt, show Int32.toInt 4 = 4 from rfl]
    omega
  have i0 := h.2.2.2.1.1.1
  have c0 : ¬ x.1 3 < 0 := by
    rw [← h.e11, Int32.lt_iff_toInt_lt, show Int32.toInt 0 = 0 from rfl, show y.2 0 (ix 11) = y.2 0 11 from rfl]
    omega
  have c4 : x.1 3 ≤ 4 := by
    rw [Int32.lt_iff_toInt_lt, show Int32.toInt 4 = 4 from rfl] at c3
    rw [Int32.le_iff_toInt_le, show Int32.toInt 4 = 4 from rfl]
    omega
  have g := hireL h (by rw [show y.2 0 11 = y.2 0 (ix 11) from rfl]; omega) hp
  rw [pX1_hireKeeper, pX2_isPlace, if_neg (lt12 hp).1, if_neg (lt12 hp).2, if_neg (by decide), if_pos c3]
  refine ⟨?_, g, ?_⟩
  · rw [pX1_addKeeper, if_neg c0, if_pos c4, h.e11]
    show (x.1 3 + 1) - 1 = x.1 3
    exact Int32.add_sub_cancel _ _
  · rw [show ix 11 = 11 from rfl, pR_sm, show ix 11 = 11 from rfl, up_same, show y.2 0 11 = y.2 0 (ix 11) from rfl, i_add1 (by rw [show y.2 0 (ix 11) = y.2 0 11 from rfl]; omega) (by omega)]
    omega
theorem passA (h : RQ B 0 x y) {K : Nat} (h1 : 1 ≤ K) (hK : K ≤ 99) (hB : B ≤ 9900) : (pX1_passCounted (nI K) x).1 = (pL_law_L683 (nI K) 100 0 0 y).1 ∧ RQ (B + K) 0 (pX1_passCounted (nI K) x).2 (pL_law_L683 (nI K) 100 0 0 y).2 := by
  have tK : Int32.toInt (nI K) = (K : Int) := nI_toInt (by omega)
  obtain ⟨i1, i2⟩ := h.1.2.2.2.2.2.2
  have k1 : ¬ nI K < 1 := by
    rw [Int32.lt_iff_toInt_lt, tK, show Int32.toInt 1 = 1 from rfl]
    omega
  have k99 : nI K ≤ 99 := by
    rw [Int32.le_iff_toInt_le, tK, show Int32.toInt 99 = 99 from rfl]
    omega
  have k9 : x.1 5 + nI K ≤ 9999 := by
    rw [Int32.le_iff_toInt_le, t_add (by rw [tK]; omega), tK, show Int32.toInt 9999 = 9999 from rfl]
    omega
  obtain ⟨a, D, hD, e1, e2⟩ := hoursL K B x y h (by omega)
  rw [pX1_passCounted, if_neg k1, if_pos k99, if_pos k9, passHours_cH hK, show (0 : Int32) = nI 0 from rfl, L683_lH K (by omega) 100 0 _ _ (Nat.zero_le _) (by omega), Nat.sub_zero]
  refine ⟨?_, a⟩
  show (cH K x).1 6 - x.1 6 = lC K (nI 0) y
  rw [e1, e2, nI_0, Int32.zero_add, Int32.add_comm, Int32.add_sub_cancel]
-- the relation away from one piano
theorem RQ.pn (h : RQ B 0 x y) {x' y' : SR} {p : Nat} (hp : p < 12) (e0 : x'.2 0 = x.2 0) (es : ∀ i, 3 ≤ i → x'.1 i = x.1 i) (er : ∀ r, 1 ≤ r → r < 5 → ∀ q, q ≠ p → x'.2 r q = x.2 r q) (ek : ∀ r, 5 ≤ r → x'.2 r = x.2 r) (eb : ∀ r, r < 3 → ∀ q, q ≠ p → bt (x'.1 r) q = bt (x.1 r) q) (ey : ∀ r, r ≠ 1 → y'.2 r = y.2 r) (e1 : ∀ q, q < 5 * p ∨ 5 * p + 5 ≤ q → y'.2 1 q = y.2 1 q) (hn : LPp x' y' p) : RQ B 0 x' y' := by
  refine ⟨h.1.cg (fun j _ => by rw [e0]) (fun i h3 _ => es i h3) (fun j _ => by rw [ey 0 (by decide)]), by rw [ey 0 (by decide)]; exact h.2.1, fun q hq => ?_, h.2.2.2.1.cg (fun r h5 _ k _ => by rw [ek r h5]) (by rw [ey 0 (by decide)]) (fun j _ => by rw [ey 2 (by decide)]), fun r hr i hi => ?_⟩
  · by_cases e : q = p
    · rw [e]
      exact hn
    · exact (h.2.2.1 q hq).cg (fun r hr => eb r hr q e) (fun r h1 h2 => er r h1 h2 q e) (fun j hj => e1 _ (by omega))
  · rw [eb r hr i (by omega)]
    exact h.2.2.2.2 r hr i hi
theorem y5 {p c : Nat} {v : Int32} {i : Int32} (hi : ix i = 5 * p + c) (hc : c < 5) {q : Nat} (hq : q < 5 * p ∨ 5 * p + 5 ≤ q) (z : SR) : (pR z 1 i v).2 1 q = z.2 1 q := pR_off (Or.inr (by rw [hi]; omega))
-- away with a piano
theorem takeA (h : RQ B 0 x y) {p : Nat} (hp : p < 12) : (pX1_removePiano (nI p) x).1 = pL_law_J634s0 (5 * nI p) y ∧ RQ B 0 (pX1_removePiano (nI p) x).2 (pR y 1 (5 * nI p) (-1)) := by
  obtain ⟨l0, l1⟩ := at_ok h hp
  have i5 : ix (5 * nI p) = 5 * p := ix5 (by omega)
  rw [pX1_removePiano, pL_law_J634s0, pL_law_J572s0, i5]
  by_cases hb : bt (x.1 0) p = true
  · rw [if_neg (has_t hp hb), if_neg (fun q => absurd ((l0.mp q).symm.trans hb) (by decide)), if_neg (by decide)]
    have R : RQ B 0 (pS (pS (pS x 0 ((x.1 0) &&& ((1 <<< (nI p &&& 31)) ^^^ (-1)))) 1 ((x.1 1) &&& ((1 <<< (nI p &&& 31)) ^^^ (-1)))) 2 ((x.1 2) &&& ((1 <<< (nI p &&& 31)) ^^^ (-1)))) (pR y 1 (5 * nI p) (-1)) := by
      refine h.pn hp rfl (fun i hi => ?_) (fun _ _ _ _ _ => rfl) (fun _ _ => rfl) (fun r hr q hq => ?_) (fun r hr => pR_or hr) (fun q hq => y5 (c := 0) i5 (by decide) hq y) ?_
      · show up (up (up x.1 0 _) 1 _) 2 _ i = _
        rw [up_ne _ _ (by omega), up_ne _ _ (by omega), up_ne _ _ (by omega)]
      · rcases (show r = 0 ∨ r = 1 ∨ r = 2 by omega) with rfl | rfl | rfl <;> exact bclr_ne _ (by omega) hq
      · have z0 : bt ((x.1 0) &&& ((1 <<< (nI p &&& 31)) ^^^ (-1))) p = false := bclr_eq _ (by omega)
        have z1 : bt ((x.1 1) &&& ((1 <<< (nI p &&& 31)) ^^^ (-1))) p = false := bclr_eq _ (by omega)
        have z2 : bt ((x.1 2) &&& ((1 <<< (nI p &&& 31)) ^^^ (-1))) p = false := bclr_eq _ (by omega)
        refine ⟨fun q => absurd (z0.symm.trans q) (by decide), fun _ => ?_, fun q => absurd (z1.symm.trans q) (by decide), fun q => absurd (z2.symm.trans q) (by decide)⟩
        rw [pR_sm, i5, up_same]
    refine ⟨?_, R⟩
    rw [pL_law_E585]
    refine (cnt_E (f := pL_law_J608s0) (L := pL_law_L585) (fun _ _ _ => rfl) (fun q hq => ?_) (R.2.2.2.2 0 (by decide))).symm
    have a := (at_ok R hq).2
    rw [pL_law_J608s0, ix5 (by omega)]
    by_cases c : 0 ≤ (pR y 1 (5 * nI p) (-1)).2 1 (5 * q)
    · rw [if_pos c]
      exact (if_pos (a.mp c)).symm
    · rw [if_neg c]
      exact (if_neg (fun z => c (a.mpr z))).symm
  · rw [if_pos ((has0 _ hp).mpr (nt_f hb)), if_pos (l0.mpr (nt_f hb)), if_pos rfl]
    refine ⟨rfl, h.ya (fun j _ => by rw [pR_or (by decide)]) (fun j _ => ?_) (fun j _ => by rw [pR_or (by decide)])⟩
    rw [pR_sm, i5]
    by_cases e : j = 5 * p
    · rw [e, up_same]
      exact ((h.2.2.1 p hp).2.1 (nt_f hb)).symm
    · rw [up_ne _ _ e]
-- a cover
theorem coverA (h : RQ B 0 x y) {p : Nat} (hp : p < 12) : (pX1_layCover (nI p) x).1 = pL_law_J546s0 (5 * nI p) y ∧ RQ B 0 (pX1_layCover (nI p) x).2 (pL_law_J473xq (5 * nI p) y) := by
  obtain ⟨l0, l1⟩ := at_ok h hp
  have i5 : ix (5 * nI p) = 5 * p := ix5 (by omega)
  have i52 : ix (5 * nI p + 2) = 5 * p + 2 := ix5a (j := 2) (by omega) (by decide)
  rw [pX1_layCover, pL_law_J546s0, pL_law_E476, pL_law_J473xq, pL_law_J456s0, pL_law_J435s0, i5, i52]
  by_cases hb : bt (x.1 0) p = true
  · have eC := ((h.2.2.1 p hp).1 hb).2.2.1
    rw [if_neg (has_t hp hb), if_neg (show ¬ y.2 1 (5 * p) < 0 from fun q => absurd ((l0.mp q).symm.trans hb) (by decide)), if_neg (show ¬ (1 : Int32) = 0 by decide)]
    by_cases c : bt (x.1 2) p = true ∨ bt (x.1 1) p = true
    · have c' : bt ((x.1 1) ||| (x.1 2)) p = true := by
        rw [b_or]
        rcases c with c | c
        · rw [c, Bool.or_true]
        · rw [c, Bool.true_or]
      have n0 : ¬ y.2 1 (5 * p + 2) = 0 := by
        rw [eC]
        by_cases b2 : bt (x.1 2) p = true
        · rw [if_pos b2]
          decide
        · rw [if_neg b2, if_pos (c.resolve_left b2)]
          decide
      rw [if_neg (has_t hp c'), if_neg n0, if_pos rfl, if_pos rfl, if_neg (by decide)]
      exact ⟨rfl, h⟩
    · have n2 : bt (x.1 2) p = false := nt_f (fun q => c (Or.inl q))
      have n1 : bt (x.1 1) p = false := nt_f (fun q => c (Or.inr q))
      have c' : bt ((x.1 1) ||| (x.1 2)) p = false := by rw [b_or, n1, n2]; rfl
      have n0 : y.2 1 (5 * p + 2) = 0 := by
        rw [eC, n1, n2]
        rfl
      rw [if_pos ((has0 _ hp).mpr c'), if_pos n0, if_neg (show ¬ (1 : Int32) = 0 by decide), if_neg (show ¬ (1 : Int32) = 0 by decide)]
      have e1 : bt ((x.1 1) ||| (1 <<< (nI p &&& 31))) p = true := bset_eq _ (by omega)
      have R : RQ B 0 (pS x 1 ((x.1 1) ||| (1 <<< (nI p &&& 31)))) (pR y 1 (5 * nI p + 2) 1) := by
        refine h.cov (x' := pS x 1 ((x.1 1) ||| (1 <<< (nI p &&& 31)))) hp hb rfl rfl (fun i hi => up_ne _ _ (by omega)) (fun q hq => bset_ne _ (by omega) hq) (fun _ _ => rfl) 1 ?_ (fun q => absurd (n2.symm.trans q) (by decide)) i52
        show (1 : Int32) = if bt (x.1 2) p = true then 2 else if bt ((x.1 1) ||| (1 <<< (nI p &&& 31))) p = true then 1 else 0
        rw [if_neg (show ¬ bt (x.1 2) p = true from fun q => absurd (n2.symm.trans q) (by decide)), if_pos e1]
      refine ⟨?_, R⟩
      have rb : ∀ i, 12 ≤ i → bt (((x.1 1) ||| (1 <<< (nI p &&& 31))) ||| (x.1 2)) i = false := fun i hi => by
        have a1 : bt ((x.1 1) ||| (1 <<< (nI p &&& 31))) i = false := R.2.2.2.2 1 (by decide) i hi
        have a2 : bt (x.1 2) i = false := R.2.2.2.2 2 (by decide) i hi
        rw [b_or, a1, a2]
        rfl
      refine (cnt_E (f := pL_law_J510s0) (L := pL_law_L476) (fun _ _ _ => rfl) (fun q hq => ?_) rb).symm
      obtain ⟨a0, a1⟩ := at_ok R hq
      obtain ⟨g1, g2, g3, g4⟩ := R.2.2.1 q hq
      have g3' : bt ((x.1 1) ||| (1 <<< (nI p &&& 31))) q = true → bt (x.1 0) q = true := g3
      have g4' : bt (x.1 2) q = true → bt (x.1 0) q = true := fun z => (g4 z).1
      rw [pL_law_J510s0, ix5 (by omega), show ix (5 * nI q + 2) = 5 * q + 2 from ix5a (j := 2) (by omega) (by decide), b_or]
      by_cases cq : bt (x.1 0) q = true
      · have g1' := (g1 cq).2.2.1
        rw [if_neg (fun z => absurd ((a0.mp z).symm.trans cq) (by decide)), g1']
        show (if (if bt (x.1 2) q = true then (2 : Int32) else if bt ((x.1 1) ||| (1 <<< (nI p &&& 31))) q = true then 1 else 0) ≤ 0 then (0 : Int32) else 1) = _
        cases bt (x.1 2) q <;> cases bt ((x.1 1) ||| (1 <<< (nI p &&& 31))) q <;> decide
      · rw [if_pos (a0.mpr (nt_f cq)), nt_f (fun z => cq (g3' z)), nt_f (fun z => cq (g4' z))]
        rfl
  · rw [if_pos ((has0 _ hp).mpr (nt_f hb)), if_pos (l0.mpr (nt_f hb)), if_pos rfl, if_pos rfl]
    exact ⟨rfl, h⟩
-- a piano
def newX (p : Nat) (w : Int32) (x : SR) : SR := pR (pR (pR (pR (pS (pS x 0 ((x.1 0) ||| (1 <<< (nI p &&& 31)))) 1 ((x.1 1) ||| (w <<< (nI p &&& 31)))) 1 (nI p) 100) 2 (nI p) 0) 3 (nI p) 0) 4 (nI p) 0
def newY (p : Nat) (w : Int32) (y : SR) : SR := pR (pR (pR (pR (pR y 1 (5 * nI p) 100) 1 ((5 * nI p) + 1) 0) 1 ((5 * nI p) + 2) w) 1 ((5 * nI p) + 3) 0) 1 ((5 * nI p) + 4) 0
theorem newX_r (p : Nat) (w : Int32) (x : SR) {r : Nat} (h : r = 0 ∨ 5 ≤ r) : (newX p w x).2 r = x.2 r := by
  unfold newX
  rw [pR_or (by omega), pR_or (by omega), pR_or (by omega), pR_or (by omega)]
  rfl
theorem newX_q {p : Nat} (hp : p < 12) (w : Int32) (x : SR) {q : Nat} (h : q ≠ p) (r : Nat) : (newX p w x).2 r q = x.2 r q := by
  have e : q ≠ ix (nI p) := by rw [ix_nI (by omega)]; exact h
  unfold newX
  rw [pR_off (Or.inr e), pR_off (Or.inr e), pR_off (Or.inr e), pR_off (Or.inr e)]
  rfl
theorem newX_p {p : Nat} (hp : p < 12) (w : Int32) (x : SR) : (newX p w x).2 1 p = 100 ∧ (newX p w x).2 2 p = 0 ∧ (newX p w x).2 3 p = 0 ∧ (newX p w x).2 4 p = 0 := by
  have e : ix (nI p) = p := ix_nI (by omega)
  unfold newX
  refine ⟨?_, ?_, ?_, ?_⟩
  · rw [pR_or (by decide), pR_or (by decide), pR_or (by decide), pR_sm, e, up_same]
  · rw [pR_or (by decide), pR_or (by decide), pR_sm, e, up_same]
  · rw [pR_or (by decide), pR_sm, e, up_same]
  · rw [pR_sm, e, up_same]
theorem newX_s (p : Nat) (w : Int32) (x : SR) {i : Nat} (h : 2 ≤ i) : (newX p w x).1 i = x.1 i := by
  show up (up x.1 0 _) 1 _ i = _
  rw [up_ne _ _ (by omega), up_ne _ _ (by omega)]
theorem newX_0 (p : Nat) (w : Int32) (x : SR) : (newX p w x).1 0 = ((x.1 0) ||| (1 <<< (nI p &&& 31))) := by
  show up (up x.1 0 ((x.1 0) ||| (1 <<< (nI p &&& 31)))) 1 ((x.1 1) ||| (w <<< (nI p &&& 31))) 0 = _
  rw [up_ne _ _ (by decide), up_same]
theorem newX_1 (p : Nat) (w : Int32) (x : SR) : (newX p w x).1 1 = ((x.1 1) ||| (w <<< (nI p &&& 31))) := by
  show up (up x.1 0 ((x.1 0) ||| (1 <<< (nI p &&& 31)))) 1 ((x.1 1) ||| (w <<< (nI p &&& 31))) 1 = _
  rw [up_same]
theorem newY_q {p : Nat} (hp : p < 12) (w : Int32) (y : SR) {q : Nat} (hq : q < 5 * p ∨ 5 * p + 5 ≤ q) : (newY p w y).2 1 q = y.2 1 q := by
  have e0 : ix (5 * nI p) = 5 * p := ix5 (by omega)
  have e1 : ix (5 * nI p + 1) = 5 * p + 1 := ix5a (j := 1) (by omega) (by decide)
  have e2 : ix (5 * nI p + 2) = 5 * p + 2 := ix5a (j := 2) (by omega) (by decide)
  have e3 : ix (5 * nI p + 3) = 5 * p + 3 := ix5a (j := 3) (by omega) (by decide)
  have e4 : ix (5 * nI p + 4) = 5 * p + 4 := ix5a (j := 4) (by omega) (by decide)
  unfold newY
  rw [y5 (c := 4) e4 (by decide) hq, y5 (c := 3) e3 (by decide) hq, y5 (c := 2) e2 (by decide) hq, y5 (c := 1) e1 (by decide) hq, y5 (c := 0) e0 (by decide) hq]
theorem newY_r (p : Nat) (w : Int32) (y : SR) {r : Nat} (h : r ≠ 1) : (newY p w y).2 r = y.2 r := by
  unfold newY
  rw [pR_or h, pR_or h, pR_or h, pR_or h, pR_or h]
theorem newY_p {p : Nat} (hp : p < 12) (w : Int32) (y : SR) : (newY p w y).2 1 (5 * p) = 100 ∧ (newY p w y).2 1 (5 * p + 1) = 0 ∧ (newY p w y).2 1 (5 * p + 2) = w ∧ (newY p w y).2 1 (5 * p + 3) = 0 ∧ (newY p w y).2 1 (5 * p + 4) = 0 := by
  have e0 : ix (5 * nI p) = 5 * p := ix5 (by omega)
  have e1 : ix (5 * nI p + 1) = 5 * p + 1 := ix5a (j := 1) (by omega) (by decide)
  have e2 : ix (5 * nI p + 2) = 5 * p + 2 := ix5a (j := 2) (by omega) (by decide)
  have e3 : ix (5 * nI p + 3) = 5 * p + 3 := ix5a (j := 3) (by omega) (by decide)
  have e4 : ix (5 * nI p + 4) = 5 * p + 4 := ix5a (j := 4) (by omega) (by decide)
  unfold newY
  refine ⟨?_, ?_, ?_, ?_, ?_⟩
  · rw [pR_sm, e4, up_ne _ _ (by omega), pR_sm, e3, up_ne _ _ (by omega), pR_sm, e2, up_ne _ _ (by omega), pR_sm, e1, up_ne _ _ (by omega), pR_sm, e0, up_same]
  · rw [pR_sm, e4, up_ne _ _ (by omega), pR_sm, e3, up_ne _ _ (by omega), pR_sm, e2, up_ne _ _ (by omega), pR_sm, e1, up_same]
  · rw [pR_sm, e4, up_ne _ _ (by omega), pR_sm, e3, up_ne _ _ (by omega), pR_sm, e2, up_same]
  · rw [pR_sm, e4, up_ne _ _ (by omega), pR_sm, e3, up_same]
  · rw [pR_sm, e4, up_same]
theorem zshl : ∀ p, p < 12 → ((0 : Int32) <<< (nI p &&& 31)) = 0 := by decide
theorem pianoA (h : RQ B 0 x y) {p : Nat} (hp : p < 12) {w : Int32} (hw : w = 0 ∨ w = 1) : (bt (x.1 0) p = true → pX1_addPiano (nI p) w x = (-5, x)) ∧ (bt (x.1 0) p = false → (pX1_addPiano (nI p) w x).1 = pL_law_L251 13 0 0 (newY p w y) ∧ RQ B 0 (pX1_addPiano (nI p) w x).2 (newY p w y)) := by
  have hpl : ¬ pX2_isPlace (nI p) = 0 := by
    rw [pX2_isPlace, if_neg (lt12 hp).1, if_neg (lt12 hp).2]
    decide
  have ea : pX1_addPiano (nI p) w x = if pX2_has (x.1 0) (nI p) = 0 then (pJ6_bitCount_0f7a4 ((x.1 0) ||| (1 <<< (nI p &&& 31))), newX p w x) else (-5, x) := by
    rw [pX1_addPiano, if_neg hpl]
    rcases hw with rfl | rfl
    · rw [if_pos rfl]
      rfl
    · rw [if_neg (show ¬ (1 : Int32) = 0 by decide), if_pos rfl]
      rfl
  rw [ea]
  refine ⟨fun hb => if_neg (has_t hp hb), fun hb => ?_⟩
  rw [if_pos ((has0 _ hp).mpr hb)]
  obtain ⟨n1, n2⟩ := h.2.2.1 p hp |>.2.2
  have f1 : bt (x.1 1) p = false := nt_f (fun q => absurd (hb.symm.trans (n1 q)) (by decide))
  have f2 : bt (x.1 2) p = false := nt_f (fun q => absurd (hb.symm.trans (n2 q).1) (by decide))
  have b0 : bt ((newX p w x).1 0) p = true := by rw [newX_0]; exact bset_eq _ (by omega)
  have b2 : bt ((newX p w x).1 2) p = false := by rw [newX_s p w x (by decide)]; exact f2
  have b1 : bt ((newX p w x).1 1) p = true ↔ w = 1 := by
    rw [newX_1]
    rcases hw with rfl | rfl
    · rw [zshl p hp, or_z, f1]
      exact ⟨fun q => absurd q (by decide), fun q => absurd q (by decide)⟩
    · rw [bset_eq _ (by omega)]
      exact ⟨fun _ => rfl, fun _ => rfl⟩
  obtain ⟨x1, x2, x3, x4⟩ := newX_p hp w x
  obtain ⟨y0, y1, y2, y3, y4⟩ := newY_p hp w y
  have R : RQ B 0 (newX p w x) (newY p w y) := by
    refine h.pn hp (newX_r p w x (Or.inl rfl)) (fun i hi => newX_s p w x (by omega)) (fun r _ _ q hq => newX_q hp w x hq r) (fun r hr => newX_r p w x (Or.inr hr)) (fun r hr q hq => ?_) (fun r hr => newY_r p w y hr) (fun q hq => newY_q hp w y hq) ?_
    · rcases (show r = 0 ∨ r = 1 ∨ r = 2 by omega) with rfl | rfl | rfl
      · rw [newX_0]
        exact bset_ne _ (by omega) hq
      · rw [newX_1]
        rcases hw with rfl | rfl
        · rw [zshl p hp, or_z]
        · exact bset_ne _ (by omega) hq
      · rw [newX_s p w x (by decide)]
    · refine ⟨fun _ => ⟨y0.trans x1.symm, y1.trans x2.symm, ?_, y3.trans x3.symm, y4.trans x4.symm, ?_, ?_⟩, fun q => absurd (b0.symm.trans q) (by decide), fun _ => b0, fun q => absurd (b2.symm.trans q) (by decide)⟩
      · rw [y2, if_neg (show ¬ bt ((newX p w x).1 2) p = true from fun q => absurd (b2.symm.trans q) (by decide))]
        rcases hw with rfl | rfl
        · rw [if_neg (fun q => absurd (b1.mp q) (by decide))]
        · rw [if_pos (b1.mpr rfl)]
      · rw [x1]
        exact ⟨by decide, by decide⟩
      · rw [x2]
        exact ⟨by decide, by decide⟩
  refine ⟨?_, R⟩
  have rb : ∀ i, 12 ≤ i → bt ((x.1 0) ||| (1 <<< (nI p &&& 31))) i = false := fun i hi => by
    have a := R.2.2.2.2 0 (by decide) i hi
    rw [newX_0] at a
    exact a
  refine (cnt_E (f := pL_law_J274s0) (L := pL_law_L251) (fun _ _ _ => rfl) (fun q hq => ?_) rb).symm
  have a := (at_ok R hq).2
  rw [newX_0] at a
  rw [pL_law_J274s0, ix5 (by omega)]
  by_cases c : bt ((x.1 0) ||| (1 <<< (nI p &&& 31))) q = true
  · rw [if_pos (a.mpr c), if_pos c]
  · rw [if_neg (fun z => c (a.mp z)), if_neg c]
end RLA
