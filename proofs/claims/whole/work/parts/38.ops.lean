-- the acts on a street, on both sides
def OPs (x y : SR) (why : Int32) (ans : SR → Int32) (does : SR → SR) (op : Int32 × SR) : Prop := (¬ 0 ≤ why ∧ op = (why, x)) ∨ (0 ≤ why ∧ 0 ≤ op.1 ∧ ∀ z : SR, z.2 0 = y.2 0 → op.1 = ans z ∧ RN op.2 ((does z).2 0) ∧ F2 z (does z))
theorem change_ok {t : TV} {y : SR} (h : RT t y) {why : Int32} {ans : SR → Int32} {does : SR → SR} {op : Int32 × SR} (o : OPs (t.1 0) y why ans does op) (m : Int32 × SR) (hm : m = if 0 ≤ why then (ans (pX3_record y), does (pX3_record y)) else (why, y)) : (pX2_recorded op.1 (tQ (tQ t 1 (pX2_copy (t.1 0) (t.1 1))) 0 op.2)).1 = m.1 ∧ RT (pX2_recorded op.1 (tQ (tQ t 1 (pX2_copy (t.1 0) (t.1 1))) 0 op.2)).2 m.2 := by
  rcases o with ⟨hw, ho⟩ | ⟨hw, h0, hz⟩
  · rw [hm, if_neg hw, ho]
    exact recorded_no h why hw
  · rw [hm, if_pos hw]
    obtain ⟨z1, z2, z3⟩ := hz (pX3_record y) ((record_f h.2.1.2.1).1 0 (by decide))
    obtain ⟨r1, r2⟩ := recorded_ok h z3 z2 op.1 h0
    exact ⟨r1.trans z1, r2⟩
theorem le0_nI {n : Nat} (h : n < 2147483648) : (0 : Int32) ≤ nI n := nI_pos' h
theorem cs_le (b : Nat → Bool) : ∀ n i, cs b n i ≤ n
  | 0, _ => Nat.le_refl _
  | n + 1, i => by
    rw [cs]
    have := cs_le b n (i + 1)
    by_cases c : b i = true
    · rw [if_pos c]
      omega
    · rw [if_neg c]
      omega
theorem bc_pos {v : Int32} (h : ∀ i, 12 ≤ i → bt v i = false) : (0 : Int32) ≤ pJ6_bitCount_0f7a4 v := by
  rw [bc_cs h]
  have := cs_le (bt v) 12 0
  exact le0_nI (by omega)
-- set
theorem RS.set {x : SR} {m : Nat → Int32} (h : RS x m) {j : Nat} (hj : j < 7) (v : Int32) (hs : SOK (up m j v)) : RS (pR x 0 (nI j) v) (up m j v) := by
  obtain ⟨⟨a1, a⟩, s, P, K, B⟩ := h
  have hix : ix (nI j) = j := ix_nI (by omega)
  refine ⟨⟨fun i hi => ?_, ?_⟩, hs, fun p hp => (P p hp).cg (fun _ _ => rfl) (fun r h1 _ => by rw [pR_or (by omega)]) (fun i hi => up_ne _ _ (by omega)), K.cg (fun r h1 _ k _ => by rw [pR_or (by omega)]) (up_ne _ _ (by omega)) (fun i hi _ => up_ne _ _ (by omega)), B⟩
  · rw [pR_sm, hix]
    by_cases c : i = j
    · rw [c, up_same, up_same]
    · rw [up_ne _ _ c, up_ne _ _ c]
      exact a1 i hi
  · rw [up_ne _ _ (by omega), up_ne _ _ (by omega), up_ne _ _ (by omega), up_ne _ _ (by omega), up_ne _ _ (by omega)]
    exact a
theorem win_iff {a lo hi : Int32} : (¬ pX3_within a lo hi = 0) ↔ ¬ a < lo ∧ a ≤ hi := by
  rw [win_le]
  by_cases c : a < lo
  · rw [if_pos c]
    exact ⟨fun z => absurd rfl z, fun z => absurd c z.1⟩
  · rw [if_neg c]
    by_cases d : a ≤ hi
    · rw [if_pos d]
      exact ⟨fun _ => ⟨c, d⟩, fun _ => by decide⟩
    · rw [if_neg d]
      exact ⟨fun z => absurd rfl z, fun z => absurd z.2 d⟩
theorem isVal_no {a b : Int32} (h : a < 0 ∨ 7 ≤ a) : pX3_isValue a b = 0 := by
  have e : ∀ k : Nat, k < 7 → ¬ a = nI k := fun k hk e => by
    subst e
    rcases h with q | q
    · exact nI_pos (by omega) q
    · rw [show (7 : Int32) = nI 7 from rfl, nI_leI (by omega) (by omega)] at q
      omega
  rw [pX3_isValue, if_neg (show ¬ a = 0 from e 0 (by decide)), if_neg (show ¬ a = 1 from e 1 (by decide)), if_neg (show ¬ a = 2 from e 2 (by decide)), if_neg (show ¬ a = 3 from e 3 (by decide)), if_neg (show ¬ a = 4 from e 4 (by decide)), if_neg (show ¬ a = 5 from e 5 (by decide)), if_neg (show ¬ a = 6 from e 6 (by decide))]
theorem isVal_at {j : Nat} (hj : j < 7) (b : Int32) : pX3_isValue (nI j) b = pX3_within b (leastF j) (mostF j) := by
  rcases (show j = 0 ∨ j = 1 ∨ j = 2 ∨ j = 3 ∨ j = 4 ∨ j = 5 ∨ j = 6 by omega) with rfl | rfl | rfl | rfl | rfl | rfl | rfl <;> rfl
theorem SOK.up {m : Nat → Int32} (h : SOK m) {j : Nat} (hj : j < 7) {b : Int32} (hb : ¬ b < leastF j ∧ b ≤ mostF j) : SOK (up m j b) := by
  obtain ⟨a0, a1, a2, a3, a4, a5, a6⟩ := h
  have hI : inI b (Int32.toInt (leastF j)) (Int32.toInt (mostF j)) := ⟨by have := hb.1; rw [Int32.lt_iff_toInt_lt] at this; omega, Int32.le_iff_toInt_le.mp hb.2⟩
  unfold SOK
  rcases (show j = 0 ∨ j = 1 ∨ j = 2 ∨ j = 3 ∨ j = 4 ∨ j = 5 ∨ j = 6 by omega) with rfl | rfl | rfl | rfl | rfl | rfl | rfl
  · exact ⟨hI, a1, a2, a3, a4, a5, a6⟩
  · exact ⟨a0, hI, a2, a3, a4, a5, a6⟩
  · exact ⟨a0, a1, hI, a3, a4, a5, a6⟩
  · exact ⟨a0, a1, a2, hI, a4, a5, a6⟩
  · exact ⟨a0, a1, a2, a3, hI, a5, a6⟩
  · exact ⟨a0, a1, a2, a3, a4, hI, a6⟩
  · exact ⟨a0, a1, a2, a3, a4, a5, hI⟩
theorem SOK.pos {m : Nat → Int32} (h : SOK m) {j : Nat} (hj : j < 7) : (0 : Int32) ≤ m j := by
  obtain ⟨a0, a1, a2, a3, a4, a5, a6⟩ := h
  rw [Int32.le_iff_toInt_le, show Int32.toInt 0 = 0 from rfl]
  rcases (show j = 0 ∨ j = 1 ∨ j = 2 ∨ j = 3 ∨ j = 4 ∨ j = 5 ∨ j = 6 by omega) with rfl | rfl | rfl | rfl | rfl | rfl | rfl
  · exact a0.1
  · have := a1.1
    omega
  · have := a2.1
    omega
  · exact a3.1
  · exact a4.1
  · exact a5.1
  · have := a6.1
    omega
theorem mW_pR (z : SR) (i v : Int32) : pR z 0 i v = mW z (ix i) v := rfl
theorem RN.rs {x : SR} {m : Nat → Int32} (h : RN x m) {x' : SR} {m' : Nat → Int32} (g : RS x' m') (e11 : m' 11 = m 11) (e8 : m' 8 = m 8) : RN x' m' := ⟨g, by rw [e11, e8]; exact h.2⟩
theorem set_op {x y : SR} (h : RN x (y.2 0)) (a b : Int32) : OPs x y (if pX3_isValue a b = 0 then -2 else 0) (fun z => z.2 0 (ix a)) (fun z => pR z 0 a b) (pX1_changeSetting a b x) := by
  unfold OPs
  rw [pX1_changeSetting]
  by_cases c : a < 0
  · rw [if_pos c, isVal_no (Or.inl c), if_pos rfl]
    exact Or.inl ⟨by decide, rfl⟩
  · rw [if_neg c]
    by_cases d : a < 7
    · rw [if_pos d]
      have d2 := d
      have c2 := c
      rw [Int32.lt_iff_toInt_lt] at c2 d2
      obtain ⟨j, hj, rfl⟩ := vp_in_of (x := a) (n := 7) (vp_in_iff.mpr ⟨by rw [show Int32.toInt 0 = 0 from rfl] at c2; omega, by rw [show Int32.toInt 7 = 7 from rfl] at d2; omega⟩) (by decide)
      have hix : ix (nI j) = j := ix_nI (by omega)
      rw [hix, isVal_at hj]
      have hw := win_iff (a := b) (lo := leastF j) (hi := mostF j)
      by_cases e : b < leastF j
      · rw [if_pos e, if_pos (Classical.byContradiction fun z => (hw.mp z).1 e)]
        exact Or.inl ⟨by decide, rfl⟩
      · rw [if_neg e]
        by_cases f : b ≤ mostF j
        · rw [if_pos f, if_neg (hw.mpr ⟨e, f⟩)]
          refine Or.inr ⟨by decide, ?_, fun z hz => ⟨?_, ?_, F2_mW _ _ _⟩⟩
          · show (0 : Int32) ≤ x.2 0 j
            rw [← h.1.st j hj]
            exact h.1.2.1.pos hj
          · show x.2 0 j = z.2 0 j
            rw [hz]
            exact (h.1.st j hj).symm
          · show RN (pR x 0 (nI j) b) ((pR z 0 (nI j) b).2 0)
            rw [mW_pR z, mW_0, hix, hz]
            exact h.rs (h.1.set hj b (h.1.2.1.up hj ⟨e, f⟩)) (up_ne _ _ (by omega)) (up_ne _ _ (by omega))
        · rw [if_neg f, if_pos (Classical.byContradiction fun z => f (hw.mp z).2)]
          exact Or.inl ⟨by decide, rfl⟩
    · rw [if_neg d, isVal_no (Or.inr (by rw [Int32.le_iff_toInt_le]; rw [Int32.lt_iff_toInt_lt] at d; omega)), if_pos rfl]
      exact Or.inl ⟨by decide, rfl⟩
theorem set_eq {t : TV} {y : SR} (h : RT t y) (a b : Int32) : (pX2_set a b t).1 = (pX3_set a b y).1 ∧ RT (pX2_set a b t).2 (pX3_set a b y).2 := by
  rw [pX2_set]
  refine change_ok h (set_op h.1 a b) _ ?_
  rw [pX3_set]
  by_cases c : pX3_isValue a b = 0
  · rw [if_pos c, if_pos c, if_neg (by decide)]
  · rw [if_neg c, if_neg c, if_pos (by decide)]
-- rain
theorem rain_op {x y : SR} (h : RN x (y.2 0)) (a : Int32) : OPs x y (if pX3_within a 0 16777215 = 0 then -2 else 0) (fun z => z.2 0 (ix 8)) (fun z => pR z 0 8 a) (pX1_changeRain a x) := by
  unfold OPs
  rw [pX1_changeRain, win_le]
  by_cases c : a < 0
  · rw [if_pos c, if_pos c, if_pos rfl]
    exact Or.inl ⟨by decide, rfl⟩
  · rw [if_neg c, if_neg c]
    by_cases d : a ≤ 16777215
    · rw [if_pos d, if_pos d, if_neg (show ¬ (1 : Int32) = 0 by decide)]
      have e8 : x.1 4 = y.2 0 8 := h.1.1.2.2.1
      refine Or.inr ⟨by decide, ?_, fun z hz => ⟨?_, ?_, F2_mW _ _ _⟩⟩
      · show (0 : Int32) ≤ x.1 4
        rw [e8, Int32.le_iff_toInt_le]
        exact h.2.2.1
      · show x.1 4 = z.2 0 (ix 8)
        rw [hz]
        exact e8
      · show RN (pS x 4 a) ((pR z 0 8 a).2 0)
        rw [mW_pR z, mW_0, show ix 8 = 8 from rfl, hz]
        refine ⟨h.1.num (f := 4) (c := 8) (by omega) a, by rw [up_ne _ _ (by decide)]; exact h.2.1, ?_⟩
        rw [up_same]
        exact ⟨by rw [Int32.lt_iff_toInt_lt, show Int32.toInt 0 = 0 from rfl] at c; omega, by rw [Int32.le_iff_toInt_le, show Int32.toInt 16777215 = 16777215 from rfl] at d; exact d⟩
    · rw [if_neg d, if_neg d, if_pos rfl]
      exact Or.inl ⟨by decide, rfl⟩
theorem rain_eq {t : TV} {y : SR} (h : RT t y) (a : Int32) : (pX2_rain a t).1 = (pX3_rain a y).1 ∧ RT (pX2_rain a t).2 (pX3_rain a y).2 := by
  rw [pX2_rain]
  refine change_ok h (rain_op h.1 a) _ ?_
  rw [pX3_rain]
  by_cases c : pX3_within a 0 16777215 = 0
  · rw [if_pos c, if_pos c, if_neg (by decide)]
  · rw [if_neg c, if_neg c, if_pos (by decide)]
