-- a place is written anew
theorem RS.pla {x x' : SR} {m m' : Nat → Int32} (h : RS x m) {i : Nat} (hi : i < 12) (hb : ∀ r, r < 3 → ∀ q, q ≠ i → bt (x'.1 r) q = bt (x.1 r) q) (e1 : ∀ r, 3 ≤ r → x'.1 r = x.1 r) (e2 : ∀ r, (r = 0 ∨ 5 ≤ r) → x'.2 r = x.2 r) (e3 : ∀ r, 1 ≤ r → r < 5 → ∀ q, q ≠ i → x'.2 r q = x.2 r q) (em : ∀ j, j < 109 → ¬ (12 + 6 * i ≤ j ∧ j < 12 + 6 * i + 6) → m' j = m j) (hP : RP x' m' i) : RS x' m' := by
  refine ⟨h.1.cg (fun j hj => by rw [e2 0 (Or.inl rfl)]) (fun r h1 _ => e1 r h1) (fun j hj => em j (by omega) (by omega)), h.2.1.cg (fun j hj => em j (by omega) (by omega)), fun q hq => ?_, h.2.2.2.1.cg (fun r h1 _ k _ => by rw [e2 r (Or.inr h1)]) (em 11 (by decide) (by omega)) (fun j h1 h2 => em j h2 (by omega)), fun r hr j hj => ?_⟩
  · by_cases c : q = i
    · rw [c]
      exact hP
    · exact (h.2.2.1 q hq).cg (fun r hr => hb r hr q c) (fun r h1 h2 => e3 r h1 h2 q c) (fun j hj => em _ (by omega) (by omega))
  · rw [hb r hr j (by omega)]
    exact h.2.2.2.2 r hr j hj
def mP (i : Nat) (b : Int32) (z : SR) : SR := mW (mW (mW (mW (mW (mW z (12 + 6 * i + 0) 1) (12 + 6 * i + 1) 100) (12 + 6 * i + 2) 0) (12 + 6 * i + 3) b) (12 + 6 * i + 4) 0) (12 + 6 * i + 5) 0
theorem comesP {i : Nat} (hi : i < 12) (b : Int32) (z : SR) : pX3_pianoComes (nI i) b z = mP i b z := by
  rw [pX3_pianoComes]
  rw [show ∀ v Y, pX3_setPiano (nI i) 0 v Y = mW Y (12 + 6 * i + 0) v from fun v Y => sW 0 hi (by decide) v Y, show ∀ v Y, pX3_setPiano (nI i) 1 v Y = mW Y (12 + 6 * i + 1) v from fun v Y => sW 1 hi (by decide) v Y, show ∀ v Y, pX3_setPiano (nI i) 2 v Y = mW Y (12 + 6 * i + 2) v from fun v Y => sW 2 hi (by decide) v Y, show ∀ v Y, pX3_setPiano (nI i) 3 v Y = mW Y (12 + 6 * i + 3) v from fun v Y => sW 3 hi (by decide) v Y, show ∀ v Y, pX3_setPiano (nI i) 4 v Y = mW Y (12 + 6 * i + 4) v from fun v Y => sW 4 hi (by decide) v Y, show ∀ v Y, pX3_setPiano (nI i) 5 v Y = mW Y (12 + 6 * i + 5) v from fun v Y => sW 5 hi (by decide) v Y]
  rfl
theorem mP_0 (i : Nat) (b : Int32) (z : SR) : (mP i b z).2 0 = up (up (up (up (up (up (z.2 0) (12 + 6 * i + 0) 1) (12 + 6 * i + 1) 100) (12 + 6 * i + 2) 0) (12 + 6 * i + 3) b) (12 + 6 * i + 4) 0) (12 + 6 * i + 5) 0 := by
  unfold mP
  rw [mW_0, mW_0, mW_0, mW_0, mW_0, mW_0]
theorem F2_mP (i : Nat) (b : Int32) (z : SR) : F2 z (mP i b z) := ((((((F2_mW _ _ _).trans (F2_mW _ _ _)).trans (F2_mW _ _ _)).trans (F2_mW _ _ _)).trans (F2_mW _ _ _)).trans (F2_mW _ _ _))
def cP (x : SR) (i b : Int32) : SR := (pR (pR (pR (pR (pS (pS x 0 ((x.1 0) ||| (1 <<< (i &&& 31)))) 1 ((x.1 1) ||| (b <<< (i &&& 31)))) 1 i 100) 2 i 0) 3 i 0) 4 i 0)
theorem RS.come {x : SR} {m : Nat → Int32} (h : RS x m) {i : Nat} (hi : i < 12) (hb : bt (x.1 0) i = false) {b : Int32} (h01 : b = 0 ∨ b = 1) : RS (cP x (nI i) b) (up (up (up (up (up (up m (12 + 6 * i + 0) 1) (12 + 6 * i + 1) 100) (12 + 6 * i + 2) 0) (12 + 6 * i + 3) b) (12 + 6 * i + 4) 0) (12 + 6 * i + 5) 0) := by
  have hix : ix (nI i) = i := ix_nI (by omega)
  obtain ⟨-, -, q1, q2, -⟩ := h.2.2.1 i hi
  have f1 : bt (x.1 1) i = false := Bool.eq_false_iff.mpr (fun z => absurd (hb.symm.trans (q1 z)) (by decide))
  have f2 : bt (x.1 2) i = false := Bool.eq_false_iff.mpr (fun z => absurd (hb.symm.trans (q2 z).1) (by decide))
  have b0 : ∀ q, bt ((cP x (nI i) b).1 0) q = bt ((x.1 0) ||| ((1 : Int32) <<< (nI i &&& 31))) q := fun q => rfl
  have b1 : ∀ q, bt ((cP x (nI i) b).1 1) q = bt ((x.1 1) ||| (b <<< (nI i &&& 31))) q := fun q => rfl
  have b2 : ∀ q, bt ((cP x (nI i) b).1 2) q = bt (x.1 2) q := fun q => rfl
  have sh0 : ∀ v : Int32, v ||| ((0 : Int32) <<< (nI i &&& 31)) = v := fun v => by
    apply b_ext
    intro q hq
    rw [b_or, b_shl i (by omega) 0 hq, b_0, Bool.and_false, Bool.or_false]
  refine h.pla hi (fun r hr q hq => ?_) (fun r hr => ?_) (fun r hr => ?_) (fun r h1 h2 q hq => ?_) (fun j hj hn => ?_) ?_
  · rcases (show r = 0 ∨ r = 1 ∨ r = 2 by omega) with rfl | rfl | rfl
    · rw [b0]
      exact bset_ne _ (by omega) hq
    · rw [b1]
      rcases h01 with rfl | rfl
      · rw [sh0]
      · exact bset_ne _ (by omega) hq
    · rfl
  · show up (up x.1 0 _) 1 _ r = _
    rw [up_ne _ _ (by omega), up_ne _ _ (by omega)]
  · unfold cP
    rw [pR_or (by omega), pR_or (by omega), pR_or (by omega), pR_or (by omega)]
    rfl
  · unfold cP
    rw [pR_off (Or.inr (by rw [hix]; exact hq)), pR_off (Or.inr (by rw [hix]; exact hq)), pR_off (Or.inr (by rw [hix]; exact hq)), pR_off (Or.inr (by rw [hix]; exact hq))]
    rfl
  · rw [up_ne _ _ (by omega), up_ne _ _ (by omega), up_ne _ _ (by omega), up_ne _ _ (by omega), up_ne _ _ (by omega), up_ne _ _ (by omega)]
  · have s0 : bt ((cP x (nI i) b).1 0) i = true := by
      rw [b0]
      exact bset_eq _ (by omega)
    have s2 : bt ((cP x (nI i) b).1 2) i = false := f2
    refine ⟨?_, ?_, fun _ => s0, fun z => absurd (s2.symm.trans z) (by decide), fun _ => ⟨?_, ?_, ?_, ?_, ?_, ?_⟩, fun z => absurd (s0.symm.trans z) (by decide)⟩
    · rw [if_pos s0, up_ne _ _ (by omega), up_ne _ _ (by omega), up_ne _ _ (by omega), up_ne _ _ (by omega), up_ne _ _ (by omega)]
      exact up_same _ _ _
    · rw [s2, if_neg (by decide), up_ne _ _ (by omega), up_ne _ _ (by omega), up_same, b1]
      rcases h01 with rfl | rfl
      · rw [sh0, f1, if_neg (by decide)]
      · rw [bset_eq _ (by omega), if_pos rfl]
    · unfold cP
      rw [pR_or (by decide), pR_or (by decide), pR_or (by decide), pR_sm, hix, up_same, up_ne _ _ (by omega), up_ne _ _ (by omega), up_ne _ _ (by omega), up_ne _ _ (by omega), up_same]
    · unfold cP
      rw [pR_or (by decide), pR_or (by decide), pR_sm, hix, up_same, up_ne _ _ (by omega), up_ne _ _ (by omega), up_ne _ _ (by omega), up_same]
    · unfold cP
      rw [pR_or (by decide), pR_sm, hix, up_same, up_ne _ _ (by omega), up_same]
    · unfold cP
      rw [pR_sm, hix, up_same, up_same]
    · unfold cP
      rw [pR_or (by decide), pR_or (by decide), pR_or (by decide), pR_sm, hix, up_same]
      unfold inI
      decide
    · unfold cP
      rw [pR_or (by decide), pR_or (by decide), pR_sm, hix, up_same]
      unfold inI
      decide
theorem piano_op {x y : SR} (h : RN x (y.2 0)) (a b : Int32) : OPs x y (pX3_whyNoPiano a b y) (fun z => pX3_pianosThere (pX3_pianoComes a b z)) (pX3_pianoComes a b) (pX1_addPiano a b x) := by
  unfold OPs
  rw [pX1_addPiano, pX3_whyNoPiano, isPl_C]
  rcases pl_cases a with ⟨i, hi, rfl⟩ | hn
  · rw [isPl3 hi, if_neg (show ¬ (1 : Int32) = 0 by decide), if_neg (show ¬ (1 : Int32) = 0 by decide), isPi_eq h.1]
    have main : ∀ c : Int32, (c = 0 ∨ c = 1) → (¬ (0 : Int32) ≤ (if pX2_has (x.1 0) (nI i) = 0 then (0 : Int32) else -5) ∧ (if pX2_has (x.1 0) (nI i) = 0 then ((pJ6_bitCount_0f7a4 ((x.1 0) ||| (1 <<< (nI i &&& 31)))), cP x (nI i) c) else (((-5) : Int32), x)) = ((if pX2_has (x.1 0) (nI i) = 0 then (0 : Int32) else -5), x)) ∨ ((0 : Int32) ≤ (if pX2_has (x.1 0) (nI i) = 0 then (0 : Int32) else -5) ∧ (0 : Int32) ≤ (if pX2_has (x.1 0) (nI i) = 0 then ((pJ6_bitCount_0f7a4 ((x.1 0) ||| (1 <<< (nI i &&& 31)))), cP x (nI i) c) else (((-5) : Int32), x)).1 ∧ ∀ z : SR, z.2 0 = y.2 0 → (if pX2_has (x.1 0) (nI i) = 0 then ((pJ6_bitCount_0f7a4 ((x.1 0) ||| (1 <<< (nI i &&& 31)))), cP x (nI i) c) else (((-5) : Int32), x)).1 = pX3_pianosThere (pX3_pianoComes (nI i) c z) ∧ RN (if pX2_has (x.1 0) (nI i) = 0 then ((pJ6_bitCount_0f7a4 ((x.1 0) ||| (1 <<< (nI i &&& 31)))), cP x (nI i) c) else (((-5) : Int32), x)).2 ((pX3_pianoComes (nI i) c z).2 0) ∧ F2 z (pX3_pianoComes (nI i) c z)) := by
      intro c hc
      by_cases d : pX2_has (x.1 0) (nI i) = 0
      · rw [if_pos d, if_pos d]
        have hb := (has0 _ hi).mp d
        have g := h.1.come hi hb hc
        refine Or.inr ⟨by decide, ?_, fun z hz => ?_⟩
        · exact bc_pos (fun q hq => g.2.2.2.2 0 (by decide) q hq)
        · rw [comesP hi]
          have g2 : RS (cP x (nI i) c) ((mP i c z).2 0) := by
            rw [mP_0, hz]
            exact g
          refine ⟨?_, h.rs g2 ?_ ?_, F2_mP _ _ _⟩
          · rw [there_eq g2]
            rfl
          · rw [mP_0, hz, up_ne _ _ (by omega), up_ne _ _ (by omega), up_ne _ _ (by omega), up_ne _ _ (by omega), up_ne _ _ (by omega), up_ne _ _ (by omega)]
          · rw [mP_0, hz, up_ne _ _ (by omega), up_ne _ _ (by omega), up_ne _ _ (by omega), up_ne _ _ (by omega), up_ne _ _ (by omega), up_ne _ _ (by omega)]
      · rw [if_neg d, if_neg d]
        exact Or.inl ⟨by decide, rfl⟩
    by_cases c0 : b = 0
    · subst c0
      rw [if_pos rfl, if_neg (show ¬ pX3_within 0 0 1 = 0 by decide)]
      exact main 0 (Or.inl rfl)
    · by_cases c1 : b = 1
      · subst c1
        rw [if_neg (show ¬ (1 : Int32) = 0 by decide), if_pos rfl, if_neg (show ¬ pX3_within 1 0 1 = 0 by decide)]
        exact main 1 (Or.inr rfl)
      · rw [if_neg c0, if_neg c1]
        have hw : pX3_within b 0 1 = 0 := Classical.byContradiction fun z => by
          obtain ⟨j, hj, rfl⟩ := win_in (n := 1) 1 (by decide) rfl z
          rcases (show j = 0 ∨ j = 1 by omega) with rfl | rfl
          · exact c0 rfl
          · exact c1 rfl
        rw [if_pos hw]
        exact Or.inl ⟨by decide, rfl⟩
  · rw [isPl_no hn, if_pos rfl, if_pos rfl]
    exact Or.inl ⟨by decide, rfl⟩
theorem whyP_cg {y z : SR} (e : z.2 0 = y.2 0) (a b : Int32) : pX3_whyNoPiano a b z = pX3_whyNoPiano a b y := by
  rw [pX3_whyNoPiano, pX3_whyNoPiano, pX3_isPiano, pX3_isPiano, pX3_pianoPart, pX3_pianoPart, e]
theorem piano_eq {t : TV} {y : SR} (h : RT t y) (a b : Int32) : (pX2_piano a b t).1 = (pX3_piano a b y).1 ∧ RT (pX2_piano a b t).2 (pX3_piano a b y).2 := by
  rw [pX2_piano]
  exact change_ok h (piano_op h.1 a b) _ (by rw [pX3_piano])
-- a piano is taken
def mT (i : Nat) (z : SR) : SR := mW (mW (mW (mW (mW (mW z (12 + 6 * i + 0) 0) (12 + 6 * i + 1) 0) (12 + 6 * i + 2) 0) (12 + 6 * i + 3) 0) (12 + 6 * i + 4) 0) (12 + 6 * i + 5) 0
theorem take_step {i : Nat} (hi : i < 12) (n j : Nat) (hj : j < 6) (z : SR) : pX3_take_L16 (nI i) (n + 1) (nI j) z = pX3_take_L16 (nI i) n (nI (j + 1)) (mW z (12 + 6 * i + j) 0) := by
  rw [pX3_take_L16, if_neg (show ¬ (6 : Int32) ≤ nI j by
    rw [show (6 : Int32) = nI 6 from rfl, nI_leI (by omega) (by omega)]
    omega), nI_1, sW j hi hj]
theorem take_L {i : Nat} (hi : i < 12) (z : SR) : pX3_take_L16 (nI i) 7 0 z = (pX3_pianosThere (mT i z), mT i z) := by
  rw [← nI_0, take_step hi 6 0 (by decide), take_step hi 5 1 (by decide), take_step hi 4 2 (by decide), take_step hi 3 3 (by decide), take_step hi 2 4 (by decide), take_step hi 1 5 (by decide), pX3_take_L16, if_pos (show (6 : Int32) ≤ nI (5 + 1) by decide)]
  rfl
theorem mT_0 (i : Nat) (z : SR) : (mT i z).2 0 = up (up (up (up (up (up (z.2 0) (12 + 6 * i + 0) 0) (12 + 6 * i + 1) 0) (12 + 6 * i + 2) 0) (12 + 6 * i + 3) 0) (12 + 6 * i + 4) 0) (12 + 6 * i + 5) 0 := by
  unfold mT
  rw [mW_0, mW_0, mW_0, mW_0, mW_0, mW_0]
def cT (x : SR) (i : Int32) : SR := (pS (pS (pS x 0 ((x.1 0) &&& ((1 <<< (i &&& 31)) ^^^ (-1)))) 1 ((x.1 1) &&& ((1 <<< (i &&& 31)) ^^^ (-1)))) 2 ((x.1 2) &&& ((1 <<< (i &&& 31)) ^^^ (-1))))
theorem RS.gone {x : SR} {m : Nat → Int32} (h : RS x m) {i : Nat} (hi : i < 12) : RS (cT x (nI i)) (up (up (up (up (up (up m (12 + 6 * i + 0) 0) (12 + 6 * i + 1) 0) (12 + 6 * i + 2) 0) (12 + 6 * i + 3) 0) (12 + 6 * i + 4) 0) (12 + 6 * i + 5) 0) := by
  have b0 : ∀ q, bt ((cT x (nI i)).1 0) q = bt ((x.1 0) &&& (((1 : Int32) <<< (nI i &&& 31)) ^^^ (-1))) q := fun q => rfl
  have b1 : ∀ q, bt ((cT x (nI i)).1 1) q = bt ((x.1 1) &&& (((1 : Int32) <<< (nI i &&& 31)) ^^^ (-1))) q := fun q => rfl
  have b2 : ∀ q, bt ((cT x (nI i)).1 2) q = bt ((x.1 2) &&& (((1 : Int32) <<< (nI i &&& 31)) ^^^ (-1))) q := fun q => rfl
  refine h.pla hi (fun r hr q hq => ?_) (fun r hr => ?_) (fun r hr => rfl) (fun r h1 h2 q hq => rfl) (fun j hj hn => ?_) ?_
  · rcases (show r = 0 ∨ r = 1 ∨ r = 2 by omega) with rfl | rfl | rfl
    · rw [b0]
      exact bclr_ne _ (by omega) hq
    · rw [b1]
      exact bclr_ne _ (by omega) hq
    · rw [b2]
      exact bclr_ne _ (by omega) hq
  · show up (up (up x.1 0 _) 1 _) 2 _ r = _
    rw [up_ne _ _ (by omega), up_ne _ _ (by omega), up_ne _ _ (by omega)]
  · rw [up_ne _ _ (by omega), up_ne _ _ (by omega), up_ne _ _ (by omega), up_ne _ _ (by omega), up_ne _ _ (by omega), up_ne _ _ (by omega)]
  · have s0 : bt ((cT x (nI i)).1 0) i = false := by
      rw [b0]
      exact bclr_eq _ (by omega)
    have s1 : bt ((cT x (nI i)).1 1) i = false := by
      rw [b1]
      exact bclr_eq _ (by omega)
    have s2 : bt ((cT x (nI i)).1 2) i = false := by
      rw [b2]
      exact bclr_eq _ (by omega)
    refine ⟨?_, ?_, fun z => absurd (s1.symm.trans z) (by decide), fun z => absurd (s2.symm.trans z) (by decide), fun z => absurd (s0.symm.trans z) (by decide), fun _ => ?_⟩
    · rw [s0, if_neg (by decide), up_ne _ _ (by omega), up_ne _ _ (by omega), up_ne _ _ (by omega), up_ne _ _ (by omega), up_ne _ _ (by omega)]
      exact up_same _ _ _
    · rw [s2, s1, if_neg (by decide), if_neg (by decide), up_ne _ _ (by omega), up_ne _ _ (by omega), up_same]
    · rw [up_same]
theorem take_op {x y : SR} (h : RN x (y.2 0)) (a : Int32) : OPs x y (if pX3_isPiano a y = 0 then -1 else 0) (fun z => (pX3_take_L16 a 7 0 z).1) (fun z => (pX3_take_L16 a 7 0 z).2) (pX1_removePiano a x) := by
  unfold OPs
  rw [pX1_removePiano, isPi_eq h.1]
  by_cases c : pX2_has (x.1 0) a = 0
  · rw [if_pos c, if_pos c]
    exact Or.inl ⟨by decide, rfl⟩
  · rw [if_neg c, if_neg c]
    obtain ⟨i, hi, rfl, -⟩ := pi_there c
    have g := h.1.gone hi
    refine Or.inr ⟨by decide, ?_, fun z hz => ?_⟩
    · exact bc_pos (fun q hq => g.2.2.2.2 0 (by decide) q hq)
    · dsimp only
      rw [take_L hi]
      have g2 : RS (cT x (nI i)) ((mT i z).2 0) := by
        rw [mT_0, hz]
        exact g
      refine ⟨?_, h.rs g2 ?_ ?_, ((((((F2_mW _ _ _).trans (F2_mW _ _ _)).trans (F2_mW _ _ _)).trans (F2_mW _ _ _)).trans (F2_mW _ _ _)).trans (F2_mW _ _ _))⟩
      · show _ = pX3_pianosThere (mT i z)
        rw [there_eq g2]
        rfl
      · rw [mT_0, hz, up_ne _ _ (by omega), up_ne _ _ (by omega), up_ne _ _ (by omega), up_ne _ _ (by omega), up_ne _ _ (by omega), up_ne _ _ (by omega)]
      · rw [mT_0, hz, up_ne _ _ (by omega), up_ne _ _ (by omega), up_ne _ _ (by omega), up_ne _ _ (by omega), up_ne _ _ (by omega), up_ne _ _ (by omega)]
theorem take_eq {t : TV} {y : SR} (h : RT t y) (a : Int32) : (pX2_take a t).1 = (pX3_take a y).1 ∧ RT (pX2_take a t).2 (pX3_take a y).2 := by
  rw [pX2_take]
  refine change_ok h (take_op h.1 a) _ ?_
  rw [pX3_take]
  by_cases c : pX3_isPiano a y = 0
  · rw [if_pos c, if_pos c, if_neg (by decide)]
  · rw [if_neg c, if_neg c, if_pos (by decide)]
