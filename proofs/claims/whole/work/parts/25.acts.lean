-- numbers held between 0 and 100
theorem t_add {a b : Int32} (h : -2147483648 ≤ Int32.toInt a + Int32.toInt b ∧ Int32.toInt a + Int32.toInt b < 2147483648) : Int32.toInt (a + b) = Int32.toInt a + Int32.toInt b := by
  rw [Int32.toInt_add, Int.bmod_eq_of_le] <;> omega
theorem t_sub {a b : Int32} (h : -2147483648 ≤ Int32.toInt a - Int32.toInt b ∧ Int32.toInt a - Int32.toInt b < 2147483648) : Int32.toInt (a - b) = Int32.toInt a - Int32.toInt b := by
  rw [Int32.toInt_sub, Int.bmod_eq_of_le] <;> omega
theorem held_add {v w : Int32} (hv : inI v 0 100) (hw : inI w 0 50) : pX3_held (v + w) = mn 100 (v + w) ∧ inI (mn 100 (v + w)) 0 100 := by
  unfold inI at hv hw ⊢
  have e := t_add (a := v) (b := w) (by omega)
  have e0 : Int32.toInt 0 = 0 := rfl
  have e1 : Int32.toInt 100 = 100 := rfl
  rw [pX3_held, if_pos (show (0 : Int32) ≤ v + w by rw [Int32.le_iff_toInt_le, e, e0]; omega)]
  unfold mn
  by_cases c : v + w < 100
  · have c2 := c
    rw [Int32.lt_iff_toInt_lt, e, e1] at c2
    rw [if_pos c, if_pos (show v + w ≤ 100 by rw [Int32.le_iff_toInt_le, e, e1]; omega), e]
    exact ⟨rfl, by omega, by omega⟩
  · have c2 := c
    rw [Int32.lt_iff_toInt_lt, e, e1] at c2
    rw [if_neg c]
    refine ⟨?_, by rw [e1]; omega, by rw [e1]; omega⟩
    by_cases d : v + w ≤ 100
    · rw [if_pos d]
      rw [Int32.le_iff_toInt_le, e, e1] at d
      exact Int32.toInt_inj.mp (by rw [e, e1]; omega)
    · rw [if_neg d]
theorem held_sub {v w : Int32} (hv : inI v 0 100) (hw : inI w 0 50) : pX3_held (v - w) = mx 0 (v - w) ∧ inI (mx 0 (v - w)) 0 100 := by
  unfold inI at hv hw ⊢
  have e := t_sub (a := v) (b := w) (by omega)
  have e0 : Int32.toInt 0 = 0 := rfl
  have e1 : Int32.toInt 100 = 100 := rfl
  rw [pX3_held]
  unfold mx
  by_cases c : 0 < v - w
  · have c2 := c
    rw [Int32.lt_iff_toInt_lt, e, e0] at c2
    rw [if_pos c, if_pos (show (0 : Int32) ≤ v - w by rw [Int32.le_iff_toInt_le, e, e0]; omega), if_pos (show v - w ≤ 100 by rw [Int32.le_iff_toInt_le, e, e1]; omega), e]
    exact ⟨rfl, by omega, by omega⟩
  · have c2 := c
    rw [Int32.lt_iff_toInt_lt, e, e0] at c2
    rw [if_neg c]
    refine ⟨?_, by rw [e0]; omega, by rw [e0]; omega⟩
    by_cases d : 0 ≤ v - w
    · rw [if_pos d, if_pos (show v - w ≤ 100 by rw [Int32.le_iff_toInt_le, e, e1]; omega)]
      rw [Int32.le_iff_toInt_le, e, e0] at d
      exact Int32.toInt_inj.mp (by rw [e, e0]; omega)
    · rw [if_neg d]
-- one bit
theorem bset_ne (x : Int32) {i q : Nat} (hi : i < 32) (h : q ≠ i) : bt (x ||| ((1 : Int32) <<< (nI i &&& 31))) q = bt x q := by
  by_cases hq : q < 32
  · rw [b_set x hi hq, decide_eq_false h, Bool.or_false]
  · rw [b_big (by omega), b_big (by omega)]
theorem bset_eq (x : Int32) {i : Nat} (hi : i < 32) : bt (x ||| ((1 : Int32) <<< (nI i &&& 31))) i = true := by
  rw [b_set x hi hi, decide_eq_true rfl, Bool.or_true]
theorem bclr_ne (x : Int32) {i q : Nat} (hi : i < 32) (h : q ≠ i) : bt (x &&& (((1 : Int32) <<< (nI i &&& 31)) ^^^ (-1))) q = bt x q := by
  by_cases hq : q < 32
  · rw [b_clr x hi hq, decide_eq_false h, Bool.not_false, Bool.and_true]
  · rw [b_big (by omega), b_big (by omega)]
theorem bclr_eq (x : Int32) {i : Nat} (hi : i < 32) : bt (x &&& (((1 : Int32) <<< (nI i &&& 31)) ^^^ (-1))) i = false := by
  rw [b_clr x hi hi, decide_eq_true rfl, Bool.not_true, Bool.and_false]
-- what a keeper does at a place
def F2 (y y' : SR) : Prop := (∀ q, q ≠ 2 → y'.1 q = y.1 q) ∧ (∀ q, q ≠ 0 → y'.2 q = y.2 q)
theorem F2.refl (y : SR) : F2 y y := ⟨fun _ _ => rfl, fun _ _ => rfl⟩
theorem F2.trans {y z w : SR} (h : F2 y z) (g : F2 z w) : F2 y w := ⟨fun q hq => (g.1 q hq).trans (h.1 q hq), fun q hq => (g.2 q hq).trans (h.2 q hq)⟩
theorem F2_mW (y : SR) (c : Nat) (v : Int32) : F2 y (mW y c v) := ⟨fun _ _ => rfl, fun _ hq => up_ne _ _ hq⟩
theorem F2_pS (y : SR) (v : Int32) : F2 y (pS y 2 v) := ⟨fun _ hq => up_ne _ _ hq, fun _ _ => rfl⟩
theorem RS.kv {x : SR} {m : Nat → Int32} (h : RS x m) {k : Nat} (hk : (k : Int) < Int32.toInt (m 11)) (j : Nat) (hj : j < 5) : m (84 + 5 * k + j) = x.2 (5 + j) (ix (nI k)) := by
  rw [ix_nI (by have := h.k5 hk; omega)]
  exact ((h.2.2.2.1.2 k hk).1 j hj).symm
theorem RS.pl {x : SR} {m : Nat → Int32} (h : RS x m) {k : Nat} (hk : (k : Int) < Int32.toInt (m 11)) : ∃ a, a < 12 ∧ x.2 5 (ix (nI k)) = nI a := by
  have e : m (84 + 5 * k) = x.2 5 (ix (nI k)) := h.kv hk 0 (by decide)
  have i := (h.2.2.2.1.2 k hk).2
  rw [e] at i
  exact vp_in_of (vp_in_iff.mpr ⟨i.1, by have := i.2; omega⟩) (by decide)
theorem kpart {x y : SR} (h : RS x (y.2 0)) {k : Nat} (hk : (k : Int) < Int32.toInt (y.2 0 11)) : pX3_keeperPart (nI k) 0 y = x.2 5 (ix (nI k)) := by
  rw [show pX3_keeperPart (nI k) 0 y = y.2 0 (84 + 5 * k + 0) from kP 0 (h.k5 hk) (by decide) y]
  exact h.kv hk 0 (by decide)
theorem does_go {x y : SR} (h : RS x (y.2 0)) {k j : Nat} (hk : (k : Int) < Int32.toInt (y.2 0 11)) (hj : j < 12) (what : Int32) (hne : ¬ x.2 5 (ix (nI k)) = nI j) : RS (pX1_goTowards (nI k) (nI j) x) ((pX3_does (nI k) (nI j) what y).2 0) ∧ (pX3_does (nI k) (nI j) what y).1 = y.1 ∧ F2 y (pX3_does (nI k) (nI j) what y) := by
  have hk5 := h.k5 hk
  have e0 : y.2 0 (84 + 5 * k + 0) = x.2 5 (ix (nI k)) := h.kv hk 0 (by decide)
  have e4 : y.2 0 (84 + 5 * k + 4) = x.2 9 (ix (nI k)) := h.kv hk 4 (by decide)
  obtain ⟨a, ha, ea⟩ := h.pl hk
  rw [pX3_does, kpart h hk, if_neg hne, pX1_goTowards]
  rw [ea] at hne
  have st : ∀ v : Int32, inI (x.2 5 (ix (nI k)) + v) 0 11 → RS (pR (pR x 5 (nI k) (x.2 5 (ix (nI k)) + v)) 9 (nI k) (x.2 9 (ix (nI k)) + 1)) ((pX3_adds (nI k) 4 1 (pX3_adds (nI k) 0 v y)).2 0) ∧ (pX3_adds (nI k) 4 1 (pX3_adds (nI k) 0 v y)).1 = y.1 ∧ F2 y (pX3_adds (nI k) 4 1 (pX3_adds (nI k) 0 v y)) := by
    intro v hv
    rw [show ∀ Y, pX3_adds (nI k) 4 1 Y = mW Y (84 + 5 * k + 4) (Y.2 0 (84 + 5 * k + 4) + 1) from fun Y => aW 4 hk5 (by decide) 1 Y, show pX3_adds (nI k) 0 v y = mW y (84 + 5 * k + 0) (y.2 0 (84 + 5 * k + 0) + v) from aW 0 hk5 (by decide) v y]
    refine ⟨?_, rfl, (F2_mW _ _ _).trans (F2_mW _ _ _)⟩
    rw [mW_0, mW_0, up_ne _ _ (show 84 + 5 * k + 4 ≠ 84 + 5 * k + 0 by omega), e0, e4]
    exact (h.kp (j := 0) hk (by decide) _ (fun _ => hv)).kp (j := 4) (by rw [up_ne _ _ (by omega)]; exact hk) (by decide) _ (fun q => absurd q (by decide))
  have ta : Int32.toInt (nI a) = a := nI_toInt (by omega)
  by_cases c : nI j ≤ x.2 5 (ix (nI k))
  · rw [if_pos c, if_pos c]
    rw [ea, nI_leI (by omega) (by omega)] at c
    refine st (-1) ?_
    have hja : j ≠ a := fun q => hne (by rw [q])
    unfold inI
    rw [ea, t_add (by rw [ta]; exact ⟨by rw [show Int32.toInt (-1) = -1 from rfl]; omega, by rw [show Int32.toInt (-1) = -1 from rfl]; omega⟩), ta, show Int32.toInt (-1) = -1 from rfl]
    omega
  · rw [if_neg c, if_neg c]
    rw [ea, nI_leI (by omega) (by omega)] at c
    refine st 1 ?_
    unfold inI
    rw [ea, t_add (by rw [ta]; exact ⟨by rw [show Int32.toInt 1 = 1 from rfl]; omega, by rw [show Int32.toInt 1 = 1 from rfl]; omega⟩), ta, show Int32.toInt 1 = 1 from rfl]
    omega
theorem does_3 {x y : SR} (h : RS x (y.2 0)) {k j : Nat} (hk : (k : Int) < Int32.toInt (y.2 0 11)) (hj : j < 12) (hb : bt (x.1 0) j = true) (hat : x.2 5 (ix (nI k)) = nI j) : RS (pX1_tune (nI k) (nI j) x) ((pX3_does (nI k) (nI j) 3 y).2 0) ∧ (pX3_does (nI k) (nI j) 3 y).1 = y.1 ∧ F2 y (pX3_does (nI k) (nI j) 3 y) := by
  have hk5 := h.k5 hk
  obtain ⟨e1, _, _, _, i1, _⟩ := (h.2.2.1 j hj).2.2.2.2.1 hb
  rw [pX3_does, kpart h hk, if_pos hat, if_pos (by decide), pX1_tune, show pX3_pianoPart (nI j) 1 y = y.2 0 (12 + 6 * j + 1) from pP 1 hj (by decide) y, ← e1]
  obtain ⟨g1, g2⟩ := held_add (v := x.2 1 j) (w := 10) i1 (by unfold inI; decide)
  rw [g1, show ix (nI j) = j from ix_nI (by omega)]
  rw [show ∀ Y, pX3_adds (nI k) 3 1 Y = mW Y (84 + 5 * k + 3) (Y.2 0 (84 + 5 * k + 3) + 1) from fun Y => aW 3 hk5 (by decide) 1 Y, show ∀ v, pX3_setPiano (nI j) 1 v y = mW y (12 + 6 * j + 1) v from fun v => sW 1 hj (by decide) v y]
  refine ⟨?_, rfl, (F2_mW _ _ _).trans (F2_mW _ _ _)⟩
  rw [mW_0, mW_0, up_ne _ _ (show 84 + 5 * k + 3 ≠ 12 + 6 * j + 1 by omega), h.kv hk 3 (by decide)]
  exact (h.row (r := 1) hj hb (Or.inl ⟨rfl, rfl⟩) _ (fun _ => g2)).kp (j := 3) (by rw [up_ne _ _ (by omega)]; exact hk) (by decide) _ (fun q => absurd q (by decide))
theorem does_1 {x y : SR} (h : RS x (y.2 0)) {k j : Nat} (hk : (k : Int) < Int32.toInt (y.2 0 11)) (hj : j < 12) (hb : bt (x.1 1) j = true) (hat : x.2 5 (ix (nI k)) = nI j) : RS (pX1_putCoverOn (nI k) (nI j) x) ((pX3_does (nI k) (nI j) 1 y).2 0) ∧ (pX3_does (nI k) (nI j) 1 y).1 = y.1 ∧ F2 y (pX3_does (nI k) (nI j) 1 y) := by
  have hk5 := h.k5 hk
  have hb0 := (h.2.2.1 j hj).2.2.1 hb
  rw [pX3_does, kpart h hk, if_pos hat, if_neg (by decide), if_pos rfl, pX1_putCoverOn]
  rw [show ∀ Y, pX3_adds (nI k) 1 1 Y = mW Y (84 + 5 * k + 1) (Y.2 0 (84 + 5 * k + 1) + 1) from fun Y => aW 1 hk5 (by decide) 1 Y, show pX3_setPiano (nI j) 3 (3 - 1) y = mW y (12 + 6 * j + 3) 2 from sW 3 hj (by decide) 2 y]
  refine ⟨?_, rfl, (F2_mW _ _ _).trans (F2_mW _ _ _)⟩
  rw [mW_0, mW_0, up_ne _ _ (show 84 + 5 * k + 1 ≠ 12 + 6 * j + 3 by omega), h.kv hk 1 (by decide)]
  have s2 : bt (((x.1 2) ||| ((1 : Int32) <<< (nI j &&& 31)))) j = true := bset_eq _ (by omega)
  have h2 := h.cov (x' := pS (pS x 1 ((x.1 1) &&& ((1 <<< (nI j &&& 31)) ^^^ (-1)))) 2 ((x.1 2) ||| (1 <<< (nI j &&& 31)))) hj hb0 rfl rfl (fun i hi => by
    show up (up x.1 1 _) 2 _ i = _
    rw [up_ne _ _ (by omega), up_ne _ _ (by omega)]) (fun q hq => bclr_ne (x.1 1) (by omega) hq) (fun q hq => bset_ne (x.1 2) (by omega) hq) 2 (if_pos s2).symm (fun _ => bclr_eq (x.1 1) (by omega))
  exact h2.kp (j := 1) (by rw [up_ne _ _ (by omega)]; exact hk) (by decide) _ (fun q => absurd q (by decide))
theorem does_2 {x y : SR} (h : RS x (y.2 0)) {k j : Nat} (hk : (k : Int) < Int32.toInt (y.2 0 11)) (hj : j < 12) (hb : bt (x.1 2) j = true) (hat : x.2 5 (ix (nI k)) = nI j) : RS (pX1_takeCoverOff (nI k) (nI j) x) ((pX3_does (nI k) (nI j) 2 y).2 0) ∧ (pX3_does (nI k) (nI j) 2 y).1 = y.1 ∧ F2 y (pX3_does (nI k) (nI j) 2 y) := by
  have hk5 := h.k5 hk
  have hb0 := ((h.2.2.1 j hj).2.2.2.1 hb).1
  rw [pX3_does, kpart h hk, if_pos hat, if_neg (by decide), if_neg (by decide), pX1_takeCoverOff]
  rw [show ∀ Y, pX3_adds (nI k) 2 1 Y = mW Y (84 + 5 * k + 2) (Y.2 0 (84 + 5 * k + 2) + 1) from fun Y => aW 2 hk5 (by decide) 1 Y, show pX3_setPiano (nI j) 3 (3 - 2) y = mW y (12 + 6 * j + 3) 1 from sW 3 hj (by decide) 1 y]
  refine ⟨?_, rfl, (F2_mW _ _ _).trans (F2_mW _ _ _)⟩
  rw [mW_0, mW_0, up_ne _ _ (show 84 + 5 * k + 2 ≠ 12 + 6 * j + 3 by omega), h.kv hk 2 (by decide)]
  have s1 : bt (((x.1 1) ||| ((1 : Int32) <<< (nI j &&& 31)))) j = true := bset_eq _ (by omega)
  have s2 : bt (((x.1 2) &&& (((1 : Int32) <<< (nI j &&& 31)) ^^^ (-1)))) j = false := bclr_eq _ (by omega)
  have h2 := h.cov (x' := pS (pS x 2 ((x.1 2) &&& ((1 <<< (nI j &&& 31)) ^^^ (-1)))) 1 ((x.1 1) ||| (1 <<< (nI j &&& 31)))) hj hb0 rfl rfl (fun i hi => by
    show up (up x.1 2 _) 1 _ i = _
    rw [up_ne _ _ (by omega), up_ne _ _ (by omega)]) (fun q hq => bset_ne (x.1 1) (by omega) hq) (fun q hq => bclr_ne (x.1 2) (by omega) hq) 1 ((if_neg (fun z => absurd (s2.symm.trans z) (by decide))).trans (if_pos s1)).symm (fun z => absurd (s2.symm.trans z) (by decide))
  exact h2.kp (j := 2) (by rw [up_ne _ _ (by omega)]; exact hk) (by decide) _ (fun q => absurd q (by decide))
