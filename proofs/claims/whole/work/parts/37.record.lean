-- the whole relation
def RPad (p y : SR) : Prop := p.1 0 = y.1 1 ∧ inI (y.1 1) 0 80 ∧ (∀ j : Nat, (j : Int) < Int32.toInt (y.1 1) → p.2 0 j = y.2 5 j) ∧ chOK p ∧ inI (y.1 3) 0 81
def RHi (t : TV) (y : SR) : Prop := t.2.2.1 = y.1 0 ∧ inI (y.1 0) 0 6 ∧ ∀ h : Nat, (h : Int) < Int32.toInt (y.1 0) → RN (t.1 (3 + h)) (fun j => y.2 2 (109 * h + j))
def RSl (t : TV) (y : SR) : Prop := ∀ s, s < 2 → t.2.2.2 s = y.2 4 s ∧ (¬ y.2 4 s = 0 → RN (t.1 (9 + s)) (fun j => y.2 3 (109 * s + j)))
def RT (t : TV) (y : SR) : Prop := RN (t.1 0) (y.2 0) ∧ RHi t y ∧ RSl t y ∧ RPad t.2.1 y
theorem RHi.cg {t t' : TV} {y y' : SR} (h : RHi t y) (e : t'.2.2.1 = t.2.2.1) (f : ∀ k, 3 ≤ k → k < 9 → t'.1 k = t.1 k) (g : y'.1 0 = y.1 0) (g2 : y'.2 2 = y.2 2) : RHi t' y' := by
  obtain ⟨a, b, c⟩ := h
  refine ⟨by rw [e, g]; exact a, by rw [g]; exact b, fun k hk => ?_⟩
  rw [g] at hk
  have b2 := b.2
  rw [f _ (by omega) (by omega), g2]
  exact c k hk
theorem RSl.cg {t t' : TV} {y y' : SR} (h : RSl t y) (e : t'.2.2.2 = t.2.2.2) (f : ∀ k, 9 ≤ k → t'.1 k = t.1 k) (g3 : y'.2 3 = y.2 3) (g4 : y'.2 4 = y.2 4) : RSl t' y' := fun s hs => by
  rw [e, f _ (by omega), g3, g4]
  exact h s hs
theorem RPad.cg {p y y' : SR} (h : RPad p y) (g1 : y'.1 1 = y.1 1) (g3 : y'.1 3 = y.1 3) (g5 : y'.2 5 = y.2 5) : RPad p y' := by
  unfold RPad at h ⊢
  rw [g1, g3, g5]
  exact h
-- record
def rend (X : SR) : SR := pS (pX3_moves 0 0 2 (((X.1 0) - 1) * 109) (pS X 0 ((X.1 0) - 1))) 0 (((pX3_moves 0 0 2 (((X.1 0) - 1) * 109) (pS X 0 ((X.1 0) - 1))).1 0) + 1)
theorem rec_L : ∀ (n i : Nat) (x : SR), i ≤ 545 → 545 - i < n → pX3_record_L11 n (nI i) x = rend (x.1, up x.2 2 (fun j => if i ≤ j ∧ j < 545 then x.2 2 (j + 109) else x.2 2 j)) := by
  intro n
  induction n with
  | zero => intro i x h1 h2; omega
  | succ n ih =>
    intro i x h1 h2
    rw [pX3_record_L11]
    by_cases c : i = 545
    · subst c
      rw [if_pos (show (545 : Int32) ≤ nI 545 by decide)]
      have e : (x.1, up x.2 2 (fun j => if 545 ≤ j ∧ j < 545 then x.2 2 (j + 109) else x.2 2 j)) = x := by
        refine Prod.ext rfl ?_
        have e2 : (fun j => if 545 ≤ j ∧ j < 545 then x.2 2 (j + 109) else x.2 2 j) = x.2 2 := by
          funext j
          rw [if_neg (fun z => by omega)]
        show up x.2 2 _ = x.2
        rw [e2, up_id]
      rw [e]
      rfl
    · have hi : i < 545 := by omega
      rw [if_neg (show ¬ (545 : Int32) ≤ nI i by
        rw [show (545 : Int32) = nI 545 from rfl, nI_leI (by omega) (by omega)]
        omega), nI_1, ih (i + 1) _ (by omega) (by omega)]
      have e1 : ix (nI i + 109) = i + 109 := by
        rw [show (109 : Int32) = nI 109 from rfl, nI_add, ix_nI (by omega)]
      have e2 : (pR x 2 (nI i) (x.2 2 (ix (nI i + 109)))).2 = up x.2 2 (up (x.2 2) i (x.2 2 (i + 109))) := by
        unfold pR
        rw [e1, show ix (nI i) = i from ix_nI (by omega)]
      rw [e2, up_up, up_same]
      have e3 : (fun j => if i + 1 ≤ j ∧ j < 545 then up (x.2 2) i (x.2 2 (i + 109)) (j + 109) else up (x.2 2) i (x.2 2 (i + 109)) j) = (fun j => if i ≤ j ∧ j < 545 then x.2 2 (j + 109) else x.2 2 j) := by
        funext j
        by_cases c1 : j = i
        · subst c1
          rw [if_neg (fun z => by omega), up_same, if_pos ⟨Nat.le_refl _, hi⟩]
        · by_cases c2 : i + 1 ≤ j ∧ j < 545
          · rw [if_pos c2, up_ne _ _ (by omega), if_pos ⟨by omega, c2.2⟩]
          · rw [if_neg c2, up_ne _ _ c1, if_neg (fun z => c2 ⟨by omega, z.2⟩)]
      rw [e3]
      rfl
theorem cpA_at (f g : Nat → Int32) (s t : Nat) {j : Nat} (h : j < 109) : cpA f g s t 109 (t + j) = f (s + j) := by
  rw [cpA, if_pos ⟨by omega, by omega⟩, show t + j - t = j by omega]
theorem cpA_lo (f g : Nat → Int32) (s t : Nat) {j : Nat} (h : j < t) : cpA f g s t 109 j = g j := by
  rw [cpA, if_neg (fun z => by omega)]
theorem cpA_hi (f g : Nat → Int32) (s t : Nat) {j : Nat} (h : t + 109 ≤ j) : cpA f g s t 109 j = g j := by
  rw [cpA, if_neg (fun z => by omega)]
theorem mv_h (u : Nat) (hu : u < 6) (y : SR) : pX3_moves 0 0 2 (nI u * 109) y = (y.1, up y.2 2 (cpA (y.2 0) (y.2 2) 0 (109 * u) 109)) := by
  rw [show (109 : Int32) = nI 109 from rfl, nI_mulN, Nat.mul_comm u 109]
  exact moves_eq (k1 := 0) (k3 := 2) 0 (109 * u) y (by decide) (by decide) (by omega)
theorem record_f {y : SR} (h : inI (y.1 0) 0 6) : (∀ q, q ≠ 2 → (pX3_record y).2 q = y.2 q) ∧ (∀ q, q ≠ 0 → (pX3_record y).1 q = y.1 q) ∧ ∃ u, u ≤ 6 ∧ y.1 0 = nI u ∧ ((u < 6 ∧ (pX3_record y).1 0 = nI (u + 1) ∧ (∀ j, j < 109 * u → (pX3_record y).2 2 j = y.2 2 j) ∧ (∀ j, j < 109 → (pX3_record y).2 2 (109 * u + j) = y.2 0 j)) ∨ (u = 6 ∧ (pX3_record y).1 0 = nI 6 ∧ (∀ j, j < 545 → (pX3_record y).2 2 j = y.2 2 (j + 109)) ∧ (∀ j, j < 109 → (pX3_record y).2 2 (545 + j) = y.2 0 j))) := by
  obtain ⟨u, hu, eu⟩ := vp_in_of (x := y.1 0) (n := 7) (vp_in_iff.mpr ⟨h.1, by have := h.2; omega⟩) (by decide)
  by_cases c : u = 6
  · subst c
    have e : pX3_record y = rend (y.1, up y.2 2 (fun j => if 0 ≤ j ∧ j < 545 then y.2 2 (j + 109) else y.2 2 j)) := by
      rw [pX3_record, if_pos (show y.1 0 = 6 from eu), ← rec_L 546 0 y (by decide) (by decide), nI_0]
    generalize hX : ((y.1, up y.2 2 (fun j => if 0 ≤ j ∧ j < 545 then y.2 2 (j + 109) else y.2 2 j)) : SR) = X at e
    have x1 : X.1 = y.1 := by rw [← hX]
    have x2 : X.2 = up y.2 2 (fun j => if 0 ≤ j ∧ j < 545 then y.2 2 (j + 109) else y.2 2 j) := by rw [← hX]
    have em : pX3_moves 0 0 2 (((X.1 0) - 1) * 109) (pS X 0 ((X.1 0) - 1)) = (up y.1 0 (nI 5), up X.2 2 (cpA (X.2 0) (X.2 2) 0 545 109)) := by
      rw [x1, eu, show nI 6 - 1 = nI 5 from rfl, mv_h 5 (by decide)]
      show (up X.1 0 (nI 5), _) = _
      rw [x1]
      rfl
    have er : rend X = (up (up y.1 0 (nI 5)) 0 (nI 5 + 1), up X.2 2 (cpA (X.2 0) (X.2 2) 0 545 109)) := by
      unfold rend
      rw [em]
      rfl
    rw [e, er]
    have x20 : X.2 0 = y.2 0 := by rw [x2, up_ne _ _ (by decide)]
    have x22 : X.2 2 = (fun j => if 0 ≤ j ∧ j < 545 then y.2 2 (j + 109) else y.2 2 j) := by rw [x2, up_same]
    refine ⟨fun q hq => ?_, fun q hq => ?_, 6, by omega, eu, Or.inr ⟨rfl, ?_, fun j hj => ?_, fun j hj => ?_⟩⟩
    · show up X.2 2 (cpA (X.2 0) (X.2 2) 0 545 109) q = _
      rw [up_ne _ _ hq, x2, up_ne _ _ hq]
    · show up (up y.1 0 (nI 5)) 0 (nI 5 + 1) q = _
      rw [up_ne _ _ hq, up_ne _ _ hq]
    · show up (up y.1 0 (nI 5)) 0 (nI 5 + 1) 0 = _
      rw [up_same, nI_1]
    · show up X.2 2 (cpA (X.2 0) (X.2 2) 0 545 109) 2 j = _
      rw [up_same, cpA_lo _ _ _ _ hj, x22]
      exact if_pos ⟨Nat.zero_le _, hj⟩
    · show up X.2 2 (cpA (X.2 0) (X.2 2) 0 545 109) 2 (545 + j) = _
      rw [up_same, cpA_at _ _ _ _ hj, x20, Nat.zero_add]
  · have hu6 : u < 6 := by omega
    have e : pX3_record y = (up y.1 0 (nI u + 1), up y.2 2 (cpA (y.2 0) (y.2 2) 0 (109 * u) 109)) := by
      rw [pX3_record, if_neg (show ¬ y.1 0 = 6 from fun z => c ((nI_eq (by omega) (by omega)).mp (eu.symm.trans z))), eu, mv_h u hu6]
      show (up y.1 0 (y.1 0 + 1), _) = _
      rw [eu]
    rw [e]
    refine ⟨fun q hq => up_ne _ _ hq, fun q hq => up_ne _ _ hq, u, by omega, eu, Or.inl ⟨hu6, ?_, fun j hj => ?_, fun j hj => ?_⟩⟩
    · show up y.1 0 (nI u + 1) 0 = _
      rw [up_same, nI_1]
    · show up y.2 2 (cpA (y.2 0) (y.2 2) 0 (109 * u) 109) 2 j = _
      rw [up_same, cpA_lo _ _ _ _ hj]
    · show up y.2 2 (cpA (y.2 0) (y.2 2) 0 (109 * u) 109) 2 (109 * u + j) = _
      rw [up_same, cpA_at _ _ _ _ hj, Nat.zero_add]
/-- the class records what was before -/
theorem recorded_gen {t : TV} {y y' : SR} (hh : RHi t y) (hs : RSl t y) (hb : RN (t.1 1) (y.2 0)) (h0 : RN (t.1 0) (y'.2 0)) (g0 : y'.1 0 = (pX3_record y).1 0) (g2 : y'.2 2 = (pX3_record y).2 2) (g3 : y'.2 3 = y.2 3) (g4 : y'.2 4 = y.2 4) (a : Int32) (ha : 0 ≤ a) : (pX2_recorded a t).1 = a ∧ RN ((pX2_recorded a t).2.1 0) (y'.2 0) ∧ RHi (pX2_recorded a t).2 y' ∧ RSl (pX2_recorded a t).2 y' ∧ (pX2_recorded a t).2.2.1 = t.2.1 := by
  obtain ⟨e1, e2, e3⟩ := hh
  obtain ⟨r1, r2, u, hu, eu, hc⟩ := record_f e2
  rw [pX2_recorded, if_pos ha, e1, eu]
  rw [eu, nI_toInt (by omega)] at e3
  rcases hc with ⟨h6, f1, f2, f3⟩ | ⟨rfl, f1, f2, f3⟩
  · rw [if_pos (show nI u < 6 by rw [show (6 : Int32) = nI 6 from rfl, nI_ltI (by omega) (by omega)]; omega), if_neg (nI_pos (by omega)), if_neg (show ¬ 6 ≤ nI u by rw [show (6 : Int32) = nI 6 from rfl, nI_leI (by omega) (by omega)]; omega)]
    have hix : ix (nI u) = u := ix_nI (by omega)
    rw [hix, nI_1]
    refine ⟨rfl, ?_, ⟨?_, ?_, fun k hk => ?_⟩, ?_, rfl⟩
    · show RN ((tQ t (3 + u) _).1 0) _
      rw [tQ_of _ _ (by omega)]
      exact h0
    · show nI (u + 1) = y'.1 0
      rw [g0, f1]
    · rw [g0, f1]
      unfold inI
      rw [nI_toInt (by omega)]
      omega
    · rw [g0, f1, nI_toInt (by omega)] at hk
      show RN ((tQ t (3 + u) (pX2_copy (t.1 1) (t.1 (3 + u)))).1 (3 + k)) _
      rw [g2]
      by_cases c : k = u
      · subst c
        rw [tQ_at]
        exact (hb.mc (fun j hj => by rw [f3 j hj])).cp _
      · rw [tQ_of _ _ (by omega)]
        exact (e3 k (by omega)).mc (fun j hj => f2 _ (by omega))
    · refine hs.cg rfl (fun k hk => ?_) g3 g4
      show (tQ t (3 + u) _).1 k = _
      exact tQ_of _ _ (by omega)
  · rw [if_neg (show ¬ nI 6 < 6 by decide)]
    have ed : pX2_dropOldest t = ((fun k => t.1 (sg k)), t.2.1, 5, t.2.2.2) := rfl
    rw [ed]
    dsimp only
    rw [if_neg (show ¬ (5 : Int32) < 0 by decide), if_neg (show ¬ (6 : Int32) ≤ 5 by decide)]
    have hix : ix 5 = 5 := rfl
    rw [hix]
    have s0 : sg 0 = 0 := by decide
    have s1 : sg 1 = 1 := by decide
    generalize hT : (((fun k => t.1 (sg k)), t.2.1, 5, t.2.2.2) : TV) = T
    have T0 : T.1 0 = t.1 0 := by rw [← hT]; exact congrArg t.1 s0
    have Tk : ∀ k, T.1 k = t.1 (sg k) := fun k => by rw [← hT]
    have Tp : T.2.1 = t.2.1 := by rw [← hT]
    have Ts : T.2.2.2 = t.2.2.2 := by rw [← hT]
    refine ⟨rfl, ?_, ⟨?_, ?_, fun k hk => ?_⟩, ?_, Tp⟩
    · show RN ((tQ T (3 + 5) (pX2_copy (t.1 (sg 1)) (t.1 (sg (3 + 5))))).1 0) _
      rw [tQ_of _ _ (by omega), T0]
      exact h0
    · show (5 : Int32) + 1 = y'.1 0
      rw [g0, f1]
      rfl
    · rw [g0, f1]
      unfold inI
      rw [nI_toInt (by omega)]
      omega
    · rw [g0, f1, nI_toInt (by omega)] at hk
      show RN ((tQ T (3 + 5) (pX2_copy (t.1 (sg 1)) (t.1 (sg (3 + 5))))).1 (3 + k)) _
      rw [g2]
      by_cases c : k = 5
      · subst c
        rw [tQ_at, s1]
        exact (hb.mc (fun j hj => by rw [show 109 * 5 + j = 545 + j by omega, f3 j hj])).cp _
      · rw [tQ_of _ _ (by omega), Tk, show sg (3 + k) = 3 + (k + 1) by
          unfold sg
          rw [if_neg (by omega), if_pos ⟨by omega, by omega⟩]
          omega]
        exact (e3 (k + 1) (by omega)).mc (fun j hj => by
          show (pX3_record y).2 2 (109 * k + j) = y.2 2 (109 * (k + 1) + j)
          rw [f2 _ (by omega), show 109 * k + j + 109 = 109 * (k + 1) + j by omega])
    · refine hs.cg ?_ (fun k hk => ?_) g3 g4
      · show T.2.2.2 = _
        exact Ts
      · show (tQ T (3 + 5) _).1 k = _
        rw [tQ_of _ _ (by omega), Tk, sg_hi hk]
/-- a change that went through -/
theorem recorded_ok {t : TV} {y : SR} (h : RT t y) {s y' : SR} (g : F2 (pX3_record y) y') (hs : RN s (y'.2 0)) (a : Int32) (ha : 0 ≤ a) : (pX2_recorded a (tQ (tQ t 1 (pX2_copy (t.1 0) (t.1 1))) 0 s)).1 = a ∧ RT (pX2_recorded a (tQ (tQ t 1 (pX2_copy (t.1 0) (t.1 1))) 0 s)).2 y' := by
  obtain ⟨h0, hh, hsl, hp⟩ := h
  obtain ⟨r1, r2, -⟩ := record_f hh.2.1
  obtain ⟨a1, a2, a3, a4, a5⟩ := recorded_gen (t := tQ (tQ t 1 (pX2_copy (t.1 0) (t.1 1))) 0 s) (y := y) (y' := y') (hh.cg rfl (fun k h1 _ => by rw [tQ_of _ _ (by omega), tQ_of _ _ (by omega)]) rfl rfl) (hsl.cg rfl (fun k h1 => by rw [tQ_of _ _ (by omega), tQ_of _ _ (by omega)]) rfl rfl) (by rw [tQ_of _ _ (by decide), tQ_at]; exact h0.cp _) (by rw [tQ_at]; exact hs) (g.1 0 (by decide)) (g.2 2 (by decide)) ((g.2 3 (by decide)).trans (r1 3 (by decide))) ((g.2 4 (by decide)).trans (r1 4 (by decide))) a ha
  refine ⟨a1, a2, a3, a4, ?_⟩
  rw [a5]
  exact hp.cg ((g.1 1 (by decide)).trans (r2 1 (by decide))) ((g.1 3 (by decide)).trans (r2 3 (by decide))) ((g.2 5 (by decide)).trans (r1 5 (by decide)))
/-- a change that was refused -/
theorem recorded_no {t : TV} {y : SR} (h : RT t y) (a : Int32) (ha : ¬ 0 ≤ a) : (pX2_recorded a (tQ (tQ t 1 (pX2_copy (t.1 0) (t.1 1))) 0 (t.1 0))).1 = a ∧ RT (pX2_recorded a (tQ (tQ t 1 (pX2_copy (t.1 0) (t.1 1))) 0 (t.1 0))).2 y := by
  obtain ⟨h0, hh, hsl, hp⟩ := h
  rw [pX2_recorded, if_neg ha]
  exact ⟨rfl, by rw [tQ_at]; exact h0, hh.cg rfl (fun k h1 _ => by rw [tQ_of _ _ (by omega), tQ_of _ _ (by omega)]) rfl rfl, hsl.cg rfl (fun k h1 => by rw [tQ_of _ _ (by omega), tQ_of _ _ (by omega)]) rfl rfl, hp⟩
